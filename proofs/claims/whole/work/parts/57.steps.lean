/-! each call of the law keeps what holds in every run -/
section GS
variable {c n k P K : Nat} {ρ : RuT} {pl : Nat → PlT} {sn : Nat → SnT}
theorem gdX_s (h : gdX c n k P K ρ pl sn) : gdX (c + 1) n k P K ρ pl sn := ⟨h.1, h.2.1, fun q hq => (h.2.2 q hq).up⟩
theorem gdX_pl {pi : Int32} {f : PlT → Int32 × PlT} (h : gdX c n k P K ρ pl sn) (hf : ∀ π, gdP c n k π → gdP (c + 1) n k (f π).2) : gdX (c + 1) n k P K ρ (xPl P pl pi f).2 sn := by
  unfold xPl
  by_cases hp : hasB P pi = true
  · rw [if_pos hp]
    have hq := (hasB_of hp (by have := h.1.2.2.2.1; omega)).2
    exact gdX_up (gdX_s h) hq (hf _ (h.2.2 _ hq))
  · rw [if_neg hp]
    exact gdX_s h
theorem gdX_object (h : gdX c n k P K ρ pl sn) (hc : c < 2147483648) : gdX (c + 1) (xObject n k P ρ pl).2.1 k P K ρ (xObject n k P ρ pl).2.2 sn := by
  unfold xObject
  by_cases h1 : stB P (pCh (pl 0)) = true
  · rw [if_pos h1]; exact gdX_s h
  · rw [if_neg h1]
    by_cases h2 : n < 40
    · rw [if_pos h2]
      obtain ⟨⟨a1, a2, a3, a4, a5, a6, a7⟩, hb, hg⟩ := h
      have hP : ∀ q, q < P → q = 0 := fun q hq => by
        have e9 : ¬ 1 < P := fun e => h1 (by unfold stB; simp [e])
        omega
      have h0 : pKn (pl 0) = 0 := st_kn (hg 0 a3).2.2.2 hc (by simpa using h1)
      have hn : ∀ q, q < P → gdP (c + 1) (n + 1) k (va_up pl 0 (plAdd n k ρ (pl 0)) q) := fun q hq => by
        have e := hP q hq
        subst e
        rw [va_up_self]
        exact gd_add (hg 0 a3) h2 h0
      exact ⟨⟨by show n + 1 ≤ 40; omega, a2, a3, a4, a5, fun q hq => (hn q hq).1, a7⟩, hb, hn⟩
    · rw [if_neg h2]; exact gdX_s h
theorem gdX_rule {a b x w v : Int32} (h : gdX c n k P K ρ pl sn) : gdX (c + 1) n (xRule n k P ρ pl a b x w v).2.1 P K (xRule n k P ρ pl a b x w v).2.2.1 (xRule n k P ρ pl a b x w v).2.2.2 sn := by
  unfold xRule
  by_cases h0 : ruB a b x w v = true
  · rw [if_pos h0]
    by_cases h1 : stB P (pCh (pl 0)) = true
    · rw [if_pos h1]; exact gdX_s h
    · rw [if_neg h1]
      by_cases h2 : k < 12
      · rw [if_pos h2]
        obtain ⟨⟨a1, a2, a3, a4, a5, a6, a7⟩, hb, hg⟩ := h
        unfold ruB at h0
        simp only [Bool.and_eq_true] at h0
        obtain ⟨⟨⟨⟨r1, r2⟩, r3⟩, r4⟩, r5⟩ := h0
        have q1 := (wiB_of (b := 5) r1 (by omega)).2
        have q2 := (wiB_of (b := 3) r2 (by omega)).2
        have hP : ∀ q, q < P → q = 0 := fun q hq => by
          have e9 : ¬ 1 < P := fun e => h1 (by unfold stB; simp [e])
          omega
        have hn : ∀ q, q < P → gdP (c + 1) n (k + 1) (va_up pl 0 (plRule n k (va_up ρ k (ruT a b x w v)) (pl 0)) q) := fun q hq => by
          have e := hP q hq
          subst e
          rw [va_up_self]
          exact gd_rule (hg 0 a3)
        refine ⟨⟨a1, ⟨by show k + 1 ≤ 12; omega, fun r hr => ?_⟩, a3, a4, a5, fun q hq => (hn q hq).1, a7⟩, fun r hr => ?_, hn⟩
        · show (va_up ρ k (ruT a b x w v) r).1 < 6 ∧ (va_up ρ k (ruT a b x w v) r).2.1 < 4
          have hr : r < k + 1 := hr
          by_cases e : r = k
          · subst e
            rw [va_up_self]
            exact ⟨Nat.lt_succ_of_le q1, Nat.lt_succ_of_le q2⟩
          · rw [va_up_ne _ _ e]
            exact a2.2 r (by omega)
        · show bI (va_up ρ k (ruT a b x w v) r).2.2.1 1000000
          have hr : r < k + 1 := hr
          by_cases e : r = k
          · subst e
            rw [va_up_self]
            exact wiB_bI r3
          · rw [va_up_ne _ _ e]
            exact hb r (by omega)
      · rw [if_neg h2]; exact gdX_s h
  · rw [if_neg h0]; exact gdX_s h
theorem gdX_fork {pi : Int32} (h : gdX c n k P K ρ pl sn) : gdX (c + 1) n k (xFork k P pl pi).2.1 K ρ (xFork k P pl pi).2.2 sn := by
  unfold xFork
  by_cases hp : hasB P pi = true
  · rw [if_pos hp]
    by_cases h2 : P < 4
    · rw [if_pos h2]
      have hq := (hasB_of hp (by omega)).2
      obtain ⟨⟨a1, a2, a3, a4, a5, a6, a7⟩, hb, hg⟩ := h
      have hn : ∀ q, q < P + 1 → gdP (c + 1) n k (va_up pl P (plNew k (pl pi.toNatClampNeg)) q) := fun q hq2 => by
        by_cases e : q = P
        · subst e
          rw [va_up_self]
          exact gd_new (hg _ hq)
        · rw [va_up_ne _ _ e]
          exact (hg q (by omega)).up
      exact ⟨⟨a1, a2, by show 1 ≤ P + 1; omega, by show P + 1 ≤ 4; omega, a5, fun q hq => (hn q hq).1, a7⟩, hb, hn⟩
    · rw [if_neg h2]; exact gdX_s h
  · rw [if_neg hp]; exact gdX_s h
theorem gdX_keep {pi : Int32} (h : gdX c n k P K ρ pl sn) : gdX (c + 1) n k P (xKeep n k P K ρ pl sn pi).2.1 ρ pl (xKeep n k P K ρ pl sn pi).2.2 := by
  unfold xKeep
  by_cases hp : hasB P pi = true
  · rw [if_pos hp]
    by_cases h2 : K < 20
    · rw [if_pos h2]
      obtain ⟨⟨a1, a2, a3, a4, a5, a6, a7⟩, hb, hg⟩ := gdX_s h
      refine ⟨⟨a1, a2, a3, a4, by show K + 1 ≤ 20; omega, a6, fun i hi => ?_⟩, hb, hg⟩
      have hi : i < K + 1 := hi
      show (va_up sn K (n, pM (pl pi.toNatClampNeg), scS ρ (pK (pl pi.toNatClampNeg)) k 3) i).1 ≤ 40
      by_cases e : i = K
      · subst e
        rw [va_up_self]
        exact a1
      · rw [va_up_ne _ _ e]
        exact a7 i (by omega)
    · rw [if_neg h2]; exact gdX_s h
  · rw [if_neg hp]; exact gdX_s h
theorem gdX_0 {ρ : RuT} {sn : Nat → SnT} : gdX 0 0 0 1 0 ρ (fun _ => pl0) sn := by
  have h0 : gdP 0 0 0 pl0 := by
    refine ⟨⟨fun _ _ _ => rfl, Nat.zero_le _, by show 0 < 60; omega, Nat.zero_le _, fun q => absurd (show false = true from q) (by decide), fun i hi => absurd hi (Nat.not_lt_zero _)⟩, fun _ _ => rfl, fun i hi => ?_, ⟨0, Nat.le_refl _, rfl, fun q => absurd q (Nat.not_lt_zero _)⟩⟩
    have e : i = 0 := Nat.le_zero.mp hi
    subst e
    exact ⟨fun o ho => absurd ho (Nat.not_lt_zero _), fun o ho => absurd ho (Nat.not_lt_zero _), ⟨fun _ => 0, fun o ho => absurd ho (Nat.not_lt_zero _)⟩, fun o ho => absurd ho (Nat.not_lt_zero _), fun o ho => absurd ho (Nat.not_lt_zero _)⟩
  exact ⟨⟨Nat.zero_le _, ⟨Nat.zero_le _, fun r hr => absurd hr (Nat.not_lt_zero _)⟩, Nat.le_refl _, by omega, Nat.zero_le _, fun q hq => h0.1, fun i hi => absurd hi (Nat.not_lt_zero _)⟩, fun r hr => absurd hr (Nat.not_lt_zero _), fun q hq => h0⟩
end GS
theorem isM.o {ad : Nat → Nat} {V : Nat → Option va_E} {cy : Nat → ClassId} {n k P K : Nat} {ce : Int32} {ρ : RuT} {pl : Nat → PlT} {sn : Nat → SnT} (h : isM ad V cy n k P K ce ρ pl sn) : ∃ fs, V 2000 = some (.inr (7, fs)) := by
  obtain ⟨_, _, _, _, _, _, _, _, _, _, _, _, _, _, _, _, _, _, _, _, _, _, _, ⟨h0, _⟩, _⟩ := h
  exact ⟨_, h0⟩
section WC
variable {p : Program} {l : Launch} {e : Env} {R : Room} {s : State} {m : MethodId} {args : Array Value} {below : List Frame} {meth : Method} {c : Code} {Q : State → Prop}
/-- a loop whose room grows from turn to turn -/
theorem wlc (kc ks : Nat → Nat) (N : Nat) (I : Nat → Heap → List Loc → JFrame → Prop) (step : ∀ i H locs g, i ≤ N → I i H locs g → (∀ H' locs' g', i < N → I (i + 1) H' locs' g' → W p l e R s m args below meth c H' locs' (kc (i + 1)) (ks (i + 1)) Q g') → W p l e R s m args below meth c H locs (kc i) (ks i) Q g) (i : Nat) (H : Heap) (locs : List Loc) (g : JFrame) (hi : i ≤ N) (h : I i H locs g) : W p l e R s m args below meth c H locs (kc i) (ks i) Q g := by
  have key : ∀ n i H locs g, N - i < n → i ≤ N → I i H locs g → W p l e R s m args below meth c H locs (kc i) (ks i) Q g := by
    intro n
    induction n with
    | zero => intro i H locs g h; exact absurd h (Nat.not_lt_zero _)
    | succ n ih => intro i H locs g hn hi hI; exact step i H locs g hi hI (fun H' locs' g' hlt hj => ih (i + 1) H' locs' g' (by omega) (by omega) hj)
  exact key _ i H locs g (Nat.lt_succ_self _) hi h
end WC
