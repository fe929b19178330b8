theorem tbI_ok {n k : Nat} {ρ : RuT} {ho hm hv : Nat → Int32} {hs : Nat → Nat → Int64} {M : Nat → Nat → Int32} {kp : Nat → Int64} {co : Int32} {nx kn bn : Nat} (hn : n ≤ 40) (hZ : Zt n M) (hnx : nx < 60) (hkn : kn ≤ 60) (hOk : hOK n ho hm nx kn) (hb : bn ≤ kn) : ∀ i, i ≤ bn →
    Zt n (tbI n k ρ ho hm hv hs true i (M, kp, co, nx, kn, bn)).1 ∧ (tbI n k ρ ho hm hv hs true i (M, kp, co, nx, kn, bn)).2.2.2.1 < 60 ∧ (tbI n k ρ ho hm hv hs true i (M, kp, co, nx, kn, bn)).2.2.2.2.1 = kn - i ∧ (tbI n k ρ ho hm hv hs true i (M, kp, co, nx, kn, bn)).2.2.2.2.2 = bn - i ∧ hOK n ho hm (tbI n k ρ ho hm hv hs true i (M, kp, co, nx, kn, bn)).2.2.2.1 (kn - i)
  | 0, _ => ⟨hZ, hnx, rfl, rfl, hOk⟩
  | i + 1, hi => by
    obtain ⟨h1, h2, h3, h4, h5⟩ := tbI_ok (k := k) (ρ := ρ) (hv := hv) (hs := hs) (kp := kp) (co := co) hn hZ hnx hkn hOk hb i (by omega)
    rw [show tbI n k ρ ho hm hv hs true (i + 1) (M, kp, co, nx, kn, bn) = tbF n k ρ ho hm hv hs true (tbI n k ρ ho hm hv hs true i (M, kp, co, nx, kn, bn)) from rfl]
    generalize tbI n k ρ ho hm hv hs true i (M, kp, co, nx, kn, bn) = y at h1 h2 h3 h4 h5 ⊢
    obtain ⟨My, kpy, coy, nxy, kny, bny⟩ := y
    dsimp only at h1 h2 h3 h4 h5
    subst h3; subst h4
    have h6 := hOK_pop h5 h2 (by omega)
    obtain ⟨oo, mm, a1, a2, a3, a4⟩ := h5 0 (by omega)
    rw [rix_0 h2] at a3
    refine ⟨?_, nxD_lt h2, Nat.sub_sub _ _ _, Nat.sub_sub _ _ _, by rw [Nat.sub_sub] at h6; exact h6⟩
    show Zt n (tbM n ho hm hv My (nxD nxy))
    unfold tbM
    exact Zt_put h1 _ (by rw [a3, nI_clamp (by omega)]; exact a1)
def cpU {α : Type} (a b : Nat → α) (i : Nat) : Nat → α := fun r => if r < i then b r else a r
theorem cpU_0 {α : Type} (a b : Nat → α) : cpU a b 0 = a := by funext r; simp [cpU]
theorem cpU_l (a b : Nat → Int64) (i : Nat) : vp_updL (cpU a b i) i (b i) = cpU a b (i + 1) := by
  funext r
  by_cases h : r = i
  · subst h; simp [cpU, vp_updL]
  · have : r < i + 1 ↔ r < i := by omega
    simp [cpU, vp_updL, h, this]
theorem cpU_b (a b : Nat → Bool) (i : Nat) : upd (fun r => b2i (cpU a b i r)) i (b2i (b i)) = fun r => b2i (cpU a b (i + 1) r) := by
  funext r
  by_cases h : r = i
  · subst h; simp [cpU, upd]
  · have : r < i + 1 ↔ r < i := by omega
    simp [cpU, upd, h, this]
