/-! arrays written piece by piece -/
def cpA {α : Type} (src dst : Nat → α) (a b i : Nat) : Nat → α := fun j => if b ≤ j ∧ j < b + i then src (a + (j - b)) else dst j
theorem cpA_0 {α : Type} (src dst : Nat → α) (a b : Nat) : cpA src dst a b 0 = dst := by
  funext j
  unfold cpA
  rw [if_neg (by omega)]
theorem cpA_in {α : Type} {src dst : Nat → α} {a b i j : Nat} (h : j < i) : cpA src dst a b i (b + j) = src (a + j) := by
  unfold cpA
  rw [if_pos ⟨by omega, by omega⟩, show b + j - b = j by omega]
theorem cpA_out {α : Type} {src dst : Nat → α} {a b i j : Nat} (h : j < b ∨ b + i ≤ j) : cpA src dst a b i j = dst j := by
  unfold cpA
  rw [if_neg (by omega)]
theorem cpA_if {α : Type} (src dst : Nat → α) (a b i j : Nat) : (if j = b + i then src (a + i) else cpA src dst a b i j) = cpA src dst a b (i + 1) j := by
  unfold cpA
  by_cases h : j = b + i
  · rw [if_pos h, if_pos ⟨by omega, by omega⟩, h, show b + i - b = i by omega]
  · rw [if_neg h]
    by_cases c : b ≤ j ∧ j < b + i
    · rw [if_pos c, if_pos ⟨c.1, by omega⟩]
    · rw [if_neg c, if_neg (fun q => c ⟨q.1, by omega⟩)]
theorem cpA_i (src dst : Nat → Int32) (a b i : Nat) : upd (cpA src dst a b i) (b + i) (src (a + i)) = cpA src dst a b (i + 1) := by
  funext j
  rw [← cpA_if]
  rfl
theorem cpA_l (src dst : Nat → Int64) (a b i : Nat) : vp_updL (cpA src dst a b i) (b + i) (src (a + i)) = cpA src dst a b (i + 1) := by
  funext j
  rw [← cpA_if]
  rfl
theorem cpA_b (src dst : Nat → Bool) (a b i : Nat) : upd (fun r => b2i (cpA src dst a b i r)) (b + i) (b2i (src (a + i))) = fun r => b2i (cpA src dst a b (i + 1) r) := by
  funext j
  rw [← cpA_if]
  unfold upd
  split <;> rfl
/-- the pieces from a to b moved down by d -/
def shA {α : Type} (A : Nat → α) (d a b : Nat) : Nat → α := fun j => if a ≤ j ∧ j < b then A (j + d) else A j
theorem shA_0 {α : Type} (A : Nat → α) (d a : Nat) : shA A d a a = A := by
  funext j
  unfold shA
  rw [if_neg (by omega)]
theorem shA_if {α : Type} (A : Nat → α) (d a b j : Nat) (h : a ≤ b) : (if j = b then A (b + d) else shA A d a b j) = shA A d a (b + 1) j := by
  unfold shA
  by_cases e : j = b
  · rw [if_pos e, if_pos ⟨by omega, by omega⟩, e]
  · rw [if_neg e]
    by_cases c : a ≤ j ∧ j < b
    · rw [if_pos c, if_pos ⟨c.1, by omega⟩]
    · rw [if_neg c, if_neg (fun q => c ⟨q.1, by omega⟩)]
theorem shA_i {A : Nat → Int32} {d a b : Nat} (h : a ≤ b) : upd (shA A d a b) b (A (b + d)) = shA A d a (b + 1) := by
  funext j
  rw [← shA_if _ _ _ _ _ h]
  rfl
theorem shA_l {A : Nat → Int64} {d a b : Nat} (h : a ≤ b) : vp_updL (shA A d a b) b (A (b + d)) = shA A d a (b + 1) := by
  funext j
  rw [← shA_if _ _ _ _ _ h]
  rfl
theorem shA_out {α : Type} {A : Nat → α} {d a b j : Nat} (h : j < a ∨ b ≤ j) : shA A d a b j = A j := by
  unfold shA
  rw [if_neg (by omega)]
theorem shA_in {α : Type} {A : Nat → α} {d a b j : Nat} (h : a ≤ j ∧ j < b) : shA A d a b j = A (j + d) := by
  unfold shA
  rw [if_pos h]
theorem ffI_c {P Q : Nat → Bool} : ∀ j i, (∀ x, i ≤ x → x < i + j → P x = Q x) → ffI P j i = ffI Q j i
  | 0, _, _ => rfl
  | j + 1, i, h => by unfold ffI; rw [h i (by omega) (by omega), ffI_c j (i + 1) (fun x a b => h x (by omega) (by omega))]
theorem putM_lo {n : Nat} {M : Nat → Nat → Int32} {m o k : Nat} {v : Int32} (hk : ¬ k = 3) : putM n M m o v k = updM M m o v k := by
  unfold putM movM
  rw [if_neg hk]
theorem putM_hi {n : Nat} {M : Nat → Nat → Int32} {m o k x : Nat} {v : Int32} (ho : o < n) (hx : n ≤ x) : putM n M m o v k x = M k x := by
  unfold putM movM
  by_cases hk : k = 3
  · subst hk
    rw [if_pos rfl, if_neg (fun q => by omega)]
    exact updM_ne (by omega)
  · rw [if_neg hk]
    exact updM_ne (by omega)
theorem put_view {n pp oo mm : Nat} {mem : Nat → Int32} {M : Nat → Nat → Int32} {v : Int32} (hv : viewR mem pp M) (ho : oo < n) (hm : mm < 3) : viewR (feM (upd mem (160 * pp + 4 * oo + mm) v) pp (putM n M mm oo v 3) n) pp (putM n M mm oo v) ∧ (∀ m, m < 3 → ∀ o, o < 40 → upd mem (160 * pp + 4 * oo + mm) v (160 * pp + 4 * o + m) = putM n M mm oo v m o) := by
  have h2 : ∀ m, m < 3 → ∀ o, o < 40 → upd mem (160 * pp + 4 * oo + mm) v (160 * pp + 4 * o + m) = putM n M mm oo v m o := fun m h3 o h4 => by
    rw [putM_lo (by omega)]
    unfold updM
    by_cases e : m = mm
    · subst e
      rw [if_pos rfl]
      by_cases e2 : o = oo
      · subst e2; rw [pk_us, pk_us]
      · rw [pk_un (by omega), pk_un e2]; exact hv m (by omega) o h4
    · rw [if_neg e, pk_un (by omega)]; exact hv m (by omega) o h4
  refine ⟨fun m h3 o h4 => ?_, h2⟩
  by_cases e : m = 3
  · subst e
    rw [feM_3]
    by_cases c : o < n
    · rw [if_pos c]
    · rw [if_neg c, pk_un (by omega), putM_hi ho (by omega)]
      exact hv 3 (by omega) o h4
  · rw [feM_m (by omega)]
    exact h2 m (by omega) o h4
theorem feM_out {mem : Nat → Int32} {pp : Nat} {E : Nat → Int32} {i j : Nat} (h : j < 160 * pp ∨ 160 * pp + 4 * i ≤ j) : feM mem pp E i j = mem j := by
  unfold feM
  rw [if_neg (by omega)]
def kn1 (kn : Nat) : Nat := if kn = 60 then 59 else kn
def shI (A : Nat → Int32) (pp kn : Nat) : Nat → Int32 := if kn = 60 then shA A 1 (60 * pp) (60 * pp + 59) else A
def shJ (A : Nat → Int64) (pp kn : Nat) : Nat → Int64 := if kn = 60 then shA A 12 (12 * (60 * pp)) (12 * (60 * pp + 59)) else A
theorem kn1_s {kn : Nat} (h : kn ≤ 60) : kn1 kn + 1 = knU kn ∧ kn1 kn < 60 := by unfold kn1 knU; split <;> split <;> omega
/-- what a plan knows, as the reference keeps it -/
def hisR (k pp : Nat) (oob ome onu : Nat → Int32) (oke : Nat → Int64) (ho hm hv : Nat → Int32) (hs : Nat → Nat → Int64) (nx kn : Nat) : Prop :=
  ∀ i, i < kn → oob (60 * pp + (kn - 1 - i)) = ho (rix nx i) ∧ ome (60 * pp + (kn - 1 - i)) = hm (rix nx i) ∧ onu (60 * pp + (kn - 1 - i)) = hv (rix nx i) ∧ ∀ r, r < k → oke (12 * (60 * pp + (kn - 1 - i)) + r) = hs (rix nx i) r
theorem hisR_pop {k pp : Nat} {oob ome onu : Nat → Int32} {oke : Nat → Int64} {ho hm hv : Nat → Int32} {hs : Nat → Nat → Int64} {nx kn : Nat} (h : hisR k pp oob ome onu oke ho hm hv hs nx kn) (hx : nx < 60) (hk : kn ≤ 60) : hisR k pp oob ome onu oke ho hm hv hs (nxD nx) (kn - 1) := by
  intro i hi
  rw [rix_s hx (by omega), show kn - 1 - 1 - i = kn - 1 - (i + 1) by omega]
  exact h (i + 1) (by omega)
theorem shI_old {A : Nat → Int32} {pp kn i : Nat} (hk : kn ≤ 60) (hi : i + 1 < knU kn) : shI A pp kn (60 * pp + (knU kn - 1 - (i + 1))) = A (60 * pp + (kn - 1 - i)) := by
  unfold shI
  by_cases h : kn = 60
  · subst h
    rw [show knU 60 = 60 from rfl] at hi ⊢
    rw [if_pos rfl, shA_in (by omega)]
    congr 1
    omega
  · rw [if_neg h]
    have : knU kn = kn + 1 := by unfold knU; rw [if_neg (by omega)]
    rw [this] at hi ⊢
    congr 1
    omega
theorem shJ_old {A : Nat → Int64} {pp kn i r : Nat} (hk : kn ≤ 60) (hi : i + 1 < knU kn) (hr : r < 12) : shJ A pp kn (12 * (60 * pp + (knU kn - 1 - (i + 1))) + r) = A (12 * (60 * pp + (kn - 1 - i)) + r) := by
  unfold shJ
  by_cases h : kn = 60
  · subst h
    rw [show knU 60 = 60 from rfl] at hi ⊢
    rw [if_pos rfl, shA_in (by omega)]
    congr 1
    omega
  · rw [if_neg h]
    have : knU kn = kn + 1 := by unfold knU; rw [if_neg (by omega)]
    rw [this] at hi ⊢
    congr 2
    omega
theorem hisR_push {k pp : Nat} {oob ome onu : Nat → Int32} {oke kpt : Nat → Int64} {ho hm hv : Nat → Int32} {hs : Nat → Nat → Int64} {kp : Nat → Int64} {nx kn : Nat} {o m v : Int32} (h : hisR k pp oob ome onu oke ho hm hv hs nx kn) (hx : nx < 60) (hk : kn ≤ 60) (hk12 : k ≤ 12) (hkp : ∀ r, r < k → kpt (12 * pp + r) = kp r) :
    hisR k pp (upd (shI oob pp kn) (60 * pp + kn1 kn) o) (upd (shI ome pp kn) (60 * pp + kn1 kn) m) (upd (shI onu pp kn) (60 * pp + kn1 kn) v) (cpA kpt (shJ oke pp kn) (12 * pp) (12 * (60 * pp + kn1 kn)) 12) (upd ho nx o) (upd hm nx m) (upd hv nx v) (hsU hs nx kp) (nxU nx) (knU kn) := by
  obtain ⟨e1, e2⟩ := kn1_s hk
  intro i hi
  by_cases h0 : i = 0
  · subst h0
    rw [rix_U0 hx, show knU kn - 1 - 0 = kn1 kn by omega, pk_us, pk_us, pk_us, pk_us, pk_us, pk_us]
    refine ⟨rfl, rfl, rfl, fun r hr => ?_⟩
    rw [cpA_in (by omega), hkp r hr]
    unfold hsU
    rw [if_pos rfl, pk_cpy_in (by omega) (by omega)]
    congr 1
    omega
  · obtain ⟨j, rfl⟩ : ∃ j, i = j + 1 := ⟨i - 1, by omega⟩
    have hj : j < kn := by have : knU kn ≤ kn + 1 := (by unfold knU; split <;> omega); omega
    have hu6 : knU kn ≤ 60 := by unfold knU; split <;> omega
    obtain ⟨g1, g2, g3, g4⟩ := h j hj
    have hne : ¬ 60 * pp + (knU kn - 1 - (j + 1)) = 60 * pp + kn1 kn := by omega
    have hn2 : ¬ rix nx j = nx := rix_ne hx (by omega)
    rw [rix_Us hx (by omega)]
    refine ⟨by rw [pk_un hne, shI_old hk hi, pk_un hn2]; exact g1, by rw [pk_un hne, shI_old hk hi, pk_un hn2]; exact g2, by rw [pk_un hne, shI_old hk hi, pk_un hn2]; exact g3, fun r hr => ?_⟩
    rw [cpA_out (by omega), shJ_old hk hi (by omega), g4 r hr]
    unfold hsU
    rw [if_neg (rix_ne hx (by omega))]
theorem shI_out {A : Nat → Int32} {pp kn j : Nat} (h : j < 60 * pp ∨ 60 * pp + 60 ≤ j) : shI A pp kn j = A j := by
  unfold shI
  split
  · exact shA_out (by omega)
  · rfl
theorem shJ_out {A : Nat → Int64} {pp kn j : Nat} (h : j < 12 * (60 * pp) ∨ 12 * (60 * pp + 60) ≤ j) : shJ A pp kn j = A j := by
  unfold shJ
  split
  · exact shA_out (by omega)
  · rfl
theorem scr_eq {ρ : RuT} {av : Nat → Int32} {kpt kp : Nat → Int64} {pp : Nat} {lv : Int32} : ∀ k, (∀ r, r < k → av r = (ρ r).2.2.2.2) → (∀ r, r < k → kpt (12 * pp + r) = kp r) → scR av kpt pp lv k = scL ρ kp lv k
  | 0, _, _ => rfl
  | k + 1, h1, h2 => by
    unfold scR scL
    rw [scr_eq k (fun r hr => h1 r (by omega)) (fun r hr => h2 r (by omega)), h1 k (by omega), h2 k (by omega)]
    split
    · rfl
    · simp
theorem fl_c {ρ : RuT} {M : Nat → Nat → Int32} {n k : Nat} {f g : Nat → Int64} (h : ∀ r, r < k → f r = g r) : ffI (flB ρ M n f) k 0 = ffI (flB ρ M n g) k 0 := ffI_c k 0 (fun x _ hx => by unfold flB; rw [h x (by omega)])
