/-! the plans' own cells; what plans reckon -/
abbrev RuT : Type := Nat → Nat × Nat × Int32 × Int32 × Int32
def isBk (ad : Nat → Nat) (V : Nat → Option va_E) (cy : Nat → ClassId) (k : Nat) (ρ : RuT) : Prop :=
  V 1 = some (.inr (3, [.ref (ad 2), .int (nI k)])) ∧ V 2 = some (.inl (cy 6, 12, .inr (.inr (.inr (.inr (fun i => if i < k then some (ad (10 + i)) else none)))))) ∧ ∀ r, r < k → isR V (10 + r) (ρ r).1 (ρ r).2.1 (ρ r).2.2.1 (ρ r).2.2.2.1 (ρ r).2.2.2.2
def okR (k : Nat) (ρ : RuT) : Prop := k ≤ 12 ∧ ∀ r, r < k → (ρ r).1 < 6 ∧ (ρ r).2.1 < 4
theorem elK {ad : Nat → Nat} {b k j : Nat} (h : j < k) : va_rf ((fun i => if i < k then some (ad (b + i)) else none) j) = .ref (ad (b + j)) := by
  simp only [h, if_true]
  rfl
def isC (ad : Nat → Nat) (V : Nat → Option va_E) (cy : Nat → ClassId) (PB n : Nat) (M : Nat → Nat → Int32) (n2 : Nat) (M2 : Nat → Nat → Int32) (kp : Nat → Int64) (fb : Nat → Bool) (ch co fo : Int32) (bb : Bool) (bk : Int32) : Prop :=
  V PB = some (.inr (1, [.ref (ad 1), .ref (ad (PB + 1)), .ref (ad (PB + 7)), .ref (ad (PB + 13)), .ref (ad (PB + 14)), .ref (ad (PB + 15)), .int ch, .int co, .int fo, .int (b2i bb), .int bk])) ∧ isT ad V cy (PB + 1) n M ∧ isT ad V cy (PB + 7) n2 M2 ∧ V (PB + 13) = some (.inl (cy 1, 12, .inr (.inl kp))) ∧ V (PB + 14) = some (.inl (cy 2, 12, .inl (fun r => b2i (fb r))))
def isH (ad : Nat → Nat) (V : Nat → Option va_E) (cy : Nat → ClassId) (PB : Nat) (ho hm hv : Nat → Int32) (hk : Nat → Nat → Int64) (nx kn : Nat) : Prop :=
  V (PB + 15) = some (.inr (0, [.ref (ad (PB + 16)), .ref (ad (PB + 17)), .ref (ad (PB + 18)), .ref (ad (PB + 19)), .int (nI nx), .int (nI kn)])) ∧ V (PB + 16) = some (.inl (cy 0, 60, .inl ho)) ∧ V (PB + 17) = some (.inl (cy 0, 60, .inl hm)) ∧ V (PB + 18) = some (.inl (cy 0, 60, .inl hv)) ∧ V (PB + 19) = some (.inl (cy 4, 60, .inr (.inr (.inr (.inr (fun i => if i < 60 then some (ad (PB + 20 + i)) else none)))))) ∧ ∀ i, i < 60 → V (PB + 20 + i) = some (.inl (cy 1, 12, .inr (.inl (hk i))))
def wthR (ρ : RuT) (r : Nat) (M : Nat → Nat → Int32) (n : Nat) : Int64 := wth (ρ r).1 (ρ r).2.2.1 (ρ r).2.2.2.1 (M (ρ r).2.1) (M 2) n
def ctR (ρ : RuT) (r : Nat) (M M2 : Nat → Nat → Int32) (n : Nat) : Nat := ctT (ρ r).1 (M (ρ r).2.1) (M2 (ρ r).2.1) (M 2) (M2 2) n
def ffI (P : Nat → Bool) : Nat → Nat → Int32
  | 0, _ => -1
  | j + 1, i => if P i = true then nI i else ffI P j (i + 1)
def flB (ρ : RuT) (M : Nat → Nat → Int32) (n : Nat) (kp : Nat → Int64) (r : Nat) : Bool := decide (¬ kp r = wthR ρ r M n)
def scL (ρ : RuT) (kp : Nat → Int64) (lv : Int32) : Nat → Int64
  | 0 => 0
  | r + 1 => if (ρ r).2.2.2.2 = lv then scL ρ kp lv r + kp r else scL ρ kp lv r
def cfT (fb : Nat → Bool) : Nat → Nat
  | 0 => 0
  | r + 1 => cfT fb r + (if fb r = true then 1 else 0)
def gnL (ρ : RuT) (r : Nat) (fb : Nat → Bool) (M : Nat → Nat → Int32) (n : Nat) (M2 : Nat → Nat → Int32) (n2 : Nat) : Int64 :=
  if fb r = true ∨ ctR ρ r M M2 n = 0 then 0 else wthR ρ r M2 n2 - wthR ρ r M n
def ctS (ρ : RuT) (M M2 : Nat → Nat → Int32) (n : Nat) : Nat → Nat
  | 0 => 0
  | r + 1 => ctS ρ M M2 n r + ctR ρ r M M2 n
theorem ctT_le (kd : Nat) (f f2 g g2 : Nat → Int32) : ∀ n, ctT kd f f2 g g2 n ≤ n
  | 0 => Nat.le_refl 0
  | n + 1 => by
    have := ctT_le kd f f2 g g2 n
    unfold ctT
    split <;> omega
/-- the world outside a range is the same: tables, rules, plans, histories stay -/
theorem isT.mv {ad : Nat → Nat} {V X : Nat → Option va_E} {cy : Nat → ClassId} {B n : Nat} {M : Nat → Nat → Int32} (h : isT ad V cy B n M) (hs : ∀ L, B ≤ L → L < B + 6 → X L = V L) : isT ad X cy B n M :=
  ⟨(hs B (by omega) (by omega)).trans h.1, (hs _ (by omega) (by omega)).trans h.2.1, fun m hm => (hs _ (by omega) (by omega)).trans (h.2.2 m hm)⟩
theorem isBk.mv {ad : Nat → Nat} {V X : Nat → Option va_E} {cy : Nat → ClassId} {k : Nat} {ρ : RuT} (h : isBk ad V cy k ρ) (hk : k ≤ 12) (hs : ∀ L, 1 ≤ L → L < 22 → X L = V L) : isBk ad X cy k ρ :=
  ⟨(hs 1 (by omega) (by omega)).trans h.1, (hs 2 (by omega) (by omega)).trans h.2.1, fun r hr => (hs (10 + r) (by omega) (by omega)).trans (h.2.2 r hr)⟩
theorem isC.mv {ad : Nat → Nat} {V X : Nat → Option va_E} {cy : Nat → ClassId} {PB n : Nat} {M : Nat → Nat → Int32} {n2 : Nat} {M2 : Nat → Nat → Int32} {kp : Nat → Int64} {fb : Nat → Bool} {ch co fo : Int32} {bb : Bool} {bk : Int32} (h : isC ad V cy PB n M n2 M2 kp fb ch co fo bb bk) (hs : ∀ L, PB ≤ L → L < PB + 15 → X L = V L) : isC ad X cy PB n M n2 M2 kp fb ch co fo bb bk :=
  ⟨(hs _ (by omega) (by omega)).trans h.1, h.2.1.mv (fun L h1 h2 => hs L (by omega) (by omega)), h.2.2.1.mv (fun L h1 h2 => hs L (by omega) (by omega)), (hs _ (by omega) (by omega)).trans h.2.2.2.1, (hs _ (by omega) (by omega)).trans h.2.2.2.2⟩
theorem isH.mv {ad : Nat → Nat} {V X : Nat → Option va_E} {cy : Nat → ClassId} {PB : Nat} {ho hm hv : Nat → Int32} {hk : Nat → Nat → Int64} {nx kn : Nat} (h : isH ad V cy PB ho hm hv hk nx kn) (hs : ∀ L, PB + 15 ≤ L → L < PB + 80 → X L = V L) : isH ad X cy PB ho hm hv hk nx kn :=
  ⟨(hs _ (by omega) (by omega)).trans h.1, (hs _ (by omega) (by omega)).trans h.2.1, (hs _ (by omega) (by omega)).trans h.2.2.1, (hs _ (by omega) (by omega)).trans h.2.2.2.1, (hs _ (by omega) (by omega)).trans h.2.2.2.2.1, fun i hi => (hs _ (by omega) (by omega)).trans (h.2.2.2.2.2 i hi)⟩
def fgI (k : Nat) (fb : Nat → Bool) (ch co fo : Int32) (bb : Bool) (kn : Nat) (w : Int32) : Int32 :=
  if w = nI 0 then ch else if w = nI 1 then nI kn else if w = nI 2 then co else if w = nI 3 then fo else if w = nI 4 then b2i bb else if w = nI 5 then nI (cfT fb k) else -1
theorem isC.lay {ad : Nat → Nat} {V X : Nat → Option va_E} {cy : Nat → ClassId} {PB n : Nat} {M : Nat → Nat → Int32} {n2 : Nat} {M2 : Nat → Nat → Int32} {kp : Nat → Int64} {fb : Nat → Bool} {ch co fo : Int32} {bb : Bool} {bk : Int32} (h : isC ad V cy PB n M n2 M2 kp fb ch co fo bb bk) {n3 : Nat} {M3 : Nat → Nat → Int32} (hT : isT ad X cy (PB + 7) n3 M3) (hs : ∀ L, (L < PB + 7 ∨ PB + 7 + 6 ≤ L) → X L = V L) : isC ad X cy PB n M n3 M3 kp fb ch co fo bb bk :=
  ⟨(hs _ (by omega)).trans h.1, h.2.1.mv (fun L h1 h2 => hs L (by omega)), hT, (hs _ (by omega)).trans h.2.2.2.1, (hs _ (by omega)).trans h.2.2.2.2⟩
theorem isC.now {ad : Nat → Nat} {V X : Nat → Option va_E} {cy : Nat → ClassId} {PB n : Nat} {M : Nat → Nat → Int32} {n2 : Nat} {M2 : Nat → Nat → Int32} {kp : Nat → Int64} {fb : Nat → Bool} {ch co fo : Int32} {bb : Bool} {bk : Int32} (h : isC ad V cy PB n M n2 M2 kp fb ch co fo bb bk) {n3 : Nat} {M3 : Nat → Nat → Int32} (hT : isT ad X cy (PB + 1) n3 M3) (hs : ∀ L, (L < PB + 1 ∨ PB + 1 + 6 ≤ L) → X L = V L) : isC ad X cy PB n3 M3 n2 M2 kp fb ch co fo bb bk :=
  ⟨(hs _ (by omega)).trans h.1, hT, h.2.2.1.mv (fun L h1 h2 => hs L (by omega)), (hs _ (by omega)).trans h.2.2.2.1, (hs _ (by omega)).trans h.2.2.2.2⟩
theorem Zt_upd {n : Nat} {M : Nat → Nat → Int32} (h : Zt n M) {m o : Nat} (v : Int32) (ho : o < n) : Zt n (updM M m o v) := by
  intro k x hx
  unfold updM
  split
  · next e => rw [pk_un (by omega)]; subst e; exact h k x hx
  · exact h k x hx
theorem Zt_put {n : Nat} {M : Nat → Nat → Int32} (h : Zt n M) {m o : Nat} (v : Int32) (ho : o < n) : Zt n (putM n M m o v) := by
  intro k x hx
  unfold putM movM
  have hz := Zt_upd h (m := m) v ho
  split
  · have hn : ¬ (x < n ∧ ldB n (updM M m o v 2) n (nI x) (nI o) = true) := fun q => by omega
    show (if x < n ∧ ldB n (updM M m o v 2) n (nI x) (nI o) = true then _ else _) = (0 : Int32)
    rw [if_neg hn]
    exact hz 3 x hx
  · exact hz k x hx
theorem tkB_of {n : Nat} {g : Nat → Int32} {o m v : Int32} (h : tkB n g o m v = true) (hn : n < 2147483648) : ∃ oo mm, oo < n ∧ o = nI oo ∧ mm < 3 ∧ m = nI mm := by
  unfold tkB at h
  rw [Bool.and_eq_true] at h
  obtain ⟨e1, h1⟩ := hasB_of h.1 hn
  refine ⟨_, if m = nI 0 then 0 else if m = nI 1 then 1 else 2, h1, e1, ?_⟩
  have h2 := h.2
  by_cases q0 : m = nI 0
  · rw [if_pos q0]; exact ⟨by omega, q0⟩
  · rw [if_neg q0] at h2 ⊢
    by_cases q1 : m = nI 1
    · rw [if_pos q1]; exact ⟨by omega, q1⟩
    · rw [if_neg q1] at h2 ⊢
      by_cases q2 : m = nI 2
      · exact ⟨by omega, q2⟩
      · rw [if_neg q2] at h2; cases h2
def nxU (nx : Nat) : Nat := if nx + 1 < 60 then nx + 1 else 0
def nxD (nx : Nat) : Nat := if 0 < nx then nx - 1 else 59
def knU (kn : Nat) : Nat := if 60 < kn + 1 then 60 else kn + 1
def hsU (hs : Nat → Nat → Int64) (nx : Nat) (kp : Nat → Int64) : Nat → Nat → Int64 := fun i => if i = nx then va_cpy kp (hs nx) 0 0 12 else hs i
/-- the score behind, with what the first rules bring -/
def sbL (ρ : RuT) (kp : Nat → Int64) (fb : Nat → Bool) (lv : Int32) (k : Nat) (M : Nat → Nat → Int32) (n : Nat) (M3 : Nat → Nat → Int32) : Nat → Int64
  | 0 => scL ρ kp lv k
  | r + 1 => if (ρ r).2.2.2.2 = lv then sbL ρ kp fb lv k M n M3 r + gnL ρ r fb M n M3 n else sbL ρ kp fb lv k M n M3 r
/-- the kept numbers, the first i of them moved by what g says -/
def kpU (kp : Nat → Int64) (g : Nat → Int64) (i : Nat) : Nat → Int64 := fun r => if r < i then kp r + g r else kp r
theorem kpU_0 (kp g : Nat → Int64) : kpU kp g 0 = kp := by funext r; simp [kpU]
theorem kpU_s (kp g : Nat → Int64) (i : Nat) : vp_updL (kpU kp g i) i (kpU kp g i i + g i) = kpU kp g (i + 1) := by
  funext r
  by_cases h : r = i
  · subst h; simp [kpU, vp_updL]
  · have : r < i + 1 ↔ r < i := by omega
    simp [kpU, vp_updL, h, this]
theorem knU_eq {kn : Nat} (h0 : kn ≤ 60) : (if nI 60 < nI (kn + 1) then nI 60 else nI (kn + 1)) = nI (knU kn) := by
  unfold knU
  by_cases h : 60 < kn + 1
  · rw [if_pos h, if_pos (nI_lt h (by omega))]
  · rw [if_neg h, if_neg (nI_nlt (by omega) (by omega))]
/-- the place of the i-th latest change -/
def rix (nx i : Nat) : Nat := (nx + 119 - i) % 60
theorem rix_0 {nx : Nat} (h : nx < 60) : rix nx 0 = nxD nx := by unfold rix nxD; split <;> omega
theorem rix_s {nx i : Nat} (h : nx < 60) (hi : i < 59) : rix (nxD nx) i = rix nx (i + 1) := by unfold rix nxD; split <;> omega
theorem rix_U0 {nx : Nat} (h : nx < 60) : rix (nxU nx) 0 = nx := by unfold rix nxU; split <;> omega
theorem rix_Us {nx i : Nat} (h : nx < 60) (hi : i < 59) : rix (nxU nx) (i + 1) = rix nx i := by unfold rix nxU; split <;> omega
theorem rix_ne {nx i : Nat} (h : nx < 60) (hi : i < 59) : ¬ rix nx i = nx := by unfold rix; omega
theorem rix_lt (nx i : Nat) : rix nx i < 60 := Nat.mod_lt _ (by omega)
theorem nxD_lt {nx : Nat} (h : nx < 60) : nxD nx < 60 := by unfold nxD; split <;> omega
theorem nxU_lt {nx : Nat} (h : nx < 60) : nxU nx < 60 := by unfold nxU; split <;> omega
/-- what is known can be taken back: places and members are such -/
def hOK (n : Nat) (ho hm : Nat → Int32) (nx kn : Nat) : Prop := ∀ i, i < kn → ∃ oo mm, oo < n ∧ mm < 3 ∧ ho (rix nx i) = nI oo ∧ hm (rix nx i) = nI mm
/-- a plan's own numbers that taking back changes: rows, kept numbers, cost, place, how many are known, and in the batch -/
abbrev TbT : Type := (Nat → Nat → Int32) × (Nat → Int64) × Int32 × Nat × Nat × Nat
def tbM (n : Nat) (ho hm hv : Nat → Int32) (M : Nat → Nat → Int32) (j : Nat) : Nat → Nat → Int32 := putM n M (hm j).toNatClampNeg (ho j).toNatClampNeg (hv j)
def tbF (n k : Nat) (ρ : RuT) (ho hm hv : Nat → Int32) (hs : Nat → Nat → Int64) (bb : Bool) (x : TbT) : TbT :=
  (tbM n ho hm hv x.1 (nxD x.2.2.2.1), va_cpy (hs (nxD x.2.2.2.1)) x.2.1 0 0 12, x.2.2.1 + nI (ctS ρ x.1 (tbM n ho hm hv x.1 (nxD x.2.2.2.1)) n k), nxD x.2.2.2.1, x.2.2.2.2.1 - 1, if bb = true then x.2.2.2.2.2 - 1 else x.2.2.2.2.2)
def tbI (n k : Nat) (ρ : RuT) (ho hm hv : Nat → Int32) (hs : Nat → Nat → Int64) (bb : Bool) : Nat → TbT → TbT
  | 0, x => x
  | i + 1, x => tbF n k ρ ho hm hv hs bb (tbI n k ρ ho hm hv hs bb i x)
section WH
variable {p : Program} {l : Launch} {e : Env} {R : Room} {s : State} {m : MethodId} {args : Array Value} {below : List Frame} {meth : Method} {c : Code} {H : Heap} {locs : List Loc} {cells slots : Nat} {Q : State → Prop}
theorem jlh {g : JFrame} {I : Heap → List Loc → Prop} {pcj nL : Nat} {st : List Value} {lv : List (Nat × Value)} (k : (∀ (H : Heap) (locs : List Loc) (ls : Array Slot), I H locs → lv_has ls nL lv → W p l e R s m args below meth c H locs cells slots Q (F0 m pcj ls st)) → W p l e R s m args below meth c H locs cells slots Q g) (h : ∀ (H : Heap) (locs : List Loc) (ls : Array Slot), I H locs → lv_has ls nL lv → W p l e R s m args below meth c H locs cells slots Q (F0 m pcj ls st)) : W p l e R s m args below meth c H locs cells slots Q g := k h
end WH
def irm (x y : Int32) : Int32 := x - x / y * y
theorem hOK_pop {n : Nat} {ho hm : Nat → Int32} {nx kn : Nat} (h : hOK n ho hm nx kn) (hx : nx < 60) (hk : kn ≤ 60) : hOK n ho hm (nxD nx) (kn - 1) := by
  intro i hi
  rw [rix_s hx (by omega)]
  exact h (i + 1) (by omega)
theorem Zt_add {n : Nat} {M : Nat → Nat → Int32} (h : Zt n M) : Zt (n + 1) (addM n M) := by
  intro k x hx
  unfold addM
  split
  · rw [pk_un (by omega)]; exact h 2 x (by omega)
  · exact h k x (by omega)
