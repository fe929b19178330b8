/-! joins, loops, named tops; truth values as numbers -/
def b2i (b : Bool) : Int32 := if b then 1 else 0
theorem b2i_0 {b : Bool} : b2i b = 0 ↔ b = false := by cases b <;> simp [b2i]
theorem b2i_1 {b : Bool} : ¬ b2i b = 0 ↔ b = true := by cases b <;> simp [b2i]
theorem b2i_n {b : Bool} : narrow .boolean (.int (b2i b)) = .int (b2i b) := by cases b <;> rfl
theorem b2i_v {b : Bool} : vp_nar .boolean (b2i b) = b2i b := by cases b <;> rfl
theorem b2i_f {b : Bool} : fits .boolean (.int (b2i b)) = true := by cases b <;> rfl
theorem b2i_t : b2i true = 1 := rfl
theorem b2i_ff : b2i false = 0 := rfl
theorem b2i_inj {a b : Bool} (h : b2i a = b2i b) : a = b := by cases a <;> cases b <;> simp_all [b2i]
section WK
variable {p : Program} {l : Launch} {e : Env} {R : Room} {s : State} {m : MethodId} {args : Array Value} {below : List Frame} {meth : Method} {c : Code} {H : Heap} {locs : List Loc} {cells slots : Nat} {Q : State → Prop}
variable {pc : Nat} {ls : Array Slot} {rest : List Value}
theorem jn {g : JFrame} (g2 : JFrame) (k : W p l e R s m args below meth c H locs cells slots Q g2 → W p l e R s m args below meth c H locs cells slots Q g) (h : W p l e R s m args below meth c H locs cells slots Q g2) : W p l e R s m args below meth c H locs cells slots Q g := k h
theorem asi {x y : Int32} (h : x = y) (k : W p l e R s m args below meth c H locs cells slots Q (F0 m pc ls (.int y :: rest))) : W p l e R s m args below meth c H locs cells slots Q (F0 m pc ls (.int x :: rest)) := h ▸ k
theorem asl {x y : Int64} (h : x = y) (k : W p l e R s m args below meth c H locs cells slots Q (F0 m pc ls (.long y :: rest))) : W p l e R s m args below meth c H locs cells slots Q (F0 m pc ls (.long x :: rest)) := h ▸ k
theorem asv {x y : Value} (h : x = y) (k : W p l e R s m args below meth c H locs cells slots Q (F0 m pc ls (y :: rest))) : W p l e R s m args below meth c H locs cells slots Q (F0 m pc ls (x :: rest)) := h ▸ k
theorem wl {ι : Type} (μ : ι → Nat) (I : ι → JFrame → Prop) (step : ∀ i g, I i g → (∀ j g', I j g' → μ j < μ i → W p l e R s m args below meth c H locs cells slots Q g') → W p l e R s m args below meth c H locs cells slots Q g) (i : ι) (g : JFrame) (h : I i g) : W p l e R s m args below meth c H locs cells slots Q g := by
  have key : ∀ n i g, μ i < n → I i g → W p l e R s m args below meth c H locs cells slots Q g := by
    intro n
    induction n with
    | zero => intro i g h; exact absurd h (Nat.not_lt_zero _)
    | succ n ih => intro i g hn hI; exact step i g hI (fun j g' hj hlt => ih j g' (by omega) hj)
  exact key _ i g (Nat.lt_succ_self _) h
theorem wlh {ι : Type} (μ : ι → Nat) (I : ι → Heap → List Loc → JFrame → Prop) (step : ∀ i H locs g, I i H locs g → (∀ j H' locs' g', I j H' locs' g' → μ j < μ i → W p l e R s m args below meth c H' locs' cells slots Q g') → W p l e R s m args below meth c H locs cells slots Q g) (i : ι) (H : Heap) (locs : List Loc) (g : JFrame) (h : I i H locs g) : W p l e R s m args below meth c H locs cells slots Q g := by
  have key : ∀ n i H locs g, μ i < n → I i H locs g → W p l e R s m args below meth c H locs cells slots Q g := by
    intro n
    induction n with
    | zero => intro i H locs g h; exact absurd h (Nat.not_lt_zero _)
    | succ n ih => intro i H locs g hn hI; exact step i H locs g hI (fun j H' locs' g' hj hlt => ih j H' locs' g' (by omega) hj)
  exact key _ i H locs g (Nat.lt_succ_self _) h
end WK
theorem nI_le' {a b : Nat} (h : nI a ≤ nI b) (ha : a < 2 ^ 31) (hb : b < 2 ^ 31) : a ≤ b := (nI_leI ha hb).mp h
theorem nI_lt' {a b : Nat} (h : nI a < nI b) (ha : a < 2 ^ 31) (hb : b < 2 ^ 31) : a < b := (nI_ltI ha hb).mp h
theorem nI_eq' {a b : Nat} (h : nI a = nI b) (ha : a < 2 ^ 31) (hb : b < 2 ^ 31) : a = b := (nI_eq ha hb).mp h
theorem nI_nle' {a b : Nat} (h : ¬ nI a ≤ nI b) (ha : a < 2 ^ 31) (hb : b < 2 ^ 31) : b < a := Nat.lt_of_not_le (fun q => h ((nI_leI ha hb).mpr q))
theorem nI_nlt' {a b : Nat} (h : ¬ nI a < nI b) (ha : a < 2 ^ 31) (hb : b < 2 ^ 31) : b ≤ a := Nat.le_of_not_lt (fun q => h ((nI_ltI ha hb).mpr q))
theorem nI_ne' {a b : Nat} (h : ¬ nI a = nI b) (ha : a < 2 ^ 31) (hb : b < 2 ^ 31) : a ≠ b := fun q => h ((nI_eq ha hb).mpr q)
section WJ
variable {p : Program} {l : Launch} {e : Env} {R : Room} {s : State} {m : MethodId} {args : Array Value} {below : List Frame} {meth : Method} {c : Code} {H : Heap} {locs : List Loc} {cells slots : Nat} {Q : State → Prop}
theorem jl {g : JFrame} {pcj nL : Nat} {st : List Value} {lv : List (Nat × Value)} (k : (∀ ls : Array Slot, lv_has ls nL lv → W p l e R s m args below meth c H locs cells slots Q (F0 m pcj ls st)) → W p l e R s m args below meth c H locs cells slots Q g) (h : ∀ ls : Array Slot, lv_has ls nL lv → W p l e R s m args below meth c H locs cells slots Q (F0 m pcj ls st)) : W p l e R s m args below meth c H locs cells slots Q g := k h
end WJ
