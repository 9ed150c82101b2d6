-- trees in rows: n NODES, letters le, numbers nu, operands lf rt (-9: none), z: how many NODES a tree has
def lfL (le nu : Nat → Int32) (k : Nat) : Prop := (le k = 48 ∧ ∃ v, v < 100 ∧ nu k = nI v) ∨ ∃ c, c < 8 ∧ le k = nI (97 + c) ∧ nu k = nI c
def o_bin (x : Int32) : Bool := o_sum x || o_prod x
def WFk (le nu lf rt : Nat → Int32) (z : Nat → Nat) (k : Nat) : Prop :=
  (lf k = -9 ∧ rt k = -9 ∧ z k = 1 ∧ lfL le nu k) ∨
  (le k = 126 ∧ nu k = 0 ∧ 1 ≤ k ∧ lf k = nI (k - 1) ∧ rt k = -9 ∧ z k = z (k - 1) + 1) ∨
  (o_bin (le k) = true ∧ nu k = 0 ∧ 1 ≤ k ∧ rt k = nI (k - 1) ∧ z (k - 1) < k ∧ lf k = nI (k - 1 - z (k - 1)) ∧ z k = z (k - 1) + z (k - 1 - z (k - 1)) + 1)
def WF (n : Nat) (le nu lf rt : Nat → Int32) (z : Nat → Nat) : Prop := n ≤ 31 ∧ ∀ k, k < n → WFk le nu lf rt z k
theorem nI_ne9 {k : Nat} (h : k < 2 ^ 31) : nI k ≠ -9 := by
  intro e
  have := nI_pos h
  rw [e] at this
  exact this (by decide)
section SP
variable {n : Nat} {le nu lf rt : Nat → Int32} {z : Nat → Nat}
theorem WF.zb (h : WF n le nu lf rt z) : ∀ k, k < n → 1 ≤ z k ∧ z k ≤ k + 1 := by
  intro k
  induction k using Nat.strongRecOn with
  | _ k ih =>
    intro hk
    rcases h.2 k hk with ⟨-, -, h1, -⟩ | ⟨-, -, h1, -, -, h2⟩ | ⟨-, -, h1, -, h3, -, h2⟩
    · omega
    · have := ih (k - 1) (by omega) (by omega)
      omega
    · have a := ih (k - 1) (by omega) (by omega)
      have b := ih (k - 1 - z (k - 1)) (by omega) (by omega)
      omega
/-- the first NODE of a tree is a LEAF -/
theorem WF.first (h : WF n le nu lf rt z) : ∀ k, k < n → lf (k + 1 - z k) = -9 ∧ rt (k + 1 - z k) = -9 := by
  intro k
  induction k using Nat.strongRecOn with
  | _ k ih =>
    intro hk
    rcases h.2 k hk with ⟨h0, h00, h1, -⟩ | ⟨-, -, h1, -, -, h2⟩ | ⟨-, -, h1, -, h3, -, h2⟩
    · rw [h1]; exact ⟨h0, h00⟩
    · have := ih (k - 1) (by omega) (by omega)
      rw [show k + 1 - z k = k - 1 + 1 - z (k - 1) by omega]
      exact this
    · have b := ih (k - 1 - z (k - 1)) (by omega) (by omega)
      have zb := h.zb (k - 1 - z (k - 1)) (by omega)
      rw [show k + 1 - z k = k - 1 - z (k - 1) + 1 - z (k - 1 - z (k - 1)) by omega]
      exact b
theorem WF.leaf_rt (h : WF n le nu lf rt z) {k : Nat} (hk : k < n) (hl : lf k = -9) : rt k = -9 ∧ z k = 1 ∧ lfL le nu k := by
  rcases h.2 k hk with ⟨-, h0, h1, h2⟩ | ⟨-, -, h1, h2, -⟩ | ⟨-, -, h1, -, -, h2, -⟩
  · exact ⟨h0, h1, h2⟩
  · exact absurd (h2.symm.trans hl) (nI_ne9 (by have := h.1; omega))
  · exact absurd (h2.symm.trans hl) (nI_ne9 (by have := h.1; omega))
theorem WF.single (h : WF n le nu lf rt z) {k : Nat} (hk : k < n) (hl : lf k ≠ -9) (hr : rt k = -9) : le k = 126 ∧ nu k = 0 ∧ 1 ≤ k ∧ lf k = nI (k - 1) ∧ z k = z (k - 1) + 1 := by
  rcases h.2 k hk with ⟨h0, -⟩ | ⟨h0, h1, h2, h3, h4, h5⟩ | ⟨-, -, h1, h2, -⟩
  · exact absurd h0 hl
  · exact ⟨h0, h1, h2, h3, h5⟩
  · exact absurd (h2.symm.trans hr) (nI_ne9 (by have := h.1; omega))
theorem WF.pair (h : WF n le nu lf rt z) {k : Nat} (hk : k < n) (hr : rt k ≠ -9) : o_bin (le k) = true ∧ nu k = 0 ∧ 1 ≤ k ∧ rt k = nI (k - 1) ∧ z (k - 1) < k ∧ lf k = nI (k - 1 - z (k - 1)) ∧ z k = z (k - 1) + z (k - 1 - z (k - 1)) + 1 := by
  rcases h.2 k hk with ⟨-, h0, -⟩ | ⟨-, -, -, -, h0, -⟩ | h0
  · exact absurd h0 hr
  · exact absurd h0 hr
  · exact h0
theorem WF.pair_lf (h : WF n le nu lf rt z) {k : Nat} (hk : k < n) (hr : rt k ≠ -9) : lf k ≠ -9 := by
  have p := h.pair hk hr
  rw [p.2.2.2.2.2.1]
  exact nI_ne9 (by have := h.1; omega)
end SP
/-- what follows from letters and operands: tp whether a tree MAY TRAP, nd NEED (of an operator), ld LEAST NEED, ak the lowest NODE ALIKE -/
def jn (a b : Nat) : Nat := if a = b then a + 1 else if a < b then b else a
def v1 (lf : Nat → Int32) (f : Nat → Nat) (k : Nat) : Nat := if lf k = -9 then 1 else f k
def v0 (lf : Nat → Int32) (f : Nat → Nat) (k : Nat) : Nat := if lf k = -9 then 0 else f k
def TPk (le lf rt : Nat → Int32) (z : Nat → Nat) (tp : Nat → Bool) (k : Nat) : Prop :=
  tp k = if lf k = -9 then false else if rt k = -9 then tp (k - 1) else (o_trap (le k) || tp (k - 1 - z (k - 1)) || tp (k - 1))
def NDk (lf rt : Nat → Int32) (z nd : Nat → Nat) (k : Nat) : Prop :=
  lf k ≠ -9 → nd k = if rt k = -9 then v1 lf nd (k - 1) else jn (v1 lf nd (k - 1 - z (k - 1))) (v0 lf nd (k - 1))
def LDk (le lf rt : Nat → Int32) (z ld : Nat → Nat) (k : Nat) : Prop :=
  lf k ≠ -9 → ld k = if rt k = -9 then v1 lf ld (k - 1) else if o_comm (le k) then min (jn (v1 lf ld (k - 1 - z (k - 1))) (v0 lf ld (k - 1))) (jn (v1 lf ld (k - 1)) (v0 lf ld (k - 1 - z (k - 1)))) else jn (v1 lf ld (k - 1 - z (k - 1))) (v0 lf ld (k - 1))
def akk (ak : Nat → Nat) (x : Int32) : Int32 := if x = -9 then -9 else nI (ak x.toNatClampNeg)
def alk (le nu lf rt : Nat → Int32) (ak : Nat → Nat) (j k : Nat) : Prop := le j = le k ∧ nu j = nu k ∧ akk ak (lf j) = akk ak (lf k) ∧ akk ak (rt j) = akk ak (rt k)
def AKk (le nu lf rt : Nat → Int32) (ak : Nat → Nat) (k : Nat) : Prop := ak k ≤ k ∧ alk le nu lf rt ak (ak k) k ∧ ∀ j, j < ak k → ¬ alk le nu lf rt ak j k
