-- the model's memory: what its row s tells
theorem adE {x y : Int32} {a b : Nat} (h1 : x = nI a) (h2 : y = nI b) : x + y = nI (a + b) := by rw [h1, h2, nI_add]
theorem mlE {x y : Int32} {a b : Nat} (h1 : x = nI a) (h2 : y = nI b) : x * y = nI (a * b) := by rw [h1, h2, pk_mul]
theorem sbE {x y : Int32} {a b : Nat} (h1 : x = nI a) (h2 : y = nI b) (h : b ≤ a) : x - y = nI (a - b) := by rw [h1, h2, pk_sub h]
section RA2
variable {G : nw_G} {L : nw_L} {k : nk_T} {d : Nat} {P : Option Value → nw_M → Prop} {pc : Nat} {lv : List (Option Value)} {st : List Value} {M : nw_M}
theorem r_ia {i n q : Nat} {ix x : Int32} (hL : L[i]? = some (.inr (false, n))) (e : ix = nI q) (hq : q < n) (hn : n < 2 ^ 31) (hx : M i q = x) (hd : decode k.2.1 pc = .ok (.iaload, 1)) (kk : RJ G L k d P (pc + 1) lv (.int x :: st) M) : RJ G L k d P pc lv (.int ix :: .ref (G.2.2 i) :: st) M := by
  subst e
  refine r_iald hL (vp_in_nI hq hn) hd ?_
  rw [nI_clamp (by omega), hx]
  exact kk
theorem r_za {i n q : Nat} {ix x : Int32} (hL : L[i]? = some (.inr (true, n))) (e : ix = nI q) (hq : q < n) (hn : n < 2 ^ 31) (hx : M i q = x) (hd : decode k.2.1 pc = .ok (.baload, 1)) (kk : RJ G L k d P (pc + 1) lv (.int x :: st) M) : RJ G L k d P pc lv (.int ix :: .ref (G.2.2 i) :: st) M := by
  subst e
  refine r_zald hL (vp_in_nI hq hn) hd ?_
  rw [nI_clamp (by omega), hx]
  exact kk
theorem r_ias {i n q : Nat} {ix x : Int32} (hL : L[i]? = some (.inr (false, n))) (e : ix = nI q) (hq : q < n) (hn : n < 2 ^ 31) (hd : decode k.2.1 pc = .ok (.iastore, 1)) (kk : RJ G L k d P (pc + 1) lv st (ms M i (upd (M i) q x))) : RJ G L k d P pc lv (.int x :: .int ix :: .ref (G.2.2 i) :: st) M := by
  subst e
  refine r_iast hL (vp_in_nI hq hn) hd ?_
  rw [nI_clamp (by omega)]
  exact kk
theorem r_zas {i n q : Nat} {ix x : Int32} (hL : L[i]? = some (.inr (true, n))) (e : ix = nI q) (hq : q < n) (hn : n < 2 ^ 31) (hx : x = 0 ∨ x = 1) (hd : decode k.2.1 pc = .ok (.bastore, 1)) (kk : RJ G L k d P (pc + 1) lv st (ms M i (upd (M i) q x))) : RJ G L k d P pc lv (.int x :: .int ix :: .ref (G.2.2 i) :: st) M := by
  subst e
  refine r_zast hL (vp_in_nI hq hn) hx hd ?_
  rw [nI_clamp (by omega)]
  exact kk
theorem r_gx {idx ci j i : Nat} {fl : List (Option Nat)} {x : Int32} (hf : nf_ok k.1.cls idx ci j) (hL : L[i]? = some (.inl (ci, fl))) (hj : fl[j]? = some none) (hx : M i j = x) (hd : decode k.2.1 pc = .ok (.getfield idx, 3)) (kk : RJ G L k d P (pc + 3) lv (.int x :: st) M) : RJ G L k d P pc lv (.ref (G.2.2 i) :: st) M := by
  refine r_geti hf hL hj hd ?_
  rw [hx]
  exact kk
theorem r_iaddN {x y : Int32} {a b : Nat} (hd : decode k.2.1 pc = .ok (.iadd, 1)) (h1 : x = nI a) (h2 : y = nI b) (kk : RJ G L k d P (pc + 1) lv (.int (nI (a + b)) :: st) M) : RJ G L k d P pc lv (.int y :: .int x :: st) M := by
  refine r_iadd hd ?_
  rw [adE h1 h2]
  exact kk
theorem r_imulN {x y : Int32} {a b : Nat} (hd : decode k.2.1 pc = .ok (.imul, 1)) (h1 : x = nI a) (h2 : y = nI b) (kk : RJ G L k d P (pc + 1) lv (.int (nI (a * b)) :: st) M) : RJ G L k d P pc lv (.int y :: .int x :: st) M := by
  refine r_imul hd ?_
  rw [mlE h1 h2]
  exact kk
theorem r_isubN {x y : Int32} {a b : Nat} (hd : decode k.2.1 pc = .ok (.isub, 1)) (h1 : x = nI a) (h2 : y = nI b) (h : b ≤ a) (kk : RJ G L k d P (pc + 1) lv (.int (nI (a - b)) :: st) M) : RJ G L k d P pc lv (.int y :: .int x :: st) M := by
  refine r_isub hd ?_
  rw [sbE h1 h2 h]
  exact kk
theorem r_nrm {x y : Int32} (e : x = y) (kk : RJ G L k d P pc lv (.int y :: st) M) : RJ G L k d P pc lv (.int x :: st) M := by
  subst e; exact kk
end RA2
/-- a row of 138: how many NODES, letters, numbers, operands, NAMES, THE MACHINE -/
def MS (n : Nat) (le nu lf rt nm : Nat → Int32) (mc : Nat → Nat) (f : Nat → Int32) : Prop := f 0 = nI n ∧ (∀ j, j < n → f (1 + j) = le j ∧ f (32 + j) = nu j ∧ f (63 + j) = lf j ∧ f (94 + j) = rt j) ∧ (∀ j, j < 8 → f (125 + j) = nm j) ∧ ∀ j, j < 5 → f (133 + j) = nI (mc j)
section MSs
variable {n j : Nat} {le nu lf rt nm f : Nat → Int32} {mc : Nat → Nat}
theorem MS.gle (h : MS n le nu lf rt nm mc f) (hj : j < n) : f (1 + j) = le j := (h.2.1 j hj).1
theorem MS.gnu (h : MS n le nu lf rt nm mc f) (hj : j < n) : f (32 + j) = nu j := (h.2.1 j hj).2.1
theorem MS.glf (h : MS n le nu lf rt nm mc f) (hj : j < n) : f (63 + j) = lf j := (h.2.1 j hj).2.2.1
theorem MS.grt (h : MS n le nu lf rt nm mc f) (hj : j < n) : f (94 + j) = rt j := (h.2.1 j hj).2.2.2
theorem MS.gnm (h : MS n le nu lf rt nm mc f) (hj : j < 8) : f (125 + j) = nm j := h.2.2.1 j hj
theorem MS.gmc (h : MS n le nu lf rt nm mc f) (hj : j < 5) : f (133 + j) = nI (mc j) := h.2.2.2 j hj
theorem MS.eqv {g : Nat → Int32} (h : MS n le nu lf rt nm mc f) (hn : n ≤ 31) (hg : ∀ q, q < 138 → g q = f q) : MS n le nu lf rt nm mc g := by
  refine ⟨by rw [hg 0 (by omega)]; exact h.1, fun j hj => ?_, fun j hj => ?_, fun j hj => ?_⟩
  · rw [hg _ (by omega), hg _ (by omega), hg _ (by omega), hg _ (by omega)]; exact h.2.1 j hj
  · rw [hg _ (by omega)]; exact h.2.2.1 j hj
  · rw [hg _ (by omega)]; exact h.2.2.2 j hj
end MSs
/-- whether a word is the number of a NODE -/
def isN (n : Nat) (k : Int32) : Bool := decide (¬ k < 0 ∧ ¬ nI n ≤ k)
theorem isN_ex {n : Nat} {k : Int32} (h : isN n k = true) (hn : n < 2 ^ 31) : ∃ j, j < n ∧ k = nI j := by
  have h2 := of_decide_eq_true h
  have v0 := vp_of h2.1 h2.2 hn
  have v : k.toNatClampNeg < n := Nat.lt_of_not_le (fun h => v0 (Or.inr h))
  refine ⟨k.toNatClampNeg, v, ?_⟩
  have a : 0 ≤ k.toInt := by have := h2.1; rw [Int32.lt_iff_toInt_lt] at this; simpa using this
  apply Int32.toInt_inj.mp
  rw [nI_toInt (by omega)]
  show k.toInt = ((k.toNatClampNeg : Nat) : Int)
  unfold Int32.toNatClampNeg
  omega
theorem isN_nI {n j : Nat} (h : j < n) (hn : n < 2 ^ 31) : isN n (nI j) = true := decide_eq_true ⟨nI_pos (by omega), nI_ge h hn⟩
