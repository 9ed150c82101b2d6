-- operands that change places: what a tree is then
theorem WF.nest {n : Nat} {le nu lf rt : Nat → Int32} {z : Nat → Nat} (hw : WF n le nu lf rt z) : ∀ k, k < n → ∀ j, k + 1 ≤ j + z k → j ≤ k → k + z j ≤ j + z k := by
  intro k
  induction k using Nat.strongRecOn with
  | _ k ih =>
    intro hk j h1 h2
    by_cases e : j = k
    · subst e; omega
    · by_cases hl : lf k = -9
      · have := hw.leaf_rt hk hl; omega
      · by_cases hr : rt k = -9
        · have s := hw.single hk hl hr
          have := ih (k - 1) (by omega) (by omega) j (by omega) (by omega)
          omega
        · have s := hw.pair hk hr
          have zb := hw.zb (k - 1) (by omega)
          by_cases q : k ≤ j + z (k - 1)
          · have := ih (k - 1) (by omega) (by omega) j (by omega) (by omega)
            omega
          · have := ih (k - 1 - z (k - 1)) (by omega) (by omega) j (by omega) (by omega)
            omega
theorem sh9_9 (x : Int32) : sh9 (-9) x = -9 := by unfold sh9; rw [if_pos rfl]
theorem sh9_neg {c d : Nat} (h : d ≤ c) (hc : c < 2 ^ 31) : sh9 (nI c) (-nI d) = nI (c - d) := by unfold sh9; rw [if_neg (nI_ne9 hc), nI_neg h]
theorem sh9_pos {c d : Nat} (hc : c < 2 ^ 31) : sh9 (nI c) (nI d) = nI (c + d) := by unfold sh9; rw [if_neg (nI_ne9 hc), nI_add]
def xz (f0 zl zr : Nat) (z : Nat → Nat) : Nat → Nat := fun j => if f0 ≤ j ∧ j < f0 + zr then z (j + zl) else if f0 + zr ≤ j ∧ j < f0 + zr + zl then z (j - zr) else z j
section XA
variable {f0 zl zr j : Nat} {a : Nat → Int32} {z : Nat → Nat}
theorem xa_B (h1 : f0 ≤ j) (h2 : j < f0 + zr) : xa f0 zl zr a j = a (j + zl) := by
  simp only [xa, pt]; rw [if_pos ⟨h1, h2⟩]; congr 1; omega
theorem xa_C (h1 : f0 + zr ≤ j) (h2 : j < f0 + zr + zl) : xa f0 zl zr a j = a (j - zr) := by
  simp only [xa, pt]; rw [if_neg (by omega), if_pos ⟨h1, h2⟩]; congr 1; omega
theorem xa_O (h : j < f0 ∨ f0 + zr + zl ≤ j) : xa f0 zl zr a j = a j := by
  simp only [xa, pt]; rw [if_neg (by omega), if_neg (by omega)]
theorem xb_B (h1 : f0 ≤ j) (h2 : j < f0 + zr) : xb f0 zl zr a j = sh9 (a (j + zl)) (-nI zl) := by
  simp only [xb, pt]; rw [if_pos ⟨h1, h2⟩]; congr 2; omega
theorem xb_C (h1 : f0 + zr ≤ j) (h2 : j < f0 + zr + zl) : xb f0 zl zr a j = sh9 (a (j - zr)) (nI zr) := by
  simp only [xb, pt]; rw [if_neg (by omega), if_pos ⟨h1, h2⟩]; congr 2; omega
theorem xb_O (h : j < f0 ∨ f0 + zr + zl ≤ j) : xb f0 zl zr a j = a j := by
  simp only [xb, pt]; rw [if_neg (by omega), if_neg (by omega)]
theorem xz_B (h1 : f0 ≤ j) (h2 : j < f0 + zr) : xz f0 zl zr z j = z (j + zl) := by simp only [xz]; rw [if_pos ⟨h1, h2⟩]
theorem xz_C (h1 : f0 + zr ≤ j) (h2 : j < f0 + zr + zl) : xz f0 zl zr z j = z (j - zr) := by simp only [xz]; rw [if_neg (by omega), if_pos ⟨h1, h2⟩]
theorem xz_O (h : j < f0 ∨ f0 + zr + zl ≤ j) : xz f0 zl zr z j = z j := by simp only [xz]; rw [if_neg (by omega), if_neg (by omega)]
end XA
/-- the numbers of an exchange: k the operator, L its left operand, f0 the first NODE, zl zr how many -/
def XN (k L f0 zl zr : Nat) (z : Nat → Nat) : Prop := L + 1 = f0 + zl ∧ k = L + zr + 1 ∧ 1 ≤ zr ∧ 1 ≤ zl ∧ z L = zl ∧ z (k - 1) = zr ∧ z k = zl + zr + 1
theorem XN_of {n : Nat} {le nu lf rt : Nat → Int32} {z : Nat → Nat} (hw : WF n le nu lf rt z) {k : Nat} (hk : k < n) (hr : rt k ≠ -9) : XN k (k - 1 - z (k - 1)) (k + 1 - z k) (z (k - 1 - z (k - 1))) (z (k - 1)) z := by
  have s := hw.pair hk hr
  have a := hw.zb (k - 1) (by omega)
  have b := hw.zb (k - 1 - z (k - 1)) (by omega)
  have c := hw.zb k hk
  unfold XN
  refine ⟨by omega, by omega, a.1, b.1, rfl, rfl, by omega⟩
theorem xch_wf {n : Nat} {le nu lf rt : Nat → Int32} {z : Nat → Nat} (hw : WF n le nu lf rt z) {k L f0 zl zr : Nat} (hk : k < n) (hr : rt k ≠ -9) (hx : XN k L f0 zl zr z) :
    WF n (xa f0 zl zr le) (xa f0 zl zr nu) (upd (xb f0 zl zr lf) k (nI (k - 1 - zl))) (upd (xb f0 zl zr rt) k (nI (k - 1))) (xz f0 zl zr z) := by
  have hn := hw.1
  obtain ⟨x1, x2, x3, x4, x5, x6, x7⟩ := hx
  have sp := hw.pair hk hr
  refine ⟨hn, fun j hj => ?_⟩
  rcases Nat.lt_trichotomy j k with jk | jk | jk
  · have e1 : upd (xb f0 zl zr lf) k (nI (k - 1 - zl)) j = xb f0 zl zr lf j := upd_ne _ _ (by omega)
    have e2 : upd (xb f0 zl zr rt) k (nI (k - 1)) j = xb f0 zl zr rt j := upd_ne _ _ (by omega)
    unfold WFk lfL
    rw [e1, e2]
    by_cases a0 : j < f0
    · -- ahead of it
      rw [xa_O (Or.inl a0), xa_O (Or.inl a0), xb_O (Or.inl a0), xb_O (Or.inl a0), xz_O (Or.inl a0)]
      have zj : xz f0 zl zr z (j - 1) = z (j - 1) := xz_O (Or.inl (by omega))
      have zy : xz f0 zl zr z (j - 1 - z (j - 1)) = z (j - 1 - z (j - 1)) := xz_O (Or.inl (by omega))
      rw [zj, zy]
      exact hw.2 j hj
    · by_cases b0 : j < f0 + zr
      · -- what was the right operand
        have hq : j + zl < n := by omega
        have nst := hw.nest (k - 1) (by omega) (j + zl) (by omega) (by omega)
        have zq := hw.zb (j + zl) hq
        rw [xa_B (by omega) b0, xa_B (by omega) b0, xb_B (by omega) b0, xb_B (by omega) b0, xz_B (by omega) b0]
        rcases hw.2 (j + zl) hq with ⟨h1, h2, h3, h4⟩ | ⟨h1, h2, h3, h4, h5, h6⟩ | ⟨h1, h2, h3, h4, h5, h6, h7⟩
        · exact Or.inl ⟨by rw [h1, sh9_9], by rw [h2, sh9_9], h3, h4⟩
        · have zc := hw.zb (j + zl - 1) (by omega)
          have e3 : xz f0 zl zr z (j - 1) = z (j + zl - 1) := by rw [xz_B (by omega) (by omega)]; congr 1; omega
          refine Or.inr (Or.inl ⟨h1, h2, by omega, ?_, by rw [h5, sh9_9], by rw [e3]; exact h6⟩)
          rw [h4, sh9_neg (by omega) (by omega)]; congr 1; omega
        · have zc := hw.zb (j + zl - 1) (by omega)
          have zy := hw.zb (j + zl - 1 - z (j + zl - 1)) (by omega)
          have e3 : xz f0 zl zr z (j - 1) = z (j + zl - 1) := by rw [xz_B (by omega) (by omega)]; congr 1; omega
          have e4 : xz f0 zl zr z (j - 1 - z (j + zl - 1)) = z (j + zl - 1 - z (j + zl - 1)) := by rw [xz_B (by omega) (by omega)]; congr 1; omega
          refine Or.inr (Or.inr ⟨h1, h2, by omega, ?_, ?_, ?_, ?_⟩)
          · rw [h4, sh9_neg (by omega) (by omega)]; congr 1; omega
          · rw [e3]; omega
          · rw [e3, h6, sh9_neg (by omega) (by omega)]; congr 1; omega
          · rw [e3, e4]; exact h7
      · -- what was the left operand
        have c0 : j < f0 + zr + zl := by omega
        have hq : j - zr < n := by omega
        have nst := hw.nest L (by omega) (j - zr) (by omega) (by omega)
        have zq := hw.zb (j - zr) hq
        rw [xa_C (by omega) c0, xa_C (by omega) c0, xb_C (by omega) c0, xb_C (by omega) c0, xz_C (by omega) c0]
        rcases hw.2 (j - zr) hq with ⟨h1, h2, h3, h4⟩ | ⟨h1, h2, h3, h4, h5, h6⟩ | ⟨h1, h2, h3, h4, h5, h6, h7⟩
        · exact Or.inl ⟨by rw [h1, sh9_9], by rw [h2, sh9_9], h3, h4⟩
        · have zc := hw.zb (j - zr - 1) (by omega)
          have e3 : xz f0 zl zr z (j - 1) = z (j - zr - 1) := by rw [xz_C (by omega) (by omega)]; congr 1; omega
          refine Or.inr (Or.inl ⟨h1, h2, by omega, ?_, by rw [h5, sh9_9], by rw [e3]; exact h6⟩)
          rw [h4, sh9_pos (by omega)]; congr 1; omega
        · have zc := hw.zb (j - zr - 1) (by omega)
          have zy := hw.zb (j - zr - 1 - z (j - zr - 1)) (by omega)
          have e3 : xz f0 zl zr z (j - 1) = z (j - zr - 1) := by rw [xz_C (by omega) (by omega)]; congr 1; omega
          have e4 : xz f0 zl zr z (j - 1 - z (j - zr - 1)) = z (j - zr - 1 - z (j - zr - 1)) := by rw [xz_C (by omega) (by omega)]; congr 1; omega
          refine Or.inr (Or.inr ⟨h1, h2, by omega, ?_, ?_, ?_, ?_⟩)
          · rw [h4, sh9_pos (by omega)]; congr 1; omega
          · rw [e3]; omega
          · rw [e3, h6, sh9_pos (by omega)]; congr 1; omega
          · rw [e3, e4]; exact h7
  · subst jk
    unfold WFk
    rw [upd_at, upd_at, xa_O (Or.inr (by omega)), xa_O (Or.inr (by omega)), xz_O (j := j) (Or.inr (by omega))]
    have e3 : xz f0 zl zr z (j - 1) = zl := by rw [xz_C (by omega) (by omega), show j - 1 - zr = L by omega]; exact x5
    have e4 : xz f0 zl zr z (j - 1 - zl) = zr := by rw [xz_B (by omega) (by omega), show j - 1 - zl + zl = j - 1 by omega]; exact x6
    refine Or.inr (Or.inr ⟨sp.1, sp.2.1, by omega, rfl, by rw [e3]; omega, by rw [e3], ?_⟩)
    rw [e3, e4]; omega
  · have e1 : upd (xb f0 zl zr lf) k (nI (k - 1 - zl)) j = xb f0 zl zr lf j := upd_ne _ _ (by omega)
    have e2 : upd (xb f0 zl zr rt) k (nI (k - 1)) j = xb f0 zl zr rt j := upd_ne _ _ (by omega)
    unfold WFk lfL
    rw [e1, e2, xa_O (Or.inr (by omega)), xa_O (Or.inr (by omega)), xb_O (Or.inr (by omega)), xb_O (Or.inr (by omega)), xz_O (j := j) (Or.inr (by omega))]
    have e3 : xz f0 zl zr z (j - 1) = z (j - 1) := xz_O (Or.inr (by omega))
    rw [e3]
    rcases hw.2 j hj with o | o | ⟨h1, h2, h3, h4, h5, h6, h7⟩
    · exact Or.inl o
    · exact Or.inr (Or.inl o)
    · have e4 : xz f0 zl zr z (j - 1 - z (j - 1)) = z (j - 1 - z (j - 1)) := by
        apply xz_O
        by_cases q : k ≤ j - 1 - z (j - 1)
        · exact Or.inr (by omega)
        · have := hw.nest (j - 1) (by omega) k (by omega) (by omega)
          exact Or.inl (by omega)
      rw [e4]
      exact Or.inr (Or.inr ⟨h1, h2, h3, h4, h5, h6, h7⟩)
/-- once more, and all is as it was -/
theorem xch_inv {n : Nat} {le nu lf rt : Nat → Int32} {z : Nat → Nat} (hw : WF n le nu lf rt z) {k L f0 zl zr : Nat} (hk : k < n) (hr : rt k ≠ -9) (hx : XN k L f0 zl zr z) :
    (∀ a : Nat → Int32, ∀ j, xa f0 zr zl (xa f0 zl zr a) j = a j) ∧ (∀ j, j < n → upd (xb f0 zr zl (upd (xb f0 zl zr lf) k (nI (k - 1 - zl)))) k (nI (k - 1 - zr)) j = lf j) ∧ (∀ j, j < n → upd (xb f0 zr zl (upd (xb f0 zl zr rt) k (nI (k - 1)))) k (nI (k - 1)) j = rt j) ∧ ∀ j, xz f0 zr zl (xz f0 zl zr z) j = z j := by
  have hn := hw.1
  obtain ⟨x1, x2, x3, x4, x5, x6, x7⟩ := hx
  have sp := hw.pair hk hr
  have cancel1 : ∀ (x : Int32), (x = -9 ∨ ∃ c, zl ≤ c ∧ c < 31 ∧ x = nI c) → sh9 (sh9 x (-nI zl)) (nI zl) = x := by
    rintro x (rfl | ⟨c, hc, hc2, rfl⟩)
    · rw [sh9_9, sh9_9]
    · rw [sh9_neg hc (by omega), sh9_pos (by omega)]; congr 1; omega
  have cancel2 : ∀ (x : Int32), (x = -9 ∨ ∃ c, c < 31 ∧ x = nI c) → sh9 (sh9 x (nI zr)) (-nI zr) = x := by
    rintro x (rfl | ⟨c, hc2, rfl⟩)
    · rw [sh9_9, sh9_9]
    · rw [sh9_pos (by omega), sh9_neg (by omega) (by omega)]; congr 1; omega
  have inner : ∀ j, f0 + zl ≤ j → j < k → (lf j = -9 ∨ ∃ c, zl ≤ c ∧ c < 31 ∧ lf j = nI c) ∧ (rt j = -9 ∨ ∃ c, zl ≤ c ∧ c < 31 ∧ rt j = nI c) := by
    intro j h1 h2
    have nst := hw.nest (k - 1) (by omega) j (by omega) (by omega)
    rcases hw.2 j (by omega) with ⟨q1, q2, -⟩ | ⟨-, -, q3, q4, q5, q6⟩ | ⟨-, -, q3, q4, q5, q6, q7⟩
    · exact ⟨Or.inl q1, Or.inl q2⟩
    · have := hw.zb (j - 1) (by omega)
      exact ⟨Or.inr ⟨_, by omega, by omega, q4⟩, Or.inl q5⟩
    · have := hw.zb (j - 1) (by omega)
      have := hw.zb (j - 1 - z (j - 1)) (by omega)
      exact ⟨Or.inr ⟨_, by omega, by omega, q6⟩, Or.inr ⟨_, by omega, by omega, q4⟩⟩
  have any : ∀ j, j < n → (lf j = -9 ∨ ∃ c, c < 31 ∧ lf j = nI c) ∧ (rt j = -9 ∨ ∃ c, c < 31 ∧ rt j = nI c) := by
    intro j hj
    have c := hw.child hj
    exact ⟨c.1.imp id (fun ⟨c, h, e⟩ => ⟨c, by omega, e⟩), c.2.imp id (fun ⟨c, h, e⟩ => ⟨c, by omega, e⟩)⟩
  refine ⟨fun a j => ?_, fun j hj => ?_, fun j hj => ?_, fun j => ?_⟩
  · by_cases b0 : f0 ≤ j ∧ j < f0 + zl
    · rw [xa_B b0.1 b0.2, xa_C (by omega) (by omega)]; congr 1; omega
    · by_cases c0 : f0 + zl ≤ j ∧ j < f0 + zl + zr
      · rw [xa_C c0.1 c0.2, xa_B (by omega) (by omega)]; congr 1; omega
      · rw [xa_O (by omega), xa_O (by omega)]
  · by_cases e : j = k
    · subst e; rw [upd_at, sp.2.2.2.2.2.1, x6]
    · rw [upd_ne _ _ e]
      by_cases b0 : f0 ≤ j ∧ j < f0 + zl
      · rw [xb_B b0.1 b0.2, upd_ne _ _ (by omega), xb_C (by omega) (by omega), show j + zr - zr = j by omega]
        exact cancel2 _ (any j hj).1
      · by_cases c0 : f0 + zl ≤ j ∧ j < f0 + zl + zr
        · rw [xb_C c0.1 c0.2, upd_ne _ _ (by omega), xb_B (by omega) (by omega), show j - zl + zl = j by omega]
          exact cancel1 _ (inner j (by omega) (by omega)).1
        · rw [xb_O (by omega), upd_ne _ _ e, xb_O (by omega)]
  · by_cases e : j = k
    · subst e; rw [upd_at, sp.2.2.2.1]
    · rw [upd_ne _ _ e]
      by_cases b0 : f0 ≤ j ∧ j < f0 + zl
      · rw [xb_B b0.1 b0.2, upd_ne _ _ (by omega), xb_C (by omega) (by omega), show j + zr - zr = j by omega]
        exact cancel2 _ (any j hj).2
      · by_cases c0 : f0 + zl ≤ j ∧ j < f0 + zl + zr
        · rw [xb_C c0.1 c0.2, upd_ne _ _ (by omega), xb_B (by omega) (by omega), show j - zl + zl = j by omega]
          exact cancel1 _ (inner j (by omega) (by omega)).2
        · rw [xb_O (by omega), upd_ne _ _ e, xb_O (by omega)]
  · by_cases b0 : f0 ≤ j ∧ j < f0 + zl
    · rw [xz_B b0.1 b0.2, xz_C (by omega) (by omega)]; congr 1; omega
    · by_cases c0 : f0 + zl ≤ j ∧ j < f0 + zl + zr
      · rw [xz_C c0.1 c0.2, xz_B (by omega) (by omega)]; congr 1; omega
      · rw [xz_O (by omega), xz_O (by omega)]
/-- the numbers of the exchange back -/
theorem XN_back {k L f0 zl zr : Nat} {z : Nat → Nat} (hx : XN k L f0 zl zr z) : XN k (k - 1 - zl) f0 zr zl (xz f0 zl zr z) := by
  obtain ⟨x1, x2, x3, x4, x5, x6, x7⟩ := hx
  refine ⟨by omega, by omega, x4, x3, ?_, ?_, ?_⟩
  · rw [xz_B (by omega) (by omega), show k - 1 - zl + zl = k - 1 by omega]; exact x6
  · rw [xz_C (by omega) (by omega), show k - 1 - zr = L by omega]; exact x5
  · rw [xz_O (Or.inr (by omega))]; omega
