-- all that follows from a tree and a machine
def wy0 (mc : Nat → Nat) (le lf rt : Nat → Int32) (z : Nat → Nat) (tp : Nat → Bool) (C : Nat → Nat → Nat) : Nat → Nat → Nat := fun k i => (cX mc le lf rt z tp (fun k => decide (lf k = -9)) C k i).1
def GS (n : Nat) (le nu lf rt : Nat → Int32) (z : Nat → Nat) (tp : Nat → Bool) (nd ld ak mc : Nat → Nat) (C : Nat → Nat → Nat) (Q : nP) : Prop :=
  GH n le nu lf rt z tp nd ld ak ∧ MOK mc ∧ CTb n mc le lf rt z tp (fun k => decide (lf k = -9)) (fun _ => false) C ∧ ∀ k b i c, k < n → Q k b i c = pX le nu lf rt z (wy0 mc le lf rt z tp C) Q k b i c
section GSs
variable {n : Nat} {le nu lf rt nm : Nat → Int32} {z nd ld ak mc : Nat → Nat} {tp : Nat → Bool} {C : Nat → Nat → Nat} {Q : nP}
theorem gs_ex (hw : WF n le nu lf rt z) (hm : MOK mc) : ∃ g : (Nat → Bool) × (Nat → Nat) × (Nat → Nat) × (Nat → Nat) × (Nat → Nat → Nat) × nP, GS n le nu lf rt z g.1 g.2.1 g.2.2.1 g.2.2.2.1 mc g.2.2.2.2.1 g.2.2.2.2.2 := by
  obtain ⟨⟨tp, nd, ld, ak⟩, hg⟩ := gh_ex hw
  obtain ⟨C, hC⟩ := ct_ex hw mc tp (fun _ => false)
  have e : (fun k => decide (lf k = -9) || false) = (fun k => decide (lf k = -9)) := by funext k; rw [Bool.or_false]
  rw [e] at hC
  obtain ⟨Q, hQ⟩ := pq_ex hw (wy0 mc le lf rt z tp C)
  exact ⟨(tp, nd, ld, ak, C, Q), hg, hm, hC, hQ⟩
theorem wy_pair (hw : WF n le nu lf rt z) {k i : Nat} (hk : k < n) (hr : rt k ≠ -9) : 1 ≤ wy0 mc le lf rt z tp C k i ∧ wy0 mc le lf rt z tp C k i < 7 ∧ ((wy0 mc le lf rt z tp C k i = 1 ∨ wy0 mc le lf rt z tp C k i = 2 ∨ wy0 mc le lf rt z tp C k i = 5) → 2 ≤ i) := by
  have hl := hw.pair_lf hk hr
  unfold wy0 cX
  rw [if_neg hl, if_neg hr]
  refine ⟨Nat.pos_of_ne_zero (best_pos _ _ _ _ _ _ _ _), ?_, fun h => ?_⟩
  · have key : ∀ (a : Nat × Nat) (w p : Nat) (b : Bool), a.1 < 7 → w < 7 → (offr a w b p).1 < 7 := by
      intro a w p b h1 h2
      unfold offr
      split
      · exact h2
      · exact h1
    unfold best
    exact key _ _ _ _ (key _ _ _ _ (key _ _ _ _ (key _ _ _ _ (key _ _ _ _ (key _ _ _ _ (by decide) (by decide)) (by decide)) (by decide)) (by decide)) (by decide)) (by decide)
  · apply Classical.byContradiction
    intro q
    have := best_two mc (fun k => decide (lf k = -9)) C (k - 1 - z (k - 1)) (k - 1) i (!(tp (k - 1 - z (k - 1)) && tp (k - 1))) (o_comm (le k)) q
    rcases h with h | h | h
    · exact this.1 h
    · exact this.2.1 h
    · exact this.2.2 h
theorem wy_zero (hw : WF n le nu lf rt z) {k i : Nat} (hk : k < n) (hr : rt k = -9) : wy0 mc le lf rt z tp C k i = 0 := by
  unfold wy0 cX
  by_cases hl : lf k = -9
  · rw [if_pos hl]
  · rw [if_neg hl, if_pos hr]
theorem src_ok (hw : WF n le nu lf rt z) {x cc : Nat} (hx : x < n) (hc : lf x ≠ -9 → cc < 31) : sOK (srK le lf x) (srN nu lf x cc) := by
  unfold sOK srK srN
  by_cases hl : lf x = -9
  · rw [if_pos hl, if_pos hl]
    rcases (hw.leaf_rt hx hl).2.2 with ⟨h1, -⟩ | ⟨q, hq, h1, h2⟩
    · rw [if_pos h1]; exact Or.inl rfl
    · have : le x ≠ 48 := by
        rw [h1]
        have : ∀ q, q < 8 → nI (97 + q) ≠ 48 := by decide
        exact this q hq
      rw [if_neg this]; exact Or.inr (Or.inl ⟨rfl, q, hq, h2⟩)
  · rw [if_neg hl, if_neg hl]; exact Or.inr (Or.inr ⟨rfl, cc, hc hl, rfl⟩)
/-- every LINE of a program stands -/
theorem lok_all (h : GS n le nu lf rt z tp nd ld ak mc C Q) : ∀ k, k < n → ∀ b i c, 1 ≤ i → b + i ≤ 6 → c + z k ≤ 31 → ∀ x ∈ (Q k b i c).1, LOK n x := by
  obtain ⟨hg, hm, hC, hQ⟩ := h
  have hw := hg.1
  have hn := hw.1
  have pl := pX_le hw hQ
  have l0 : ∀ {r k : Nat} {a b : Int32}, r < 6 → k < n → sOK a b → LOK n (0, nI r, nI k, a, b) := fun hr hk hs => ⟨⟨_, hr, rfl⟩, ⟨_, hk, rfl⟩, Or.inl ⟨rfl, hs⟩⟩
  have l1 : ∀ {r k s t : Nat}, r < 6 → k < n → s < 6 → t < 6 → LOK n (1, nI r, nI k, nI s, nI t) := fun hr hk hs ht => ⟨⟨_, hr, rfl⟩, ⟨_, hk, rfl⟩, Or.inr (Or.inl ⟨rfl, ⟨_, hs, rfl⟩, _, ht, rfl⟩)⟩
  have l2 : ∀ {r k : Nat} {a b : Int32}, r < 6 → k < n → sOK a b → LOK n (2, nI r, nI k, a, b) := fun hr hk hs => ⟨⟨_, hr, rfl⟩, ⟨_, hk, rfl⟩, Or.inr (Or.inr (Or.inl ⟨rfl, hs⟩))⟩
  have l3 : ∀ {r k c : Nat} {a : Int32}, r < 6 → k < n → c < 31 → LOK n (3, nI r, nI k, a, nI c) := fun hr hk hs => ⟨⟨_, hr, rfl⟩, ⟨_, hk, rfl⟩, Or.inr (Or.inr (Or.inr ⟨rfl, _, hs, rfl⟩))⟩
  intro k
  induction k using Nat.strongRecOn with
  | _ k ih =>
    intro hk b i c hi hb hc x hx
    have zb := hw.zb k hk
    rw [hQ k b i c hk] at hx
    unfold pX at hx
    by_cases hl : lf k = -9
    · rw [if_pos hl] at hx
      rw [List.mem_singleton] at hx
      subst hx
      have := src_ok (cc := 0) hw hk (fun q => absurd hl q)
      rw [srN, if_pos hl] at this
      exact l0 (by omega) hk this
    · rw [if_neg hl] at hx
      by_cases hr : rt k = -9
      · rw [if_pos hr] at hx
        have s := hw.single hk hl hr
        rcases List.mem_append.mp hx with h | h
        · exact ih (k - 1) (by omega) (by omega) b i c hi hb (by omega) x h
        · rw [List.mem_singleton] at h
          subst h
          exact l1 (by omega) hk (by omega) (by omega)
      · rw [if_neg hr] at hx
        have s := hw.pair hk hr
        have zR := hw.zb (k - 1) (by omega)
        have zL := hw.zb (k - 1 - z (k - 1)) (by omega)
        have ez := s.2.2.2.2.2.2
        have wp := wy_pair (mc := mc) (tp := tp) (C := C) (i := i) hw hk hr
        have ihR := ih (k - 1) (by omega) (by omega)
        have ihL := ih (k - 1 - z (k - 1)) (by omega) (by omega)
        have pR := pl (k - 1) (by omega)
        have pL := pl (k - 1 - z (k - 1)) (by omega)
        have hl1 : k - 1 - z (k - 1) < n := by omega
        have hr1 : k - 1 < n := by omega
        generalize k - 1 - z (k - 1) = l at *
        generalize k - 1 = r at *
        have kp : ∀ y, y < n → (∀ b i c, 1 ≤ i → b + i ≤ 6 → c + z y ≤ 31 → ∀ x ∈ (Q y b i c).1, LOK n x) → ∀ c, c + z y ≤ 30 → (∀ x ∈ kpL lf Q y b i c, LOK n x) ∧ kpC lf Q y b i c ≤ c + z y ∧ (Q y b i c).2 < 31 := by
          intro y hy hi2 c hc
          have a := pl y hy b i c
          have zy := hw.zb y hy
          refine ⟨fun x hx => ?_, ?_, by omega⟩
          · unfold kpL at hx
            by_cases q : lf y = -9
            · rw [if_pos q] at hx; cases hx
            · rw [if_neg q] at hx
              rcases List.mem_append.mp hx with h | h
              · exact hi2 b i c hi hb (by omega) x h
              · rw [List.mem_singleton] at h
                subst h
                exact l3 (by omega) hy (by omega)
          · unfold kpC; split <;> omega
        unfold pW at hx
        rcases six wp.1 wp.2.1 with w | w | w | w | w | w
        · have i2 := wp.2.2 (Or.inl w)
          rw [w, if_pos rfl] at hx
          have a := pL b i c
          simp only [List.mem_append, List.mem_singleton] at hx
          rcases hx with (h | h) | rfl
          · exact ihL b i c hi hb (by omega) x h
          · exact ihR _ _ _ (by omega) (by omega) (by omega) x h
          · exact l1 (by omega) hk (by omega) (by omega)
        · have i2 := wp.2.2 (Or.inr (Or.inl w))
          rw [w, if_neg (by decide), if_pos rfl] at hx
          have a := pR b i c
          simp only [List.mem_append, List.mem_singleton] at hx
          rcases hx with (h | h) | rfl
          · exact ihR b i c hi hb (by omega) x h
          · exact ihL _ _ _ (by omega) (by omega) (by omega) x h
          · exact l1 (by omega) hk (by omega) (by omega)
        · rw [w, if_neg (by decide), if_neg (by decide), if_pos rfl] at hx
          have a := kp r hr1 ihR c (by omega)
          simp only [List.mem_append, List.mem_singleton] at hx
          rcases hx with (h | h) | rfl
          · exact a.1 x h
          · exact ihL _ _ _ (by omega) (by omega) (by omega) x h
          · exact l2 (by omega) hk (src_ok hw hr1 (fun _ => a.2.2))
        · rw [w, if_neg (by decide), if_neg (by decide), if_neg (by decide), if_pos rfl] at hx
          have a := kp l hl1 ihL c (by omega)
          simp only [List.mem_append, List.mem_singleton] at hx
          rcases hx with (h | h) | rfl
          · exact a.1 x h
          · exact ihR _ _ _ (by omega) (by omega) (by omega) x h
          · exact l2 (by omega) hk (src_ok hw hl1 (fun _ => a.2.2))
        · have i2 := wp.2.2 (Or.inr (Or.inr w))
          rw [w, if_neg (by decide), if_neg (by decide), if_neg (by decide), if_neg (by decide), if_pos rfl] at hx
          have a := kp l hl1 ihL c (by omega)
          simp only [List.mem_append, List.mem_singleton] at hx
          rcases hx with ((h | h) | rfl) | rfl
          · exact a.1 x h
          · exact ihR _ _ _ (by omega) (by omega) (by omega) x h
          · exact l0 (by omega) hl1 (src_ok hw hl1 (fun _ => a.2.2))
          · exact l1 (by omega) hk (by omega) (by omega)
        · rw [w, if_neg (by decide), if_neg (by decide), if_neg (by decide), if_neg (by decide), if_neg (by decide)] at hx
          have a := kp l hl1 ihL c (by omega)
          have a2 := kp r hr1 ihR (kpC lf Q l b i c) (by omega)
          simp only [List.mem_append, List.mem_singleton] at hx
          rcases hx with ((h | h) | rfl) | rfl
          · exact a.1 x h
          · exact a2.1 x h
          · exact l0 (by omega) hl1 (src_ok hw hl1 (fun _ => a.2.2))
          · exact l2 (by omega) hk (src_ok hw hr1 (fun _ => a2.2.2))
/-- the program of the ROOT: LINES, cells -/
def prg (n : Nat) (Q : nP) (i : Nat) : List Ln := (Q (n - 1) 0 i 0).1
def prc (n : Nat) (Q : nP) (i : Nat) : Nat := (Q (n - 1) 0 i 0).2
theorem prg_ok (h : GS n le nu lf rt z tp nd ld ak mc C Q) (h0 : 0 < n) {i : Nat} (hi : 1 ≤ i) (hi2 : i ≤ mc 0) : (∀ x ∈ prg n Q i, LOK n x) ∧ (prg n Q i).length ≤ 91 ∧ prc n Q i < 31 := by
  have h6 := h.2.1.2.1
  have hw := h.1.1
  have zb := hw.zb (n - 1) (by omega)
  have hn := hw.1
  have a := pX_le hw h.2.2.2 (n - 1) (by omega) 0 i 0
  unfold prg prc
  exact ⟨lok_all h (n - 1) (by omega) 0 i 0 hi (by omega) (by omega), by omega, by omega⟩
end GSs
