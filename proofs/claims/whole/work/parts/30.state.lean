-- abstract states: what both systems hold
theorem fix_ex {α : Type} (F : Nat → (Nat → α) → α) (a0 : α) (hF : ∀ k f g, (∀ j, j < k → f j = g j) → F k f = F k g) : ∃ f : Nat → α, ∀ k, f k = F k f := by
  have key : ∃ tb : Nat → Nat → α, (∀ j, tb 0 j = a0) ∧ ∀ k j, tb (k + 1) j = if j = k then F k (tb k) else tb k j :=
    ⟨fun n => Nat.rec (motive := fun _ => Nat → α) (fun _ => a0) (fun k f j => if j = k then F k f else f j) n, fun _ => rfl, fun _ _ => rfl⟩
  obtain ⟨tb, -, hs⟩ := key
  have stay : ∀ m j, j < m → tb m j = tb (j + 1) j := by
    intro m
    induction m with
    | zero => intro j hj; omega
    | succ m ih =>
      intro j hj
      by_cases e : j = m
      · subst e; rfl
      · rw [hs m j, if_neg e]; exact ih j (by omega)
  refine ⟨fun k => tb (k + 1) k, fun k => ?_⟩
  show tb (k + 1) k = _
  rw [hs k k, if_pos rfl]
  exact hF k _ _ (fun j hj => stay k j hj)
theorem least_ex (P : Nat → Prop) (k : Nat) (h : P k) : ∃ m, m ≤ k ∧ P m ∧ ∀ j, j < m → ¬ P j := by
  induction k using Nat.strongRecOn with
  | _ k ih =>
    by_cases q : ∃ j, j < k ∧ P j
    · obtain ⟨j, hj, hp⟩ := q
      obtain ⟨m, h1, h2, h3⟩ := ih j hj hp
      exact ⟨m, by omega, h2, h3⟩
    · exact ⟨k, Nat.le_refl _, h, fun j hj hp => q ⟨j, hj, hp⟩⟩
theorem alk_refl (le nu lf rt : Nat → Int32) (f : Nat → Nat) (k : Nat) : alk le nu lf rt f k k := ⟨rfl, rfl, rfl, rfl⟩
section GEX
variable {n : Nat} {le nu lf rt : Nat → Int32} {z : Nat → Nat}
theorem WF.child (hw : WF n le nu lf rt z) {k : Nat} (hk : k < n) : (lf k = -9 ∨ ∃ c, c < k ∧ lf k = nI c) ∧ (rt k = -9 ∨ ∃ c, c < k ∧ rt k = nI c) := by
  by_cases hl : lf k = -9
  · exact ⟨Or.inl hl, Or.inl (hw.leaf_rt hk hl).1⟩
  · obtain ⟨L, h1, h2, h3⟩ := ev_child hw hk hl
    exact ⟨Or.inr ⟨L, h1, h2⟩, h3⟩
theorem tp_ex (hw : WF n le nu lf rt z) : ∃ tp : Nat → Bool, ∀ k, k < n → TPk le lf rt z tp k := by
  obtain ⟨f, hf⟩ := fix_ex (α := Bool) (fun k f => if lf k = -9 then false else if rt k = -9 then (if 1 ≤ k then f (k - 1) else false) else (o_trap (le k) || (if k - 1 - z (k - 1) < k then f (k - 1 - z (k - 1)) else false) || (if 1 ≤ k then f (k - 1) else false))) false (by
    intro k f g h
    have e1 : (if 1 ≤ k then f (k - 1) else false) = (if 1 ≤ k then g (k - 1) else false) := by
      split
      · exact h _ (by omega)
      · rfl
    have e2 : (if k - 1 - z (k - 1) < k then f (k - 1 - z (k - 1)) else false) = (if k - 1 - z (k - 1) < k then g (k - 1 - z (k - 1)) else false) := by
      split
      · exact h _ (by omega)
      · rfl
    simp only [e1, e2])
  refine ⟨f, fun k hk => ?_⟩
  unfold TPk
  rw [hf k]
  by_cases hl : lf k = -9
  · simp only [hl, if_true]
  · by_cases hr : rt k = -9
    · have s := hw.single hk hl hr
      simp only [hl, hr, if_false, if_true, s.2.2.1]
    · have s := hw.pair hk hr
      simp only [hl, hr, if_false, s.2.2.1, if_true]
      rw [if_pos (by omega)]
theorem nd_ex (hw : WF n le nu lf rt z) : ∃ nd : Nat → Nat, ∀ k, k < n → NDk lf rt z nd k := by
  obtain ⟨f, hf⟩ := fix_ex (α := Nat) (fun k f => if rt k = -9 then (if 1 ≤ k then v1 lf f (k - 1) else 0) else (if k - 1 - z (k - 1) < k ∧ 1 ≤ k then jn (v1 lf f (k - 1 - z (k - 1))) (v0 lf f (k - 1)) else 0)) 0 (by
    intro k f g h
    have e1 : ∀ j, j < k → v1 lf f j = v1 lf g j := fun j hj => by unfold v1; rw [h j hj]
    have e0 : ∀ j, j < k → v0 lf f j = v0 lf g j := fun j hj => by unfold v0; rw [h j hj]
    split
    · split
      · exact e1 _ (by omega)
      · rfl
    · split
      · rename_i q; rw [e1 _ q.1, e0 _ (by omega)]
      · rfl)
  refine ⟨f, fun k hk hl => ?_⟩
  rw [hf k]
  by_cases hr : rt k = -9
  · have s := hw.single hk hl hr
    simp only [hr, if_true, s.2.2.1]
  · have s := hw.pair hk hr
    simp only [hr, if_false]
    rw [if_pos ⟨by omega, s.2.2.1⟩]
theorem ld_ex (hw : WF n le nu lf rt z) : ∃ ld : Nat → Nat, ∀ k, k < n → LDk le lf rt z ld k := by
  obtain ⟨f, hf⟩ := fix_ex (α := Nat) (fun k f => if rt k = -9 then (if 1 ≤ k then v1 lf f (k - 1) else 0) else (if k - 1 - z (k - 1) < k ∧ 1 ≤ k then (if o_comm (le k) then min (jn (v1 lf f (k - 1 - z (k - 1))) (v0 lf f (k - 1))) (jn (v1 lf f (k - 1)) (v0 lf f (k - 1 - z (k - 1)))) else jn (v1 lf f (k - 1 - z (k - 1))) (v0 lf f (k - 1))) else 0)) 0 (by
    intro k f g h
    have e1 : ∀ j, j < k → v1 lf f j = v1 lf g j := fun j hj => by unfold v1; rw [h j hj]
    have e0 : ∀ j, j < k → v0 lf f j = v0 lf g j := fun j hj => by unfold v0; rw [h j hj]
    split
    · split
      · exact e1 _ (by omega)
      · rfl
    · split
      · rename_i q; rw [e1 _ q.1, e0 _ (show k - 1 < k by omega), e1 _ (show k - 1 < k by omega), e0 _ q.1]
      · rfl)
  refine ⟨f, fun k hk hl => ?_⟩
  rw [hf k]
  by_cases hr : rt k = -9
  · have s := hw.single hk hl hr
    simp only [hr, if_true, s.2.2.1]
  · have s := hw.pair hk hr
    simp only [hr, if_false]
    rw [if_pos ⟨by omega, s.2.2.1⟩]
theorem ak_ex (hw : WF n le nu lf rt z) : ∃ ak : Nat → Nat, ∀ k, k < n → AKk le nu lf rt ak k := by
  have akc : ∀ {f g : Nat → Nat} {k : Nat}, k < n → (∀ j, j < k → f j = g j) → ∀ j, j ≤ k → akk f (lf j) = akk g (lf j) ∧ akk f (rt j) = akk g (rt j) := by
    intro f g k hk h j hj
    have c := hw.child (k := j) (by omega)
    have hn := hw.1
    refine ⟨?_, ?_⟩
    · rcases c.1 with e | ⟨c, hc, e⟩
      · rw [e]; rfl
      · rw [e]; unfold akk; rw [nI_clamp (by omega), h c (by omega)]
    · rcases c.2 with e | ⟨c, hc, e⟩
      · rw [e]; rfl
      · rw [e]; unfold akk; rw [nI_clamp (by omega), h c (by omega)]
  have alc : ∀ {f g : Nat → Nat} {k : Nat}, k < n → (∀ j, j < k → f j = g j) → ∀ j, j ≤ k → (alk le nu lf rt f j k ↔ alk le nu lf rt g j k) := by
    intro f g k hk h j hj
    unfold alk
    rw [(akc hk h j hj).1, (akc hk h j hj).2, (akc hk h k (Nat.le_refl _)).1, (akc hk h k (Nat.le_refl _)).2]
  obtain ⟨f, hf⟩ := fix_ex (α := Nat) (fun k f => if k < n then Classical.choose (least_ex (fun j => alk le nu lf rt f j k) k (alk_refl le nu lf rt f k)) else 0) 0 (by
    intro k f g h
    split
    · rename_i hk
      have a := Classical.choose_spec (least_ex (fun j => alk le nu lf rt f j k) k (alk_refl le nu lf rt f k))
      have b := Classical.choose_spec (least_ex (fun j => alk le nu lf rt g j k) k (alk_refl le nu lf rt g k))
      generalize Classical.choose (least_ex (fun j => alk le nu lf rt f j k) k (alk_refl le nu lf rt f k)) = x at a
      generalize Classical.choose (least_ex (fun j => alk le nu lf rt g j k) k (alk_refl le nu lf rt g k)) = y at b
      rcases Nat.lt_trichotomy x y with q | q | q
      · exact absurd ((alc hk h x a.1).mp a.2.1) (b.2.2 x q)
      · exact q
      · exact absurd ((alc hk h y b.1).mpr b.2.1) (a.2.2 y q)
    · rfl)
  refine ⟨f, fun k hk => ?_⟩
  have a := Classical.choose_spec (least_ex (fun j => alk le nu lf rt f j k) k (alk_refl le nu lf rt f k))
  have e : f k = Classical.choose (least_ex (fun j => alk le nu lf rt f j k) k (alk_refl le nu lf rt f k)) := by rw [hf k, if_pos hk]
  unfold AKk
  rw [e]
  exact a
theorem gh_ex (hw : WF n le nu lf rt z) : ∃ g : (Nat → Bool) × (Nat → Nat) × (Nat → Nat) × (Nat → Nat), GH n le nu lf rt z g.1 g.2.1 g.2.2.1 g.2.2.2 := by
  obtain ⟨tp, h1⟩ := tp_ex hw
  obtain ⟨nd, h2⟩ := nd_ex hw
  obtain ⟨ld, h3⟩ := ld_ex hw
  obtain ⟨ak, h4⟩ := ak_ex hw
  exact ⟨(tp, nd, ld, ak), hw, fun k hk => ⟨h1 k hk, h2 k hk, h3 k hk, h4 k hk⟩⟩
/-- a table of costs for any choice of what counts as a LEAF -/
theorem ct_ex (hw : WF n le nu lf rt z) (mc : Nat → Nat) (tp sh : Nat → Bool) : ∃ C : Nat → Nat → Nat, CTb n mc le lf rt z tp (fun k => decide (lf k = -9) || sh k) sh C := by
  obtain ⟨f, hf⟩ := fix_ex (α := Nat → Nat) (fun k f => fun i => if k < n then (if sh k then mc 1 else (cX mc le lf rt z tp (fun k => decide (lf k = -9) || sh k) f k i).2) else 0) (fun _ => 0) (by
    intro k f g h
    funext i
    split
    · rename_i hk
      split
      · rfl
      · congr 1
        unfold cX
        by_cases hl : lf k = -9
        · rw [if_pos hl, if_pos hl]
        · rw [if_neg hl, if_neg hl]
          by_cases hr : rt k = -9
          · have s := hw.single hk hl hr
            rw [if_pos hr, if_pos hr, h (k - 1) (by omega)]
          · have s := hw.pair hk hr
            rw [if_neg hr, if_neg hr]
            unfold best kpt
            rw [h (k - 1) (by omega), h (k - 1 - z (k - 1)) (by omega)]
    · rfl)
  refine ⟨f, fun k hk => rfl, fun k i hk => ?_⟩
  have := congrFun (hf k) i
  rw [this, if_pos hk]
/-- the programs of all NODES -/
theorem pq_ex (hw : WF n le nu lf rt z) (Wy : Nat → Nat → Nat) : ∃ Q : nP, ∀ k b i c, k < n → Q k b i c = pX le nu lf rt z Wy Q k b i c := by
  obtain ⟨f, hf⟩ := fix_ex (α := Nat → Nat → Nat → List Ln × Nat) (fun k f => fun b i c => if k < n then pX le nu lf rt z Wy f k b i c else ([], 0)) (fun _ _ _ => ([], 0)) (by
    intro k f g h
    funext b i c
    split
    · rename_i hk
      unfold pX
      by_cases hl : lf k = -9
      · rw [if_pos hl, if_pos hl]
      · rw [if_neg hl, if_neg hl]
        by_cases hr : rt k = -9
        · have s := hw.single hk hl hr
          rw [if_pos hr, if_pos hr, h (k - 1) (by omega)]
        · have s := hw.pair hk hr
          rw [if_neg hr, if_neg hr]
          unfold pW kpL kpC
          rw [h (k - 1) (by omega), h (k - 1 - z (k - 1)) (by omega)]
    · rfl)
  refine ⟨f, fun k b i c hk => ?_⟩
  have := congrFun (congrFun (congrFun (hf k) b) i) c
  rw [this, if_pos hk]
end GEX
