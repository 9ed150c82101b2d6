-- the class: what stands between calls
/-- a tree's rows, all of them -/
def TD (t n : Nat) (z : Nat → Nat) (tp : Nat → Bool) (nd ld ak : Nat → Nat) (M : nw_M) : Prop :=
  M t 9 = nI n ∧ GH n (M (t + 2)) (M (t + 4)) (M (t + 6)) (M (t + 8)) z tp nd ld ak ∧
  ∀ j, j < n → M (t + 16) j = nI (z j) ∧ M (t + 14) j = bI (tp j) ∧ M (t + 10) j = nI (nv (M (t + 6)) (M (t + 8)) nd n j) ∧ M (t + 12) j = nI (nv (M (t + 6)) (M (t + 8)) ld n j) ∧ M (t + 18) j = nI (ak j)
def NB (n : Nat) (z : Nat → Nat) (tp : Nat → Bool) (nd ld ak mc : Nat → Nat) (C : Nat → Nat → Nat) (Q : nP) (M : nw_M) : Prop :=
  TD 11 n z tp nd ld ak M ∧ GS n (M 13) (M 15) (M 17) (M 19) z tp nd ld ak mc C Q ∧ (∀ j, j < 5 → M 33 j = nI (mc j)) ∧ CT 110 n mc (fun k => decide (M 17 k = -9)) C (wy0 mc (M 13) (M 17) (M 19) z tp C) M
def VS (n : Nat) (mc : Nat → Nat) (le lf rt : Nat → Int32) (z : Nat → Nat) (tp : Nat → Bool) (ak V : Nat → Nat) : Prop := ∀ S, S < 32 → IsSum n mc le lf rt z tp ak (shL n lf tp ak) S (V S)
def SR (n : Nat) (lf : Nat → Int32) (tp : Nat → Bool) (ak V : Nat → Nat) (M : nw_M) : Prop := SF n ak (shL n lf tp ak) M ∧ (M 129 6 = 0 ∨ (M 129 6 = 1 ∧ M 129 4 = nI (wg V (2 ^ (shL n lf tp ak).length - 1)).1 ∧ M 129 5 = nI (wg V (2 ^ (shL n lf tp ak).length - 1)).2))
def PG2 (n : Nat) (mc : Nat → Nat) (Q : nP) (M : nw_M) : Prop := ∃ i, M 117 4 = nI i ∧ i ≤ 6 ∧ (i = 0 ∨ (0 < n ∧ i ≤ mc 0 ∧ PM M (prg n Q i) (prc n Q i)))
def NW (n : Nat) (z : Nat → Nat) (tp : Nat → Bool) (nd ld ak mc : Nat → Nat) (C : Nat → Nat → Nat) (Q : nP) (V : Nat → Nat) (M : nw_M) : Prop :=
  NB n z tp nd ld ak mc C Q M ∧ VS n mc (M 13) (M 17) (M 19) z tp ak V ∧ SR n (M 17) tp ak V M ∧ PG2 n mc Q M
/-- what an act of the ring undoes -/
def ACT (p : Nat) (s f : SN) (M : nw_M) : Prop :=
  (M 103 p = 0 ∧ ∃ (k n L f0 zl zr : Nat) (le nu lf rt nm : Nat → Int32) (mc z : Nat → Nat), M 105 p = nI k ∧ k < n ∧ WF n le nu lf rt z ∧ rt k ≠ -9 ∧ XN k L f0 zl zr z ∧ MS n le nu lf rt nm mc f ∧ MS n (xa f0 zl zr le) (xa f0 zl zr nu) (upd (xb f0 zl zr lf) k (nI (k - 1 - zl))) (upd (xb f0 zl zr rt) k (nI (k - 1))) nm mc s) ∨
  (M 103 p = 1 ∧ ∃ (j : Nat) (x : Int32), j < 8 ∧ M 105 p = nI j ∧ M 107 p = f (125 + j) ∧ s = upd f (125 + j) x) ∨
  (M 103 p = 2 ∧ ∃ m mc0 : Nat → Nat, MOK mc0 ∧ s = mcS f m ∧ ∀ j, j < 5 → f (133 + j) = nI (mc0 j) ∧ M 109 (p * 5 + j) = nI (mc0 j))
def UND : SN → List SN → Nat → nw_M → Prop
  | _, [], _, _ => True
  | s, f :: l, p, M => ACT p s f M ∧ UND f l ((p + 9) % 10) M
def AC (s : SN) (l : List SN) (M : nw_M) : Prop := ∃ p, p < 10 ∧ M 101 4 = nI p ∧ M 101 5 = nI l.length ∧ l.length ≤ 10 ∧ UND s l p M
def IMG (i : Nat) (f : SN) (M : nw_M) : Prop := ∃ (n : Nat) (z : Nat → Nat) (tp : Nat → Bool) (nd ld ak mc : Nat → Nat), TD (i + 1) n z tp nd ld ak M ∧ MOK mc ∧ (∀ j, j < 5 → M (i + 23) j = nI (mc j)) ∧ MS n (M (i + 3)) (M (i + 5)) (M (i + 7)) (M (i + 9)) (M (i + 21)) mc f
def IMk (i : Nat) (o : Option SN) (M : nw_M) : Prop := match o with
  | none => M i 3 = 0
  | some f => M i 3 = 1 ∧ IMG i f M
def IMGS (K : Nat → Option SN) (M : nw_M) : Prop := IMk 34 (K 0) M ∧ IMk 58 (K 1) M
def CRg (n : Nat) (z : Nat → Nat) (tp : Nat → Bool) (nd ld ak mc : Nat → Nat) (C : Nat → Nat → Nat) (Q : nP) (V : Nat → Nat) (len : Nat) (s : SN) (l : List SN) (K : Nat → Option SN) (ask trp : Int32) (M : nw_M) : Prop :=
  len ≤ 60 ∧ M 0 11 = nI len ∧ M 0 12 = ask ∧ M 0 13 = trp ∧ NW n z tp nd ld ak mc C Q V M ∧ MS n (M 13) (M 15) (M 17) (M 19) (M 31) mc s ∧ AC s l M ∧ IMGS K M
def CR (len : Nat) (s : SN) (l : List SN) (K : Nat → Option SN) (ask trp : Int32) (M : nw_M) : Prop := ∃ (n : Nat) (z : Nat → Nat) (tp : Nat → Bool) (nd ld ak mc : Nat → Nat) (C : Nat → Nat → Nat) (Q : nP) (V : Nat → Nat), CRg n z tp nd ld ak mc C Q V len s l K ask trp M
def JR (M N : nw_M) : Prop := ∃ (len : Nat) (s : SN) (l : List SN) (K : Nat → Option SN) (ask trp : Int32), CR len s l K ask trp M ∧ MP len (M 2) s l K ask trp N
def BOTH (G H : nw_G) (k k2 : nk_T) (as : List Value) (M M2 : nw_M) : Prop := ∃ (d d2 : Nat) (P P2 : Option Value → nw_M → Prop), d ≤ 110 ∧ d2 ≤ 110 ∧ CJ G LC k d (.ref (G.2.2 0) :: as) M P ∧ CJ H LM k2 d2 (.ref (H.2.2 0) :: as) M2 P2 ∧ ∀ v N v2 N2, P v N → P2 v2 N2 → ∃ x, v = some (.int x) ∧ v2 = some (.int x) ∧ JR N N2
section CST
variable {n : Nat} {z : Nat → Nat} {tp : Nat → Bool} {nd ld ak mc : Nat → Nat} {C : Nat → Nat → Nat} {Q : nP} {V : Nat → Nat} {M N : nw_M}
variable {len : Nat} {s : SN} {l : List SN} {K : Nat → Option SN} {ask trp : Int32}
theorem TD.cong {t : Nat} (h : TD t n z tp nd ld ak M) (hk : ∀ e, t ≤ e → e ≤ t + 18 → N e = M e) : TD t n z tp nd ld ak N := by
  unfold TD
  rw [hk t (by omega) (by omega), hk (t + 2) (by omega) (by omega), hk (t + 4) (by omega) (by omega), hk (t + 6) (by omega) (by omega), hk (t + 8) (by omega) (by omega), hk (t + 10) (by omega) (by omega), hk (t + 12) (by omega) (by omega), hk (t + 14) (by omega) (by omega), hk (t + 16) (by omega) (by omega), hk (t + 18) (by omega) (by omega)]
  exact h
theorem NB.keep (h : NB n z tp nd ld ak mc C Q M) (hk : ∀ e, 3 ≤ e → e ≤ 116 → N e = M e) : NB n z tp nd ld ak mc C Q N := by
  refine ⟨h.1.cong (fun e _ _ => hk e (by omega) (by omega)), ?_, ?_, ?_⟩
  · rw [hk 13 (by decide) (by decide), hk 15 (by decide) (by decide), hk 17 (by decide) (by decide), hk 19 (by decide) (by decide)]
    exact h.2.1
  · rw [hk 33 (by decide) (by decide)]
    exact h.2.2.1
  · unfold CT
    rw [hk (110 + 6) (by decide) (by decide), hk (110 + 2) (by decide) (by decide), hk (110 + 4) (by decide) (by decide), hk 13 (by decide) (by decide), hk 17 (by decide) (by decide), hk 19 (by decide) (by decide)]
    exact h.2.2.2
theorem ACT.cong {p : Nat} {s f : SN} (h : ACT p s f M) (h3 : N 103 p = M 103 p) (h5 : N 105 p = M 105 p) (h7 : N 107 p = M 107 p) (h9 : ∀ j, j < 5 → N 109 (p * 5 + j) = M 109 (p * 5 + j)) : ACT p s f N := by
  unfold ACT
  rw [h3, h5, h7]
  rcases h with h | h | ⟨h, m, mc0, a1, a2, a3⟩
  · exact Or.inl h
  · exact Or.inr (Or.inl h)
  · exact Or.inr (Or.inr ⟨h, m, mc0, a1, a2, fun j hj => ⟨(a3 j hj).1, by rw [h9 j hj]; exact (a3 j hj).2⟩⟩)
theorem UND.cong {r : Nat} (hq : ∀ q, q < 10 → q ≠ r → N 103 q = M 103 q ∧ N 105 q = M 105 q ∧ N 107 q = M 107 q ∧ ∀ j, j < 5 → N 109 (q * 5 + j) = M 109 (q * 5 + j)) : ∀ (l : List SN) (s : SN) (p : Nat), p < 10 → (∀ i, i < l.length → (p + 9 * i) % 10 ≠ r) → UND s l p M → UND s l p N
  | [], s, p, hp, hr, h => trivial
  | f :: l, s, p, hp, hr, h => by
    have h0 := hr 0 (by simp)
    obtain ⟨a, b, c, d⟩ := hq p hp (by omega)
    refine ⟨h.1.cong a b c d, UND.cong hq l f _ (by omega) (fun i hi => ?_) h.2⟩
    have := hr (i + 1) (by simp only [List.length_cons]; omega)
    omega
theorem UND.take : ∀ (l : List SN) (s : SN) (p k : Nat), UND s l p M → UND s (l.take k) p M
  | [], s, p, k, h => by rw [List.take_nil]; exact trivial
  | f :: l, s, p, 0, h => trivial
  | f :: l, s, p, k + 1, h => ⟨h.1, UND.take l f _ k h.2⟩
theorem AC.keep (h : AC s l M) (hk : ∀ e, 101 ≤ e → e ≤ 109 → N e = M e) : AC s l N := by
  obtain ⟨p, h1, h2, h3, h4, h5⟩ := h
  refine ⟨p, h1, by rw [hk 101 (by decide) (by decide)]; exact h2, by rw [hk 101 (by decide) (by decide)]; exact h3, h4, ?_⟩
  refine UND.cong (r := 10) (fun q _ _ => ?_) l s p h1 (fun i _ => by omega) h5
  rw [hk 103 (by decide) (by decide), hk 105 (by decide) (by decide), hk 107 (by decide) (by decide), hk 109 (by decide) (by decide)]
  exact ⟨rfl, rfl, rfl, fun _ _ => rfl⟩
theorem IMk.keep {i : Nat} {o : Option SN} (h : IMk i o M) (hk : ∀ e, i ≤ e → e ≤ i + 23 → N e = M e) : IMk i o N := by
  cases o with
  | none =>
    show N i 3 = 0
    rw [hk i (by omega) (by omega)]; exact h
  | some f =>
    obtain ⟨h1, n, z, tp, nd, ld, ak, mc, h2, h3, h4, h5⟩ := h
    refine ⟨by rw [hk i (by omega) (by omega)]; exact h1, n, z, tp, nd, ld, ak, mc, h2.cong (fun e _ _ => hk e (by omega) (by omega)), h3, by rw [hk (i + 23) (by omega) (by omega)]; exact h4, ?_⟩
    rw [hk (i + 3) (by omega) (by omega), hk (i + 5) (by omega) (by omega), hk (i + 7) (by omega) (by omega), hk (i + 9) (by omega) (by omega), hk (i + 21) (by omega) (by omega)]
    exact h5
theorem IMGS.keep (h : IMGS K M) (hk : ∀ e, 34 ≤ e → e ≤ 81 → N e = M e) : IMGS K N := ⟨h.1.keep (fun e _ _ => hk e (by omega) (by omega)), h.2.keep (fun e _ _ => hk e (by omega) (by omega))⟩
theorem SR.keep {lf : Nat → Int32} (h : SR n lf tp ak V M) (h1 : N 129 = M 129) (h2 : N 131 = M 131) (h3 : N 133 = M 133) : SR n lf tp ak V N := by
  unfold SR SF
  rw [h1, h2, h3]
  exact h
theorem PG2.keep (h : PG2 n mc Q M) (h1 : N 117 = M 117) (h2 : N 119 = M 119) : PG2 n mc Q N := by
  unfold PG2 PM
  rw [h1, h2]
  exact h
theorem CRg.keep {a t : Int32} {len2 : Nat} (h : CRg n z tp nd ld ak mc C Q V len s l K ask trp M) (hk : ∀ e, 3 ≤ e → e ≤ 116 → N e = M e) (hl : len2 ≤ 60) (h1 : N 0 11 = nI len2) (h2 : N 0 12 = a) (h3 : N 0 13 = t) (h4 : SR n (M 17) tp ak V N) (h5 : PG2 n mc Q N) : CRg n z tp nd ld ak mc C Q V len2 s l K a t N := by
  obtain ⟨b1, b2, b3, b4, ⟨b5, b6, b7, b8⟩, b9, b10, b11⟩ := h
  have e13 := hk 13 (by decide) (by decide)
  have e15 := hk 15 (by decide) (by decide)
  have e17 := hk 17 (by decide) (by decide)
  have e19 := hk 19 (by decide) (by decide)
  have e31 := hk 31 (by decide) (by decide)
  refine ⟨hl, h1, h2, h3, ⟨b5.keep hk, ?_, ?_, h5⟩, ?_, b10.keep (fun e _ _ => hk e (by omega) (by omega)), b11.keep (fun e _ _ => hk e (by omega) (by omega))⟩
  · rw [e13, e17, e19]; exact b6
  · rw [e17]; exact h4
  · rw [e13, e15, e17, e19, e31]; exact b9
theorem gs_of {le nu lf rt : Nat → Int32} (h : GH n le nu lf rt z tp nd ld ak) (hm : MOK mc) : ∃ (C : Nat → Nat → Nat) (Q : nP), GS n le nu lf rt z tp nd ld ak mc C Q := by
  obtain ⟨C, hC⟩ := ct_ex h.1 mc tp (fun _ => false)
  simp only [Bool.or_false] at hC
  obtain ⟨Q, hQ⟩ := pq_ex h.1 (wy0 mc le lf rt z tp C)
  exact ⟨C, Q, h, hm, hC, hQ⟩
theorem vs_of {le nu lf rt : Nat → Int32} (h : WF n le nu lf rt z) (mc : Nat → Nat) (tp : Nat → Bool) (ak : Nat → Nat) : ∃ V, VS n mc le lf rt z tp ak V := by
  have key : ∀ S, ∃ v, IsSum n mc le lf rt z tp ak (shL n lf tp ak) S v := by
    intro S
    obtain ⟨C, hC⟩ := ct_ex h mc tp (fun k => inS S (ak k) 0 (shL n lf tp ak))
    exact ⟨_, _, C, hC, rfl⟩
  exact ⟨fun S => (key S).choose, fun S _ => (key S).choose_spec⟩
theorem gh_ak {le nu lf rt : Nat → Int32} (h : GH n le nu lf rt z tp nd ld ak) : ∀ j, j < n → ak j ≤ j := fun j hj => (h.2 j hj).2.2.2.1
end CST
