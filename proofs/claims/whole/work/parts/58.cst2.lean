-- the class: what acts, images and copies leave
/-- an act has come to the ring -/
def RGp (p q : Nat) (kind place number : Int32) (M N : nw_M) : Prop := (∀ e, (e < 101 ∨ 109 < e) → N e = M e) ∧ N 101 4 = nI ((p + 1) % 10) ∧ N 101 5 = nI (min (q + 1) 10) ∧ (∀ i, i ≠ (p + 1) % 10 → N 103 i = M 103 i ∧ N 105 i = M 105 i ∧ N 107 i = M 107 i ∧ ∀ j, j < 5 → N 109 (i * 5 + j) = M 109 (i * 5 + j)) ∧ N 103 ((p + 1) % 10) = kind ∧ N 105 ((p + 1) % 10) = place ∧ N 107 ((p + 1) % 10) = number
section CST2
variable {G : nw_G} {n : Nat} {z : Nat → Nat} {tp : Nat → Bool} {nd ld ak mc : Nat → Nat} {C : Nat → Nat → Nat} {Q : nP} {V : Nat → Nat} {M N : nw_M}
variable {len : Nat} {s : SN} {l : List SN} {K : Nat → Option SN} {ask trp : Int32} {le nu lf rt nm : Nat → Int32}
theorem acM_rg (M : nw_M) (p q : Nat) (kind place number : Int32) : RGp p q kind place number M (acM M ((p + 1) % 10) (min (q + 1) 10) kind place number) := by
  unfold acM
  refine ⟨fun e he => by simp (disch := omega) only [ms_ne], ?_, ?_, fun i hi => ⟨?_, ?_, ?_, fun j hj => ?_⟩, ?_, ?_, ?_⟩
  all_goals simp (disch := omega) only [ms_same, ms_ne, upd_at, upd_ne]
theorem AC.push {s2 : SN} {p : Nat} {kind place number : Int32} (hl : l.length ≤ 10) (hp : p < 10) (hu : UND s l p M) (hr : RGp p l.length kind place number M N) (ha : ACT ((p + 1) % 10) s2 s N) : AC s2 (pushU s l) N := by
  obtain ⟨r1, r2, r3, r4, r5, r6, r7⟩ := hr
  have e : pushU s l = s :: l.take 9 := rfl
  have hlen : (pushU s l).length = min (l.length + 1) 10 := by rw [e]; simp only [List.length_cons, List.length_take]; omega
  refine ⟨(p + 1) % 10, by omega, r2, by rw [hlen]; exact r3, by rw [hlen]; omega, ?_⟩
  rw [e]
  refine ⟨ha, ?_⟩
  rw [show ((p + 1) % 10 + 9) % 10 = p by omega]
  refine UND.cong (r := (p + 1) % 10) (fun q _ hq => r4 q hq) _ s p hp (fun i hi => ?_) (UND.take l s p 9 hu)
  simp only [List.length_take] at hi
  omega
theorem NB.keep2 (h : NB n z tp nd ld ak mc C Q M) (hk : ∀ e, ((11 ≤ e ∧ e ≤ 29) ∨ e = 33 ∨ (110 ≤ e ∧ e ≤ 116)) → N e = M e) : NB n z tp nd ld ak mc C Q N := by
  refine ⟨h.1.cong (fun e _ _ => hk e (by omega)), ?_, ?_, ?_⟩
  · rw [hk 13 (by decide), hk 15 (by decide), hk 17 (by decide), hk 19 (by decide)]
    exact h.2.1
  · rw [hk 33 (by decide)]
    exact h.2.2.1
  · unfold CT
    rw [hk (110 + 6) (by decide), hk (110 + 2) (by decide), hk (110 + 4) (by decide), hk 13 (by decide), hk 17 (by decide), hk 19 (by decide)]
    exact h.2.2.2
theorem NW.keep2 (h : NW n z tp nd ld ak mc C Q V M) (hk : ∀ e, ((11 ≤ e ∧ e ≤ 29) ∨ e = 33 ∨ 110 ≤ e) → N e = M e) : NW n z tp nd ld ak mc C Q V N := by
  obtain ⟨h1, h2, h3, h4⟩ := h
  refine ⟨h1.keep2 (fun e he => hk e (by omega)), ?_, ?_, h4.keep (hk 117 (by omega)) (hk 119 (by omega))⟩
  · rw [hk 13 (by decide), hk 17 (by decide), hk 19 (by decide)]; exact h2
  · rw [hk 17 (by decide)]; exact h3.keep (hk 129 (by omega)) (hk 131 (by omega)) (hk 133 (by omega))
-- rows that agree below n
theorem WF.cong {le2 nu2 lf2 rt2 : Nat → Int32} (h : WF n le nu lf rt z) (hq : ∀ j, j < n → le2 j = le j ∧ nu2 j = nu j ∧ lf2 j = lf j ∧ rt2 j = rt j) : WF n le2 nu2 lf2 rt2 z := by
  refine ⟨h.1, fun k hk => ?_⟩
  obtain ⟨a, b, c, d⟩ := hq k hk
  have := h.2 k hk
  unfold WFk lfL at this ⊢
  rw [a, b, c, d]
  exact this
theorem GH.cong {le2 nu2 lf2 rt2 : Nat → Int32} (h : GH n le nu lf rt z tp nd ld ak) (hq : ∀ j, j < n → le2 j = le j ∧ nu2 j = nu j ∧ lf2 j = lf j ∧ rt2 j = rt j) : GH n le2 nu2 lf2 rt2 z tp nd ld ak := by
  have hw := h.1.cong hq
  refine ⟨hw, fun k hk => ?_⟩
  obtain ⟨h1, h2, h3, h4⟩ := h.2 k hk
  obtain ⟨a, b, c, d⟩ := hq k hk
  have c1 : ∀ f, v1 lf2 f (k - 1) = v1 lf f (k - 1) := fun f => by unfold v1; rw [(hq (k - 1) (by omega)).2.2.1]
  have c0 : ∀ f, v0 lf2 f (k - 1) = v0 lf f (k - 1) := fun f => by unfold v0; rw [(hq (k - 1) (by omega)).2.2.1]
  have e1 : ∀ f, v1 lf2 f (k - 1 - z (k - 1)) = v1 lf f (k - 1 - z (k - 1)) := fun f => by unfold v1; rw [(hq (k - 1 - z (k - 1)) (by omega)).2.2.1]
  have e0 : ∀ f, v0 lf2 f (k - 1 - z (k - 1)) = v0 lf f (k - 1 - z (k - 1)) := fun f => by unfold v0; rw [(hq (k - 1 - z (k - 1)) (by omega)).2.2.1]
  refine ⟨?_, ?_, ?_, ?_⟩
  · unfold TPk at h1 ⊢
    rw [a, c, d]; exact h1
  · unfold NDk at h2 ⊢
    rw [c, d, c1, e1, c0]; exact h2
  · unfold LDk at h3 ⊢
    rw [a, c, d, c1, e1, c0, e0]; exact h3
  · obtain ⟨g1, g2, g3⟩ := h4
    have hal : ∀ j, j ≤ k → (alk le2 nu2 lf2 rt2 ak j k ↔ alk le nu lf rt ak j k) := by
      intro j hj
      obtain ⟨a2, b2, c2, d2⟩ := hq j (by omega)
      unfold alk
      rw [a, b, c, d, a2, b2, c2, d2]
    exact ⟨g1, (hal _ g1).mpr g2, fun j hj q => g3 j hj ((hal j (by omega)).mp q)⟩
theorem nv_cong {lf2 rt2 : Nat → Int32} (hq : ∀ j, j < n → lf2 j = lf j ∧ rt2 j = rt j) {f : Nat → Nat} {j : Nat} (hj : j < n) : nv lf2 rt2 f n j = nv lf rt f n j := by
  unfold nv
  rw [(hq j hj).1]
  by_cases e : j + 1 < n
  · rw [(hq (j + 1) e).2]
  · simp only [e, false_and, if_false]
theorem MS.cong {le2 nu2 lf2 rt2 nm2 : Nat → Int32} (h : MS n le nu lf rt nm mc s) (hq : ∀ j, j < n → le2 j = le j ∧ nu2 j = nu j ∧ lf2 j = lf j ∧ rt2 j = rt j) (hn : ∀ j, j < 8 → nm2 j = nm j) : MS n le2 nu2 lf2 rt2 nm2 mc s := by
  refine ⟨h.1, fun j hj => ?_, fun j hj => ?_, h.2.2.2⟩
  · obtain ⟨a, b, c, d⟩ := hq j hj
    rw [a, b, c, d]; exact h.2.1 j hj
  · rw [hn j hj]; exact h.2.2.1 j hj
theorem cp_lt {m j : Nat} {f g : Nat → Int32} (h : j < m) : cp m f g j = f j := by unfold cp; rw [if_pos h]
theorem TD.copy {t t2 : Nat} (h : TD t2 n z tp nd ld ak M) (hc : TCp t t2 M N) : TD t n z tp nd ld ak N := by
  obtain ⟨h1, h2, h3⟩ := h
  obtain ⟨c0, c1, c2, c3, c4, c5, c6, c7, c8, c9, c10⟩ := hc
  have hn := h2.1.1
  have hq : ∀ j, j < n → N (t + 2) j = M (t2 + 2) j ∧ N (t + 4) j = M (t2 + 4) j ∧ N (t + 6) j = M (t2 + 6) j ∧ N (t + 8) j = M (t2 + 8) j := fun j hj => by
    rw [c2, c3, c4, c5, cp_lt (by omega), cp_lt (by omega), cp_lt (by omega), cp_lt (by omega)]
    exact ⟨rfl, rfl, rfl, rfl⟩
  refine ⟨by rw [c1, upd_at]; exact h1, h2.cong hq, fun j hj => ?_⟩
  rw [c6, c7, c8, c9, c10, cp_lt (by omega), cp_lt (by omega), cp_lt (by omega), cp_lt (by omega), cp_lt (by omega), nv_cong (fun j hj => (hq j hj).2.2) hj, nv_cong (fun j hj => (hq j hj).2.2) hj]
  exact h3 j hj
theorem wf_z {le2 nu2 lf2 rt2 : Nat → Int32} {z2 : Nat → Nat} (h : WF n le nu lf rt z) (h2 : WF n le2 nu2 lf2 rt2 z2) (hq : ∀ j, j < n → lf j = lf2 j ∧ rt j = rt2 j) : ∀ k, k < n → z k = z2 k := by
  intro k
  induction k using Nat.strongRecOn with
  | _ k ih =>
    intro hk
    obtain ⟨q1, q2⟩ := hq k hk
    by_cases e1 : lf k = -9
    · rw [(h.leaf_rt hk e1).2.1, (h2.leaf_rt hk (q1 ▸ e1)).2.1]
    · by_cases e2 : rt k = -9
      · have a := h.single hk e1 e2
        have b := h2.single hk (q1 ▸ e1) (q2 ▸ e2)
        rw [a.2.2.2.2, b.2.2.2.2, ih (k - 1) (by omega) (by omega)]
      · have a := h.pair hk e2
        have b := h2.pair hk (q2 ▸ e2)
        have c := ih (k - 1) (by omega) (by omega)
        have d := ih (k - 1 - z (k - 1)) (by omega) (by omega)
        rw [a.2.2.2.2.2.2, b.2.2.2.2.2.2, d, c]
theorem xa_cong {f0 zl zr : Nat} {a b : Nat → Int32} (hn : f0 + zr + zl ≤ n) (h : ∀ j, j < n → a j = b j) {j : Nat} (hj : j < n) : xa f0 zl zr a j = xa f0 zl zr b j := by
  by_cases h1 : f0 ≤ j ∧ j < f0 + zr
  · rw [xa_B h1.1 h1.2, xa_B h1.1 h1.2, h _ (by omega)]
  · by_cases h2 : f0 + zr ≤ j ∧ j < f0 + zr + zl
    · rw [xa_C h2.1 h2.2, xa_C h2.1 h2.2, h _ (by omega)]
    · rw [xa_O (by omega), xa_O (by omega), h _ hj]
theorem xb_cong {f0 zl zr : Nat} {a b : Nat → Int32} (hn : f0 + zr + zl ≤ n) (h : ∀ j, j < n → a j = b j) {j : Nat} (hj : j < n) : xb f0 zl zr a j = xb f0 zl zr b j := by
  by_cases h1 : f0 ≤ j ∧ j < f0 + zr
  · rw [xb_B h1.1 h1.2, xb_B h1.1 h1.2, h _ (by omega)]
  · by_cases h2 : f0 + zr ≤ j ∧ j < f0 + zr + zl
    · rw [xb_C h2.1 h2.2, xb_C h2.1 h2.2, h _ (by omega)]
    · rw [xb_O (by omega), xb_O (by omega), h _ hj]
theorem updx_cong {a b : Nat → Int32} {k : Nat} {x : Int32} (h : ∀ j, j < n → a j = b j) {j : Nat} (hj : j < n) : upd a k x j = upd b k x j := by
  by_cases e : j = k
  · subst e; rw [upd_at, upd_at]
  · rw [upd_ne _ _ e, upd_ne _ _ e]; exact h j hj
/-- an exchange is undone by one more -/
theorem act_x {f : SN} {n0 k L f0 zl zr : Nat} {le0 nu0 lf0 rt0 nm0 : Nat → Int32} {mc0 z0 : Nat → Nat} (hw : WF n le nu lf rt z) (hs : MS n le nu lf rt nm mc s) (hm6 : MOK mc) (hk : k < n0) (hw0 : WF n0 le0 nu0 lf0 rt0 z0) (hr0 : rt0 k ≠ -9) (hx : XN k L f0 zl zr z0) (hf : MS n0 le0 nu0 lf0 rt0 nm0 mc0 f) (hs0 : MS n0 (xa f0 zl zr le0) (xa f0 zl zr nu0) (upd (xb f0 zl zr lf0) k (nI (k - 1 - zl))) (upd (xb f0 zl zr rt0) k (nI (k - 1))) nm0 mc0 s) :
    k < n ∧ rt k ≠ -9 ∧ MS n (xa (k + 1 - z k) (z (k - 1 - z (k - 1))) (z (k - 1)) le) (xa (k + 1 - z k) (z (k - 1 - z (k - 1))) (z (k - 1)) nu) (upd (xb (k + 1 - z k) (z (k - 1 - z (k - 1))) (z (k - 1)) lf) k (nI (k - 1 - z (k - 1 - z (k - 1))))) (upd (xb (k + 1 - z k) (z (k - 1 - z (k - 1))) (z (k - 1)) rt) k (nI (k - 1))) nm mc f := by
  have hn := hw.1
  have hn0 := hw0.1
  have en : n0 = n := (nI_eq (by omega) (by omega)).mp (hs0.1.symm.trans hs.1)
  subst en
  have h1 : ∀ j, j < n0 → le j = xa f0 zl zr le0 j := fun j hj => (hs.gle hj).symm.trans (hs0.gle hj)
  have h2 : ∀ j, j < n0 → nu j = xa f0 zl zr nu0 j := fun j hj => (hs.gnu hj).symm.trans (hs0.gnu hj)
  have h3 : ∀ j, j < n0 → lf j = upd (xb f0 zl zr lf0) k (nI (k - 1 - zl)) j := fun j hj => (hs.glf hj).symm.trans (hs0.glf hj)
  have h4 : ∀ j, j < n0 → rt j = upd (xb f0 zl zr rt0) k (nI (k - 1)) j := fun j hj => (hs.grt hj).symm.trans (hs0.grt hj)
  have hw1 := xch_wf hw0 hk hr0 hx
  have hz := wf_z hw hw1 (fun j hj => ⟨h3 j hj, h4 j hj⟩)
  obtain ⟨b1, b2, b3, b4, b5, b6, b7⟩ := XN_back hx
  obtain ⟨i1, i2, i3, i4⟩ := xch_inv hw0 hk hr0 hx
  have z1 : z (k - 1) = zl := (hz (k - 1) (by omega)).trans b6
  have z2 : z (k - 1 - z (k - 1)) = zr := by rw [z1]; exact (hz (k - 1 - zl) (by omega)).trans b5
  have z3 : k + 1 - z k = f0 := by have := (hz k hk).trans b7; omega
  have hz0 := hz k hk
  have hrk : rt k = nI (k - 1) := by rw [h4 k hk, upd_at]
  refine ⟨hk, by rw [hrk]; exact nI_ne9 (by omega), ?_⟩
  rw [z2, z3, z1]
  have hb : f0 + zl + zr ≤ n0 := by omega
  refine ⟨hf.1, fun j hj => ?_, fun j hj => (hf.gnm hj).trans ((hs0.gnm hj).symm.trans (hs.gnm hj)), fun j hj => (hf.gmc hj).trans ((hs0.gmc hj).symm.trans (hs.gmc hj))⟩
  rw [xa_cong hb h1 hj, xa_cong hb h2 hj, updx_cong (fun j hj => xb_cong hb h3 hj) hj, updx_cong (fun j hj => xb_cong hb h4 hj) hj, i1, i1, i2 j hj, i3 j hj]
  exact hf.2.1 j hj
end CST2
