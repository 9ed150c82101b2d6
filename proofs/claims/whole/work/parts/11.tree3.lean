-- Tree: derive
def GH (n : Nat) (le nu lf rt : Nat → Int32) (z : Nat → Nat) (tp : Nat → Bool) (nd ld ak : Nat → Nat) : Prop :=
  WF n le nu lf rt z ∧ ∀ k, k < n → TPk le lf rt z tp k ∧ NDk lf rt z nd k ∧ LDk le lf rt z ld k ∧ AKk le nu lf rt ak k
theorem jn_le (a b : Nat) : jn a b ≤ max a b + 1 := by unfold jn; split <;> (try split) <;> omega
section GHl
variable {n : Nat} {le nu lf rt : Nat → Int32} {z nd ld ak : Nat → Nat} {tp : Nat → Bool}
theorem v1_le {f : Nat → Nat} {k b : Nat} (h : f k ≤ b) (hb : 1 ≤ b) : v1 lf f k ≤ b := by unfold v1; split <;> omega
theorem v0_le {f : Nat → Nat} {k b : Nat} (h : f k ≤ b) : v0 lf f k ≤ b := by unfold v0; split <;> omega
theorem GH.b1 (h : GH n le nu lf rt z tp nd ld ak) : ∀ k, k < n → v1 lf nd k ≤ k + 1 ∧ v1 lf ld k ≤ k + 1 := by
  intro k
  induction k using Nat.strongRecOn with
  | _ k ih =>
    intro hk
    by_cases hl : lf k = -9
    · simp [v1, hl]
    · have hnd := (h.2 k hk).2.1 hl
      have hld := (h.2 k hk).2.2.1 hl
      have w0 : ∀ (f : Nat → Nat) (j : Nat), v0 lf f j ≤ v1 lf f j := fun f j => by unfold v0 v1; split <;> omega
      by_cases hr : rt k = -9
      · have s := h.1.single hk hl hr
        have := ih (k - 1) (by omega) (by omega)
        rw [if_pos hr] at hnd hld
        simp only [v1, hl, if_false] at this ⊢
        unfold v1 at hnd hld
        omega
      · have s := h.1.pair hk hr
        have a := ih (k - 1) (by omega) (by omega)
        have b := ih (k - 1 - z (k - 1)) (by omega) (by omega)
        rw [if_neg hr] at hnd hld
        have j1 := jn_le (v1 lf nd (k - 1 - z (k - 1))) (v0 lf nd (k - 1))
        have j2 := jn_le (v1 lf ld (k - 1 - z (k - 1))) (v0 lf ld (k - 1))
        have c1 := w0 nd (k - 1)
        have c2 := w0 ld (k - 1)
        have e1 : v1 lf nd k = nd k := by simp [v1, hl]
        have e2 : v1 lf ld k = ld k := by simp [v1, hl]
        rw [e1, e2, hnd, hld]
        refine ⟨by omega, ?_⟩
        split <;> omega
theorem GH.b2 (h : GH n le nu lf rt z tp nd ld ak) {k : Nat} (hk : k < n) : v1 lf nd k < 2 ^ 30 ∧ v1 lf ld k < 2 ^ 30 ∧ v0 lf nd k < 2 ^ 30 ∧ v0 lf ld k < 2 ^ 30 := by
  have a := h.b1 k hk
  have hn := h.1.1
  have w0 : ∀ (f : Nat → Nat) (j : Nat), v0 lf f j ≤ v1 lf f j := fun f j => by unfold v0 v1; split <;> omega
  have c1 := w0 nd k
  have c2 := w0 ld k
  omega
end GHl
def nv (lf rt : Nat → Int32) (f : Nat → Nat) (k j : Nat) : Nat := if lf j = -9 then (if j + 1 < k ∧ rt (j + 1) ≠ -9 then 0 else 1) else f j
/-- the rows that are derived, behind k NODES -/
def DI (t k : Nat) (M0 : nw_M) (z : Nat → Nat) (tp : Nat → Bool) (nd ld ak : Nat → Nat) (N : nw_M) : Prop :=
  (∀ c, c ≠ t + 10 → c ≠ t + 12 → c ≠ t + 14 → c ≠ t + 16 → c ≠ t + 18 → N c = M0 c) ∧
  ∀ j, j < k → N (t + 16) j = nI (z j) ∧ N (t + 14) j = bI (tp j) ∧ N (t + 10) j = nI (nv (M0 (t + 6)) (M0 (t + 8)) nd k j) ∧ N (t + 12) j = nI (nv (M0 (t + 6)) (M0 (t + 8)) ld k j) ∧ N (t + 18) j = nI (ak j)
theorem nv_old {lf rt : Nat → Int32} {f : Nat → Nat} {k j : Nat} (hj : j < k) (h : rt k = -9) : nv lf rt f (k + 1) j = nv lf rt f k j := by
  unfold nv
  by_cases e : j + 1 = k
  · subst e; simp [h]
  · have : (j + 1 < k + 1) ↔ (j + 1 < k) := by omega
    simp only [this]
theorem nv_old2 {lf rt : Nat → Int32} {f : Nat → Nat} {k j : Nat} (hj : j < k) (h : j + 1 ≠ k) : nv lf rt f (k + 1) j = nv lf rt f k j := by
  unfold nv
  have : (j + 1 < k + 1) ↔ (j + 1 < k) := by omega
  simp only [this]
section DER
variable {t k n : Nat} {M0 N : nw_M} {z nd ld ak : Nat → Nat} {tp : Nat → Bool}
theorem der_leaf (hg : GH n (M0 (t + 2)) (M0 (t + 4)) (M0 (t + 6)) (M0 (t + 8)) z tp nd ld ak) (hk : k < n) (hl : M0 (t + 6) k = -9) (h : DI t k M0 z tp nd ld ak N) :
    DI t (k + 1) M0 z tp nd ld ak (ms (ms (ms (ms (ms N (t + 10) (upd (N (t + 10)) k 1)) (t + 12) (upd (N (t + 12)) k 1)) (t + 14) (upd (N (t + 14)) k 0)) (t + 16) (upd (N (t + 16)) k 1)) (t + 18) (upd (N (t + 18)) k (nI (ak k)))) := by
  have hrt := hg.1.leaf_rt hk hl
  have htp := (hg.2 k hk).1
  refine ⟨fun c h1 h2 h3 h4 h5 => by simp only [ms, h1, h2, h3, h4, h5, if_false]; exact h.1 c h1 h2 h3 h4 h5, fun j hj => ?_⟩
  simp (disch := omega) only [ms_same, ms_ne]
  by_cases e : j = k
  · subst e
    simp only [upd_at]
    refine ⟨by rw [hrt.2.1]; rfl, ?_, ?_, ?_, trivial⟩
    · have : tp j = false := by rw [htp]; simp [hl]
      rw [this]; rfl
    · simp [nv, hl]; rfl
    · simp [nv, hl]; rfl
  · have hj' : j < k := by omega
    simp only [upd, e, if_false]
    rw [nv_old hj' hrt.1, nv_old hj' hrt.1]
    exact h.2 j hj'
theorem der_single (hg : GH n (M0 (t + 2)) (M0 (t + 4)) (M0 (t + 6)) (M0 (t + 8)) z tp nd ld ak) (hk : k < n) (hl : M0 (t + 6) k ≠ -9) (hr : M0 (t + 8) k = -9) (h : DI t k M0 z tp nd ld ak N) :
    DI t (k + 1) M0 z tp nd ld ak (ms (ms (ms (ms (ms N (t + 10) (upd (N (t + 10)) k (N (t + 10) (k - 1)))) (t + 12) (upd (N (t + 12)) k (N (t + 12) (k - 1)))) (t + 14) (upd (N (t + 14)) k (N (t + 14) (k - 1)))) (t + 16) (upd (N (t + 16)) k (N (t + 16) (k - 1) + 1))) (t + 18) (upd (N (t + 18)) k (nI (ak k)))) := by
  have s := hg.1.single hk hl hr
  have htp := (hg.2 k hk).1
  have hnd := (hg.2 k hk).2.1 hl
  have hld := (hg.2 k hk).2.2.1 hl
  have b := h.2 (k - 1) (by omega)
  refine ⟨fun c h1 h2 h3 h4 h5 => by simp only [ms, h1, h2, h3, h4, h5, if_false]; exact h.1 c h1 h2 h3 h4 h5, fun j hj => ?_⟩
  simp (disch := omega) only [ms_same, ms_ne]
  by_cases e : j = k
  · subst e
    simp only [upd_at]
    rw [b.1, b.2.1, b.2.2.1, b.2.2.2.1, nI_1]
    have q : ∀ f : Nat → Nat, nv (M0 (t + 6)) (M0 (t + 8)) f j (j - 1) = v1 (M0 (t + 6)) f (j - 1) := by
      intro f
      unfold nv v1
      have : ¬ (j - 1 + 1 < j) := by omega
      simp [this]
    refine ⟨by rw [s.2.2.2.2], ?_, ?_, ?_, trivial⟩
    · rw [htp]; simp [hl, hr]
    · rw [q]; simp [nv, hl]; rw [hnd]; simp [hr]
    · rw [q]; simp [nv, hl]; rw [hld]; simp [hr]
  · have hj' : j < k := by omega
    simp only [upd, e, if_false]
    rw [nv_old hj' hr, nv_old hj' hr]
    exact h.2 j hj'
theorem lpI_nI {c ll lr : Bool} {a b : Nat} (ha : a < 2 ^ 30) (hb : b < 2 ^ 30) (hl : ll = true → a = 1) (hr : lr = true → b = 0) : lpI c ll lr (nI a) (nI b) = nI (if c then min (jn a b) (jn (if lr then 1 else b) (if ll then 0 else a)) else jn a b) := by
  have e1 : (if lr = true then (1 : Int32) else nI b) = nI (if lr then 1 else b) := by cases lr <;> rfl
  have e2 : (if ll = true then (0 : Int32) else nI a) = nI (if ll then 0 else a) := by cases ll <;> rfl
  unfold lpI
  rw [e1, e2, jI_nI ha hb, jI_nI (by split <;> omega) (by split <;> omega)]
  have k1 := jn_le a b
  have k2 := jn_le (if lr then 1 else b) (if ll then 0 else a)
  have k3 : (if lr = true then 1 else b) < 2 ^ 30 := by split <;> omega
  have k4 : (if ll = true then 0 else a) < 2 ^ 30 := by split <;> omega
  cases c with
  | false => rfl
  | true =>
    simp only [if_true]
    by_cases q : jn (if lr then 1 else b) (if ll then 0 else a) < jn a b
    · rw [if_pos (nI_lt q (by omega)), Nat.min_eq_right (by omega)]
    · rw [if_neg (nI_nlt (by omega) (by omega)), Nat.min_eq_left (by omega)]
theorem der_pair (hg : GH n (M0 (t + 2)) (M0 (t + 4)) (M0 (t + 6)) (M0 (t + 8)) z tp nd ld ak) (hk : k < n) (hr : M0 (t + 8) k ≠ -9) (h : DI t k M0 z tp nd ld ak N) :
    DI t (k + 1) M0 z tp nd ld ak (ms (dpM N t k (k - 1 - z (k - 1)) (k - 1)) (t + 18) (upd (N (t + 18)) k (nI (ak k)))) := by
  have s := hg.1.pair hk hr
  have hl := hg.1.pair_lf hk hr
  have htp := (hg.2 k hk).1
  unfold TPk at htp
  have hnd := (hg.2 k hk).2.1 hl
  have hld := (hg.2 k hk).2.2.1 hl
  have zb := hg.1.zb (k - 1) (by omega)
  have fr := hg.1.first (k - 1) (by omega)
  have hn := hg.1.1
  generalize hL : k - 1 - z (k - 1) = L at *
  have b := h.2 (k - 1) (by omega)
  have a := h.2 L (by omega)
  have ba := hg.b2 (k := L) (by omega)
  have bb := hg.b2 (k := k - 1) (by omega)
  have c2 : N (t + 2) = M0 (t + 2) := h.1 _ (by omega) (by omega) (by omega) (by omega) (by omega)
  have c6 : N (t + 6) = M0 (t + 6) := h.1 _ (by omega) (by omega) (by omega) (by omega) (by omega)
  have qL : ∀ f : Nat → Nat, nv (M0 (t + 6)) (M0 (t + 8)) f k L = v1 (M0 (t + 6)) f L := by
    intro f
    unfold nv v1
    have e : M0 (t + 8) (L + 1) = -9 := by rw [show L + 1 = k - 1 + 1 - z (k - 1) by omega]; exact fr.2
    simp [e]
  have qR : ∀ f : Nat → Nat, M0 (t + 6) (k - 1) ≠ -9 → nv (M0 (t + 6)) (M0 (t + 8)) f k (k - 1) = v0 (M0 (t + 6)) f (k - 1) := by
    intro f hf
    simp [nv, v0, hf]
  have zr : ∀ (C : Nat → Int32) (f : Nat → Nat), C L = nI (nv (M0 (t + 6)) (M0 (t + 8)) f k L) → C (k - 1) = nI (nv (M0 (t + 6)) (M0 (t + 8)) f k (k - 1)) →
      (if M0 (t + 6) (k - 1) = -9 then upd C (k - 1) 0 else C) L = nI (v1 (M0 (t + 6)) f L) ∧ (if M0 (t + 6) (k - 1) = -9 then upd C (k - 1) 0 else C) (k - 1) = nI (v0 (M0 (t + 6)) f (k - 1)) := by
    intro C f h1 h2
    by_cases hq : M0 (t + 6) (k - 1) = -9
    · simp only [hq, if_true]
      refine ⟨by rw [upd_ne _ _ (by omega), h1, qL], by rw [upd_at]; simp [v0, hq]; rfl⟩
    · simp only [hq, if_false]
      exact ⟨by rw [h1, qL], by rw [h2, qR f hq]⟩
  have z1 := zr _ nd a.2.2.1 b.2.2.1
  have z2 := zr _ ld a.2.2.2.1 b.2.2.2.1
  refine ⟨fun c h1 h2 h3 h4 h5 => by simp only [dpM, ms, h1, h2, h3, h4, h5, if_false]; exact h.1 c h1 h2 h3 h4 h5, fun j hj => ?_⟩
  unfold dpM
  simp (disch := omega) only [ms_same, ms_ne, c2, c6]
  by_cases e : j = k
  · subst e
    simp only [upd_at]
    rw [z1.1, z1.2, z2.1, z2.2, a.1, b.1, a.2.1, b.2.1, jI_nI ba.1 bb.2.2.1, lpI_nI ba.2.1 bb.2.2.2 (by intro q; simp at q; simp [v1, q]) (by intro q; simp at q; simp [v0, q]), nI_add, nI_1]
    refine ⟨?_, ?_, ?_, ?_, trivial⟩
    · rw [s.2.2.2.2.2.2, Nat.add_comm (z (j - 1))]
    · rw [htp]
      have w : ∀ q : Bool, (bI q == 1) = q := by intro q; cases q <;> rfl
      simp [hl, hr, w]
    · simp [nv, hl]; rw [hnd]; simp [hr]
    · simp [nv, hl]; rw [hld]
      have u1 : (if M0 (t + 6) (j - 1) = -9 then 1 else v0 (M0 (t + 6)) ld (j - 1)) = v1 (M0 (t + 6)) ld (j - 1) := by by_cases q : M0 (t + 6) (j - 1) = -9 <;> simp [v0, v1, q]
      have u2 : (if M0 (t + 6) L = -9 then 0 else v1 (M0 (t + 6)) ld L) = v0 (M0 (t + 6)) ld L := by by_cases q : M0 (t + 6) L = -9 <;> simp [v0, v1, q]
      rw [u1, u2]
      simp [hr]
  · have hj' : j < k := by omega
    have hjj := h.2 j hj'
    simp only [upd, e, if_false]
    by_cases e2 : j = k - 1
    · subst e2
      refine ⟨hjj.1, hjj.2.1, ?_, ?_, hjj.2.2.2.2⟩
      · rw [z1.2]; simp only [nv, v0]
        have : k - 1 + 1 = k := by omega
        simp [this, hr]
      · rw [z2.2]; simp only [nv, v0]
        have : k - 1 + 1 = k := by omega
        simp [this, hr]
    · rw [nv_old2 hj' (by omega), nv_old2 hj' (by omega)]
      have w : ∀ C : Nat → Int32, (if M0 (t + 6) (k - 1) = -9 then upd C (k - 1) 0 else C) j = C j := by
        intro C; split
        · exact upd_ne _ _ e2
        · rfl
      rw [w, w]
      exact hjj
end DER
section MTree3
variable {G : nw_G}
theorem akk_rg {n : Nat} {le nu lf rt : Nat → Int32} {z ak : Nat → Nat} (hw : WF n le nu lf rt z) {A : Nat → Int32} {k j : Nat} (hA : ∀ c, c < k → A c = nI (ak c)) (hj : j ≤ k) (hk : k < n) :
    (if lf j = -9 then -9 else rg 31 A (lf j)) = akk ak (lf j) ∧ (if rt j = -9 then -9 else rg 31 A (rt j)) = akk ak (rt j) := by
  have hn := hw.1
  have key : ∀ x : Int32, (x = -9 ∨ ∃ c, c < j ∧ x = nI c) → (if x = -9 then -9 else rg 31 A x) = akk ak x := by
    intro x hx
    rcases hx with rfl | ⟨c, hc, rfl⟩
    · rfl
    · rw [akk, if_neg (nI_ne9 (by omega)), if_neg (nI_ne9 (by omega)), rg_nI _ (by omega) (by omega), hA c (by omega), nI_clamp (by omega)]
  rcases hw.2 j (by omega) with ⟨a, b, -⟩ | ⟨-, -, h1, a, b, -⟩ | ⟨-, -, h1, b, h3, a, -⟩
  · exact ⟨key _ (Or.inl a), key _ (Or.inl b)⟩
  · exact ⟨key _ (Or.inr ⟨_, by omega, a⟩), key _ (Or.inl b)⟩
  · exact ⟨key _ (Or.inr ⟨_, by omega, a⟩), key _ (Or.inr ⟨_, by omega, b⟩)⟩
theorem l_Tree_lowestAlike {t n k : Nat} (h : isTree t) {M : nw_M} {z ak : Nat → Nat} (hw : WF n (M (t + 2)) (M (t + 4)) (M (t + 6)) (M (t + 8)) z) (hk : k < n) (hak : AKk (M (t + 2)) (M (t + 4)) (M (t + 6)) (M (t + 8)) ak k) (hA : ∀ c, c < k → M (t + 18) c = nI (ak c)) {P : Option Value → nw_M → Prop} (hP : P (some (.int (nI (ak k)))) M) : ∀ (m j : Nat), j + m = k → j ≤ ak k → RJ G LC m_Tree_lowestAlike 3 P 2 [some (.ref (G.2.2 t)), some (.int (nI k)), some (.int (nI j))] [] M := by
  have hn := hw.1
  intro m
  induction m with
  | zero =>
    intro j hj hja
    simp only [Nat.add_zero] at hj
    subst hj
    refine r_iload_n (i := 2) d_Tree_lowestAlike_2 rfl rfl ?_
    refine r_iload_n (i := 1) d_Tree_lowestAlike_3 rfl rfl ?_
    refine r_icmp_ge 24 d_Tree_lowestAlike_4 (by decide) (fun _ => ?_) (fun h9 => absurd (nI_le (Nat.le_refl _) (by omega)) h9)
    refine r_iload_n (i := 1) d_Tree_lowestAlike_24 rfl rfl ?_
    refine r_iret rfl d_Tree_lowestAlike_25 ?_
    rw [show j = ak j from Nat.le_antisymm hja hak.1]
    rw [← show j = ak j from Nat.le_antisymm hja hak.1]
    have e : ak j = j := Nat.le_antisymm hak.1 hja
    rw [e] at hP
    exact hP
  | succ m ih =>
    intro j hj hja
    have hjk := akk_rg hw hA (j := j) (by omega) hk
    have hkk := akk_rg hw hA (j := k) (Nat.le_refl _) hk
    refine r_iload_n (i := 2) d_Tree_lowestAlike_2 rfl rfl ?_
    refine r_iload_n (i := 1) d_Tree_lowestAlike_3 rfl rfl ?_
    refine r_icmp_ge 24 d_Tree_lowestAlike_4 (by decide) (fun h_4 => ?_) (fun h_4 => ?_)
    · skip
      exact absurd h_4 (nI_ge (by omega) (by omega))
    · skip
      refine r_aload_n (i := 0) d_Tree_lowestAlike_7 rfl rfl ?_
      refine r_iload_n (i := 2) d_Tree_lowestAlike_8 rfl rfl ?_
      refine r_iload_n (i := 1) d_Tree_lowestAlike_9 rfl rfl ?_
      refine r_V2 v_Tree_areAlike w_488 h.1 (c_Tree_areAlike h _ _ _ ) (Nat.le_of_ble_eq_true rfl) (Nat.le_of_ble_eq_true rfl) d_Tree_lowestAlike_10 ?_
      refine r_if_eq 18 d_Tree_lowestAlike_13 (by decide) (fun h_13 => ?_) (fun h_13 => ?_)
      · skip
        refine r_iinc d_Tree_lowestAlike_18 rfl (nI_inc j) (Nat.le_of_ble_eq_true rfl) rfl ?_
        refine r_goto 2 d_Tree_lowestAlike_21 (by decide) ?_
        refine ih (j + 1) (by omega) ?_
        have h13 := h_13
        simp (disch := omega) only [rg_nI, bI_f, decide_eq_false_iff_not] at h13
        rw [hjk.1, hjk.2, hkk.1, hkk.2] at h13
        rcases Nat.lt_or_ge j (ak k) with q | q
        · exact q
        · have e : j = ak k := Nat.le_antisymm hja q
          exact absurd (e ▸ hak.2.1) h13
      · skip
        refine r_iload_n (i := 2) d_Tree_lowestAlike_16 rfl rfl ?_
        refine r_iret rfl d_Tree_lowestAlike_17 ?_
        have h13 := h_13
        simp (disch := omega) only [rg_nI, bI_t, decide_eq_true_eq] at h13
        rw [hjk.1, hjk.2, hkk.1, hkk.2] at h13
        have e : j = ak k := by
          rcases Nat.lt_or_ge j (ak k) with q | q
          · exact absurd h13 (hak.2.2 j q)
          · exact Nat.le_antisymm hja q
        rw [e]
        exact hP

theorem c_Tree_lowestAlike {t n k : Nat} (h : isTree t) {M : nw_M} {z ak : Nat → Nat} (hw : WF n (M (t + 2)) (M (t + 4)) (M (t + 6)) (M (t + 8)) z) (hk : k < n) (hak : AKk (M (t + 2)) (M (t + 4)) (M (t + 6)) (M (t + 8)) ak k) (hA : ∀ c, c < k → M (t + 18) c = nI (ak c)) : CF G LC m_Tree_lowestAlike 3 [.ref (G.2.2 t), .int (nI k)] M (some (.int (nI (ak k)))) M := by
  refine CJ_of (by decide) rfl (Nat.le_of_ble_eq_true rfl) ?_
  refine r_iconst 0 d_Tree_lowestAlike_0 ic_0 ?_
  refine r_istore_n (i := 2) d_Tree_lowestAlike_1 rfl (Nat.le_of_ble_eq_true rfl) rfl ?_
  exact l_Tree_lowestAlike h hw hk hak hA ⟨rfl, rfl⟩ k 0 (by omega) (Nat.zero_le _)

set_option maxHeartbeats 1000000 in
theorem l_Tree_derive {t n : Nat} (h : isTree t) {M0 : nw_M} {z nd ld ak : Nat → Nat} {tp : Nat → Bool} (hg : GH n (M0 (t + 2)) (M0 (t + 4)) (M0 (t + 6)) (M0 (t + 8)) z tp nd ld ak) (hs : M0 t 9 = nI n) {P : Option Value → nw_M → Prop} (hP : ∀ N, DI t n M0 z tp nd ld ak N → P none N) : ∀ (m k : Nat) (N : nw_M), k + m = n → DI t k M0 z tp nd ld ak N → RJ G LC m_Tree_derive 4 P 2 [some (.ref (G.2.2 t)), some (.int (nI k))] [] N := by
  have hn := hg.1.1
  intro m
  induction m with
  | zero =>
    intro k N hk hD
    simp only [Nat.add_zero] at hk
    subst hk
    have ct : N t = M0 t := hD.1 _ (by omega) (by omega) (by omega) (by omega) (by omega)
    refine r_iload_n (i := 1) d_Tree_derive_2 rfl rfl ?_
    refine r_aload_n (i := 0) d_Tree_derive_3 rfl rfl ?_
    refine r_geti nf_Tree_44 h.1 rfl d_Tree_derive_4 ?_
    rw [ct, hs]
    refine r_icmp_ge 66 d_Tree_derive_7 (by decide) (fun _ => ?_) (fun h9 => absurd (nI_le (Nat.le_refl _) (by omega)) h9)
    exact r_vret rfl d_Tree_derive_66 (hP N hD)
  | succ m ih =>
    intro k N hkm hD
    have hk : k < n := by omega
    have ct : N t = M0 t := hD.1 _ (by omega) (by omega) (by omega) (by omega) (by omega)
    have c2 : N (t + 2) = M0 (t + 2) := hD.1 _ (by omega) (by omega) (by omega) (by omega) (by omega)
    have c4 : N (t + 4) = M0 (t + 4) := hD.1 _ (by omega) (by omega) (by omega) (by omega) (by omega)
    have c6 : N (t + 6) = M0 (t + 6) := hD.1 _ (by omega) (by omega) (by omega) (by omega) (by omega)
    have c8 : N (t + 8) = M0 (t + 8) := hD.1 _ (by omega) (by omega) (by omega) (by omega) (by omega)
    refine r_iload_n (i := 1) d_Tree_derive_2 rfl rfl ?_
    refine r_aload_n (i := 0) d_Tree_derive_3 rfl rfl ?_
    refine r_geti nf_Tree_44 h.1 rfl d_Tree_derive_4 ?_
    rw [ct, hs]
    refine r_icmp_ge 66 d_Tree_derive_7 (by decide) (fun h_7 => ?_) (fun h_7 => ?_)
    · skip
      exact absurd h_7 (nI_ge (by omega) (by omega))
    · skip
      refine r_aload_n (i := 0) d_Tree_derive_10 rfl rfl ?_
      refine r_iload_n (i := 1) d_Tree_derive_11 rfl rfl ?_
      refine r_V1 v_Tree_isLeaf w_438 h.1 (c_Tree_isLeaf h _ _ ) (Nat.le_of_ble_eq_true rfl) (Nat.le_of_ble_eq_true rfl) d_Tree_derive_12 ?_
      refine r_if_eq 26 d_Tree_derive_15 (by decide) (fun h_15 => ?_) (fun h_15 => ?_)
      · skip
        simp (disch := omega) only [rg_nI, bI_f, beq_eq_false_iff_ne, ne_eq, c6] at h_15
        refine r_aload_n (i := 0) d_Tree_derive_26 rfl rfl ?_
        refine r_iload_n (i := 1) d_Tree_derive_27 rfl rfl ?_
        refine r_V1 v_Tree_isPair w_447 h.1 (c_Tree_isPair h _ _ ) (Nat.le_of_ble_eq_true rfl) (Nat.le_of_ble_eq_true rfl) d_Tree_derive_28 ?_
        refine r_if_eq 42 d_Tree_derive_31 (by decide) (fun h_31 => ?_) (fun h_31 => ?_)
        · skip
          simp (disch := omega) only [rg_nI, bI_f, bne_eq_false_iff_eq, c8] at h_31
          have sp := hg.1.single hk h_15 h_31
          refine r_aload_n (i := 0) d_Tree_derive_42 rfl rfl ?_
          refine r_iload_n (i := 1) d_Tree_derive_43 rfl rfl ?_
          refine r_V1 v_Tree_deriveSingle w_480 h.1 (c_Tree_deriveSingle h k (k - 1) (by omega) (by omega) _ (by rw [c6]; exact sp.2.2.2.1)) (Nat.le_of_ble_eq_true rfl) (Nat.le_of_ble_eq_true rfl) d_Tree_derive_44 ?_
          refine r_aload_n (i := 0) d_Tree_derive_47 rfl rfl ?_
          refine r_getr nf_Tree_41 h.1 rfl d_Tree_derive_48 ?_
          refine r_iload_n (i := 1) d_Tree_derive_51 rfl rfl ?_
          refine r_aload_n (i := 0) d_Tree_derive_52 rfl rfl ?_
          refine r_iload_n (i := 1) d_Tree_derive_53 rfl rfl ?_
          refine r_V1 v_Tree_lowestAlike w_484 h.1 (c_Tree_lowestAlike (n := n) (z := z) (ak := ak) h (by simp (disch := omega) only [dpM, ms_same, ms_ne, c2, c4, c6, c8]; exact hg.1) hk (by simp (disch := omega) only [dpM, ms_same, ms_ne, c2, c4, c6, c8]; exact (hg.2 k hk).2.2.2) (by simp (disch := omega) only [dpM, ms_same, ms_ne]; exact fun c hc => (hD.2 c hc).2.2.2.2)) (Nat.le_of_ble_eq_true rfl) (Nat.le_of_ble_eq_true rfl) d_Tree_derive_54 ?_
          refine r_V2 v_Row_put w_406 (isTree.alikes h).1 (c_Row_put (isTree.alikes h) _ _ _ ) (Nat.le_of_ble_eq_true rfl) (Nat.le_of_ble_eq_true rfl) d_Tree_derive_57 ?_
          refine r_iinc d_Tree_derive_60 rfl (nI_inc k) (Nat.le_of_ble_eq_true rfl) rfl ?_
          refine r_goto 2 d_Tree_derive_63 (by decide) ?_
          refine ih (k + 1) _ (by omega) ?_
          simp (disch := omega) only [rp_nI]
          first
            | (refine Eq.subst (motive := fun Q => DI t (k + 1) M0 z tp nd ld ak Q) ?_ (der_leaf hg hk h_15 hD)
               simp (disch := omega) only [ms_same, ms_ne])
            | (refine Eq.subst (motive := fun Q => DI t (k + 1) M0 z tp nd ld ak Q) ?_ (der_pair hg hk h_31 hD)
               simp (disch := omega) only [dpM, ms_same, ms_ne])
            | (refine Eq.subst (motive := fun Q => DI t (k + 1) M0 z tp nd ld ak Q) ?_ (der_single hg hk h_15 h_31 hD)
               simp (disch := omega) only [ms_same, ms_ne])
        · skip
          simp (disch := omega) only [rg_nI, bI_t, bne_iff_ne, ne_eq, c8] at h_31
          have sp := hg.1.pair hk h_31
          have zb := hg.1.zb (k - 1) (by omega)
          refine r_aload_n (i := 0) d_Tree_derive_34 rfl rfl ?_
          refine r_iload_n (i := 1) d_Tree_derive_35 rfl rfl ?_
          refine r_V1 v_Tree_derivePair w_451 h.1 (c_Tree_derivePair h k (k - 1 - z (k - 1)) (k - 1) (by omega) (by omega) (by omega) _ (by rw [c6]; exact sp.2.2.2.2.2.1) (by rw [c8]; exact sp.2.2.2.1)) (Nat.le_of_ble_eq_true rfl) (Nat.le_of_ble_eq_true rfl) d_Tree_derive_36 ?_
          refine r_goto 47 d_Tree_derive_39 (by decide) ?_
          refine r_aload_n (i := 0) d_Tree_derive_47 rfl rfl ?_
          refine r_getr nf_Tree_41 h.1 rfl d_Tree_derive_48 ?_
          refine r_iload_n (i := 1) d_Tree_derive_51 rfl rfl ?_
          refine r_aload_n (i := 0) d_Tree_derive_52 rfl rfl ?_
          refine r_iload_n (i := 1) d_Tree_derive_53 rfl rfl ?_
          refine r_V1 v_Tree_lowestAlike w_484 h.1 (c_Tree_lowestAlike (n := n) (z := z) (ak := ak) h (by simp (disch := omega) only [dpM, ms_same, ms_ne, c2, c4, c6, c8]; exact hg.1) hk (by simp (disch := omega) only [dpM, ms_same, ms_ne, c2, c4, c6, c8]; exact (hg.2 k hk).2.2.2) (by simp (disch := omega) only [dpM, ms_same, ms_ne]; exact fun c hc => (hD.2 c hc).2.2.2.2)) (Nat.le_of_ble_eq_true rfl) (Nat.le_of_ble_eq_true rfl) d_Tree_derive_54 ?_
          refine r_V2 v_Row_put w_406 (isTree.alikes h).1 (c_Row_put (isTree.alikes h) _ _ _ ) (Nat.le_of_ble_eq_true rfl) (Nat.le_of_ble_eq_true rfl) d_Tree_derive_57 ?_
          refine r_iinc d_Tree_derive_60 rfl (nI_inc k) (Nat.le_of_ble_eq_true rfl) rfl ?_
          refine r_goto 2 d_Tree_derive_63 (by decide) ?_
          refine ih (k + 1) _ (by omega) ?_
          simp (disch := omega) only [rp_nI]
          first
            | (refine Eq.subst (motive := fun Q => DI t (k + 1) M0 z tp nd ld ak Q) ?_ (der_leaf hg hk h_15 hD)
               simp (disch := omega) only [ms_same, ms_ne])
            | (refine Eq.subst (motive := fun Q => DI t (k + 1) M0 z tp nd ld ak Q) ?_ (der_pair hg hk h_31 hD)
               simp (disch := omega) only [dpM, ms_same, ms_ne])
            | (refine Eq.subst (motive := fun Q => DI t (k + 1) M0 z tp nd ld ak Q) ?_ (der_single hg hk h_15 h_31 hD)
               simp (disch := omega) only [ms_same, ms_ne])
      · skip
        simp (disch := omega) only [rg_nI, bI_t, beq_iff_eq, c6] at h_15
        refine r_aload_n (i := 0) d_Tree_derive_18 rfl rfl ?_
        refine r_iload_n (i := 1) d_Tree_derive_19 rfl rfl ?_
        refine r_V1 v_Tree_deriveLeaf w_443 h.1 (c_Tree_deriveLeaf h k (by omega) _) (Nat.le_of_ble_eq_true rfl) (Nat.le_of_ble_eq_true rfl) d_Tree_derive_20 ?_
        refine r_goto 47 d_Tree_derive_23 (by decide) ?_
        refine r_aload_n (i := 0) d_Tree_derive_47 rfl rfl ?_
        refine r_getr nf_Tree_41 h.1 rfl d_Tree_derive_48 ?_
        refine r_iload_n (i := 1) d_Tree_derive_51 rfl rfl ?_
        refine r_aload_n (i := 0) d_Tree_derive_52 rfl rfl ?_
        refine r_iload_n (i := 1) d_Tree_derive_53 rfl rfl ?_
        refine r_V1 v_Tree_lowestAlike w_484 h.1 (c_Tree_lowestAlike (n := n) (z := z) (ak := ak) h (by simp (disch := omega) only [dpM, ms_same, ms_ne, c2, c4, c6, c8]; exact hg.1) hk (by simp (disch := omega) only [dpM, ms_same, ms_ne, c2, c4, c6, c8]; exact (hg.2 k hk).2.2.2) (by simp (disch := omega) only [dpM, ms_same, ms_ne]; exact fun c hc => (hD.2 c hc).2.2.2.2)) (Nat.le_of_ble_eq_true rfl) (Nat.le_of_ble_eq_true rfl) d_Tree_derive_54 ?_
        refine r_V2 v_Row_put w_406 (isTree.alikes h).1 (c_Row_put (isTree.alikes h) _ _ _ ) (Nat.le_of_ble_eq_true rfl) (Nat.le_of_ble_eq_true rfl) d_Tree_derive_57 ?_
        refine r_iinc d_Tree_derive_60 rfl (nI_inc k) (Nat.le_of_ble_eq_true rfl) rfl ?_
        refine r_goto 2 d_Tree_derive_63 (by decide) ?_
        refine ih (k + 1) _ (by omega) ?_
        simp (disch := omega) only [rp_nI]
        first
          | (refine Eq.subst (motive := fun Q => DI t (k + 1) M0 z tp nd ld ak Q) ?_ (der_leaf hg hk h_15 hD)
             simp (disch := omega) only [ms_same, ms_ne])
          | (refine Eq.subst (motive := fun Q => DI t (k + 1) M0 z tp nd ld ak Q) ?_ (der_pair hg hk h_31 hD)
             simp (disch := omega) only [dpM, ms_same, ms_ne])
          | (refine Eq.subst (motive := fun Q => DI t (k + 1) M0 z tp nd ld ak Q) ?_ (der_single hg hk h_15 h_31 hD)
             simp (disch := omega) only [ms_same, ms_ne])

theorem c_Tree_derive {t n : Nat} (h : isTree t) {M0 : nw_M} {z nd ld ak : Nat → Nat} {tp : Nat → Bool} (hg : GH n (M0 (t + 2)) (M0 (t + 4)) (M0 (t + 6)) (M0 (t + 8)) z tp nd ld ak) (hs : M0 t 9 = nI n) : CJ G LC m_Tree_derive 4 [.ref (G.2.2 t)] M0 (fun v N => v = none ∧ DI t n M0 z tp nd ld ak N) := by
  refine CJ_of (by decide) rfl (Nat.le_of_ble_eq_true rfl) ?_
  refine r_iconst 0 d_Tree_derive_0 ic_0 ?_
  refine r_istore_n (i := 1) d_Tree_derive_1 rfl (Nat.le_of_ble_eq_true rfl) rfl ?_
  exact l_Tree_derive h hg hs (fun N hN => ⟨rfl, hN⟩) n 0 M0 (by omega) ⟨fun _ _ _ _ _ _ => rfl, fun j hj => by omega⟩

end MTree3
