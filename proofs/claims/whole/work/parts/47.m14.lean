-- the model: what is cheapest
section MMt
variable {G : nw_G} {n : Nat} {le nu lf rt nm : Nat → Int32} {z nd ld ak mc : Nat → Nat} {tp lv lv2 sh sh2 : Nat → Bool} {C C2 : Nat → Nat → Nat} {Q : nP} {M N : nw_M}
theorem cX_congr (hw : WF n le nu lf rt z) {k : Nat} (hk : k < n) (hC : ∀ j, j < k → C j = C2 j) (hl : ∀ j, j < k → lv j = lv2 j) (i : Nat) : cX mc le lf rt z tp lv C k i = cX mc le lf rt z tp lv2 C2 k i := by
  unfold cX
  by_cases h1 : lf k = -9
  · rw [if_pos h1, if_pos h1]
  · rw [if_neg h1, if_neg h1]
    by_cases hr : rt k = -9
    · have s := hw.single hk h1 hr
      rw [if_pos hr, if_pos hr, hC (k - 1) (by omega)]
    · have s := hw.pair hk hr
      rw [if_neg hr, if_neg hr]
      unfold best kpt
      rw [hC (k - 1) (by omega), hC (k - 1 - z (k - 1)) (by omega), hl (k - 1) (by omega), hl (k - 1 - z (k - 1)) (by omega)]
theorem ct_agree (hw : WF n le nu lf rt z) (h1 : CTb n mc le lf rt z tp lv sh C) (h2 : CTb n mc le lf rt z tp lv2 sh2 C2) {k : Nat} (hk : k ≤ n) (hs : ∀ j, j < k → sh j = sh2 j) : (∀ j, j < k → lv j = lv2 j) ∧ ∀ j, j < k → C j = C2 j := by
  have hl : ∀ j, j < k → lv j = lv2 j := fun j hj => by rw [h1.1 j (by omega), h2.1 j (by omega), hs j hj]
  refine ⟨hl, fun j => ?_⟩
  induction j using Nat.strongRecOn with
  | _ j ih =>
    intro hj
    funext i
    rw [h1.2 j i (by omega), h2.2 j i (by omega), hs j hj, cX_congr hw (show j < n by omega) (fun q hq => ih q hq (by omega)) (fun q hq => hl q (by omega)) i]
theorem cX_agree (hw : WF n le nu lf rt z) (h1 : CTb n mc le lf rt z tp lv sh C) (h2 : CTb n mc le lf rt z tp lv2 sh2 C2) {k : Nat} (hk : k < n) (hs : ∀ j, j < k → sh j = sh2 j) (i : Nat) : cX mc le lf rt z tp lv C k i = cX mc le lf rt z tp lv2 C2 k i := by
  obtain ⟨a, b⟩ := ct_agree hw h1 h2 (Nat.le_of_lt hk) hs
  exact cX_congr hw hk b a i
theorem inS_take {S f : Nat} : ∀ (l : List Nat) (c b : Nat), (∀ x ∈ l.drop c, x ≠ f) → inS S f b (l.take c) = inS S f b l
  | [], c, b, _ => by simp
  | g :: r, 0, b, h => by
    have : ∀ (r : List Nat) (b : Nat), (∀ x ∈ r, x ≠ f) → inS S f b r = false := by
      intro r
      induction r with
      | nil => intro b _; rfl
      | cons y r ih => intro b h; rw [inS, if_neg (h y List.mem_cons_self)]; exact ih _ (fun x hx => h x (List.mem_cons_of_mem _ hx))
    rw [List.take_zero, this (g :: r) b h]; rfl
  | g :: r, c + 1, b, h => by
    rw [List.take_succ_cons, inS, inS]
    split
    · rfl
    · exact inS_take r c (b + 1) (fun x hx => h x (by simpa using hx))
theorem inS_snoc {S f x : Nat} : ∀ (a : List Nat) (b : Nat), x ∉ a → inS S f b (a ++ [x]) = (inS S f b a || (decide (x = f) && S.testBit (b + a.length)))
  | [], b, _ => by
    rw [List.nil_append, inS, inS, inS]
    by_cases e : x = f <;> simp [e]
  | g :: r, b, h => by
    rw [List.cons_append, inS, inS]
    by_cases e : g = f
    · subst e
      have : x ≠ g := fun q => h (by rw [q]; exact List.mem_cons_self)
      simp [this]
    · rw [if_neg e, if_neg e, inS_snoc r (b + 1) (fun q => h (List.mem_cons_of_mem _ q))]
      simp only [List.length_cons, show b + 1 + r.length = b + (r.length + 1) by omega]
theorem shL_sorted {i j x y : Nat} (h1 : (shL n lf tp ak)[i]? = some x) (h2 : (shL n lf tp ak)[j]? = some y) (h : i < j) : x < y := by
  have l1 := (List.getElem?_eq_some_iff.mp h1).1
  have l2 := (List.getElem?_eq_some_iff.mp h2).1
  have h5 := shL_len (n := n) (lf := lf) (tp := tp) (ak := ak)
  rw [shL_get (by omega)] at h1 h2
  exact shl_sorted n i j x y h1 h2 h
theorem shL_ak {c x : Nat} (h : (shL n lf tp ak)[c]? = some x) : ak x = x ∧ lf x ≠ -9 := by
  have := (shL_at h).2
  simp only [shQ, Bool.and_eq_true, decide_eq_true_eq] at this
  exact ⟨this.1.2, this.1.1.1⟩
theorem shL_take_ne {c x : Nat} (h : (shL n lf tp ak)[c]? = some x) : x ∉ (shL n lf tp ak).take c := by
  intro hx
  obtain ⟨i, hi⟩ := List.getElem?_of_mem hx
  have hl := (List.getElem?_eq_some_iff.mp hi).1
  rw [List.length_take] at hl
  rw [List.getElem?_take, if_pos (by omega)] at hi
  exact absurd (shL_sorted hi h (by omega)) (Nat.lt_irrefl _)
theorem shL_drop_ge {c x y : Nat} (h : (shL n lf tp ak)[c]? = some x) (hy : y ∈ (shL n lf tp ak).drop c) : x ≤ y := by
  obtain ⟨i, hi⟩ := List.getElem?_of_mem hy
  rw [List.getElem?_drop] at hi
  rcases Nat.eq_zero_or_pos i with q | q
  · subst q; rw [Nat.add_zero, h] at hi; cases hi; exact Nat.le_refl _
  · exact Nat.le_of_lt (shL_sorted h hi (by omega))
theorem inS_at {S c x : Nat} (h : (shL n lf tp ak)[c]? = some x) : inS S x 0 (shL n lf tp ak) = S.testBit c := by
  have hl := (List.getElem?_eq_some_iff.mp h).1
  have e := inS_take (S := S) (f := x) (shL n lf tp ak) (c + 1) 0 (fun y hy q => by
    subst q
    obtain ⟨i, hi⟩ := List.getElem?_of_mem hy
    rw [List.getElem?_drop] at hi
    exact absurd (shL_sorted h hi (by omega)) (Nat.lt_irrefl _))
  rw [← e, List.take_add_one, h, Option.toList_some, inS_snoc _ _ (shL_take_ne h), List.length_take, show min c (shL n lf tp ak).length = c by omega, Nat.zero_add]
  have : inS S x 0 ((shL n lf tp ak).take c) = false := by
    cases q : inS S x 0 ((shL n lf tp ak).take c) with
    | false => rfl
    | true => exact absurd (inS_mem _ _ q) (shL_take_ne h)
  rw [this]; simp
theorem smS_gap {CX : Nat → Nat → Nat} {a : Nat} : ∀ d, (∀ k, a ≤ k → k < a + d → ¬ (sh k = true ∧ ak k = k)) → smS mc CX sh ak (a + d) = smS mc CX sh ak a
  | 0, _ => rfl
  | d + 1, h => by
    rw [show a + (d + 1) = a + d + 1 by omega, smS, smS_gap d (fun k h1 h2 => h k h1 (by omega))]
    have := h (a + d) (by omega) (by omega)
    rw [if_neg (by simpa using this)]
    rfl
/-- where the one numbered c stands -/
def psn (n : Nat) (l : List Nat) (c : Nat) : Nat := l[c]?.getD n
theorem psn_some {l : List Nat} {c x : Nat} (h : l[c]? = some x) : psn n l c = x := by unfold psn; rw [h]; rfl
theorem psn_none {l : List Nat} {c : Nat} (h : l.length ≤ c) : psn n l c = n := by unfold psn; rw [List.getElem?_eq_none h]; rfl
theorem sm_0 {S : Nat} {CX : Nat → Nat → Nat} (hak : ∀ j, j < n → ak j ≤ j) : smS mc CX (fun k => inS S (ak k) 0 (shL n lf tp ak)) ak (psn n (shL n lf tp ak) 0) = 0 := by
  have := smS_gap (mc := mc) (CX := CX) (sh := fun k => inS S (ak k) 0 (shL n lf tp ak)) (ak := ak) (a := 0) (psn n (shL n lf tp ak) 0) (by
    rintro k - hk ⟨h1, h2⟩
    rw [Nat.zero_add] at hk
    have hm := inS_mem _ _ h1
    rw [h2] at hm
    obtain ⟨i, hi⟩ := List.getElem?_of_mem hm
    cases h0 : (shL n lf tp ak)[0]? with
    | none => rw [List.getElem?_eq_none_iff] at h0; have := (List.getElem?_eq_some_iff.mp hi).1; omega
    | some x =>
      rw [psn_some h0] at hk
      rcases Nat.eq_zero_or_pos i with q | q
      · subst q; rw [h0] at hi; cases hi; omega
      · have := shL_sorted h0 hi q; omega)
  rw [Nat.zero_add] at this
  rw [this]; rfl
theorem sm_s {S c x : Nat} {CX : Nat → Nat → Nat} (h : (shL n lf tp ak)[c]? = some x) : smS mc CX (fun k => inS S (ak k) 0 (shL n lf tp ak)) ak (psn n (shL n lf tp ak) (c + 1)) = smS mc CX (fun k => inS S (ak k) 0 (shL n lf tp ak)) ak (psn n (shL n lf tp ak) c) + if S.testBit c then CX x (mc 0) + mc 2 else 0 := by
  have hxa := (shL_ak h).1
  have hxn := (shL_at h).1
  have hp : x + 1 ≤ psn n (shL n lf tp ak) (c + 1) := by
    cases h0 : (shL n lf tp ak)[c + 1]? with
    | none => rw [List.getElem?_eq_none_iff] at h0; rw [psn_none h0]; omega
    | some y => rw [psn_some h0]; exact shL_sorted h h0 (by omega)
  have g := smS_gap (mc := mc) (CX := CX) (sh := fun k => inS S (ak k) 0 (shL n lf tp ak)) (ak := ak) (a := x + 1) (psn n (shL n lf tp ak) (c + 1) - (x + 1)) (by
    rintro k hk1 hk ⟨h1, h2⟩
    rw [show x + 1 + (psn n (shL n lf tp ak) (c + 1) - (x + 1)) = psn n (shL n lf tp ak) (c + 1) by omega] at hk
    have hm := inS_mem _ _ h1
    rw [h2] at hm
    obtain ⟨i, hi⟩ := List.getElem?_of_mem hm
    have ic : c < i := by
      rcases Nat.lt_trichotomy i c with q | q | q
      · have := shL_sorted hi h q; omega
      · subst q; rw [h] at hi; cases hi; omega
      · exact q
    cases h0 : (shL n lf tp ak)[c + 1]? with
    | none => rw [List.getElem?_eq_none_iff] at h0; have := (List.getElem?_eq_some_iff.mp hi).1; omega
    | some y =>
      rw [psn_some h0] at hk
      rcases Nat.eq_or_lt_of_le (show c + 1 ≤ i from ic) with q | q
      · subst q; rw [h0] at hi; cases hi; omega
      · have := shL_sorted h0 hi q; omega)
  rw [show x + 1 + (psn n (shL n lf tp ak) (c + 1) - (x + 1)) = psn n (shL n lf tp ak) (c + 1) by omega] at g
  rw [g, psn_some h, smS]
  congr 1
  show (if inS S (ak x) 0 (shL n lf tp ak) && decide (ak x = x) then CX x (mc 0) + mc 2 else 0) = _
  rw [hxa, inS_at h, decide_eq_true rfl, Bool.and_true]
theorem sm_e {S c : Nat} {CX : Nat → Nat → Nat} (h : (shL n lf tp ak).length ≤ c) : smS mc CX (fun k => inS S (ak k) 0 (shL n lf tp ak)) ak (psn n (shL n lf tp ak) (c + 1)) = smS mc CX (fun k => inS S (ak k) 0 (shL n lf tp ak)) ak (psn n (shL n lf tp ak) c) := by
  rw [psn_none h, psn_none (by omega)]
/-- what counts as a LEAF behind c of them -/
def shc (n : Nat) (lf : Nat → Int32) (tp : Nat → Bool) (ak : Nat → Nat) (S c : Nat) (j : Nat) : Bool := inS S (ak j) 0 ((shL n lf tp ak).take c)
theorem shc_lo {S c x j : Nat} (h : (shL n lf tp ak)[c]? = some x) (hj : j < x) (ha : ak j ≤ j) : shc n lf tp ak S c j = inS S (ak j) 0 (shL n lf tp ak) := by
  unfold shc
  exact inS_take _ _ _ (fun y hy q => by have := shL_drop_ge h hy; omega)
theorem shc_at {S c x : Nat} (h : (shL n lf tp ak)[c]? = some x) : shc n lf tp ak S c x = false := by
  unfold shc
  rw [(shL_ak h).1]
  cases q : inS S x 0 ((shL n lf tp ak).take c) with
  | false => rfl
  | true => exact absurd (inS_mem _ _ q) (shL_take_ne h)
theorem shc_s {S c x : Nat} (h : (shL n lf tp ak)[c]? = some x) (j : Nat) : shc n lf tp ak S (c + 1) j = (shc n lf tp ak S c j || (decide (x = ak j) && S.testBit c)) := by
  have hl := (List.getElem?_eq_some_iff.mp h).1
  unfold shc
  rw [List.take_add_one, h, Option.toList_some, inS_snoc _ _ (shL_take_ne h), List.length_take, show min c (shL n lf tp ak).length = c by omega, Nat.zero_add]
theorem shc_n {S c : Nat} (h : S.testBit c = false) (j : Nat) : shc n lf tp ak S (c + 1) j = shc n lf tp ak S c j := by
  cases h0 : (shL n lf tp ak)[c]? with
  | none => unfold shc; rw [List.take_add_one, h0, Option.toList_none, List.append_nil]
  | some x => rw [shc_s h0, h, Bool.and_false, Bool.or_false]
theorem bit_lt {S F c : Nat} (h : S < 2 ^ F) (hb : S.testBit c = true) : c < F := by
  rcases Nat.lt_or_ge c F with q | q
  · exact q
  · rw [Nat.testBit_lt_two_pow (Nat.lt_of_lt_of_le h (Nat.pow_le_pow_right (by decide) q))] at hb
    exact absurd hb (by decide)
theorem has_bit {S c : Nat} (hS : S < 32) (hc : c < 5) : ((nI S >>> (nI c &&& 31)) &&& 1 == 1) = S.testBit c := by
  have := bit32 S hS c hc
  by_cases h : S.testBit c = true
  · rw [h, beq_iff_eq]; exact this.mpr h
  · rw [Bool.not_eq_true] at h
    rw [h]
    exact beq_eq_false_iff_ne.mpr (fun q => by rw [this.mp q] at h; exact absurd h (by decide))
theorem l0_Model_costBySet (hS : MS n le nu lf rt nm mc (M 3)) (hw : WF n le nu lf rt z) {o1 o2 : Option Value} {P : Option Value → nw_M → Prop} (hP : ∀ N2, LFI n lf M N2 → RJ G LM m_Model_costBySet 4 P 31 [some (.ref (G.2.2 0)), o1, o2, some (.int (nI n)), none, none] [] N2) : ∀ (d j : Nat) (N : nw_M), j + d = n → LFI j lf M N → RJ G LM m_Model_costBySet 4 P 4 [some (.ref (G.2.2 0)), o1, o2, some (.int (nI j)), none, none] [] N := by
  have hn := hw.1
  intro d
  induction d with
  | zero =>
    intro j N hd hI
    have hSx : MS n le nu lf rt nm mc (N 3) := by rw [hI.1 3 (by decide)]; exact hS
    simp only [Nat.add_zero] at hd
    subst hd
    refine r_iload_n (i := 3) d_Model_costBySet_4 rfl rfl ?_
    refine r_aload_n (i := 0) d_Model_costBySet_5 rfl rfl ?_
    refine r_getr nf_Model_16 lm_0 rfl d_Model_costBySet_6 ?_
    refine r_iconst 0 d_Model_costBySet_9 ic_0 ?_
    refine r_ia (q := 0) lm_3 rfl (by omega) (by decide) hSx.1 d_Model_costBySet_10 ?_
    refine r_icmp_ge 31 d_Model_costBySet_11 (by decide) (fun _ => ?_) (fun h9 => absurd (Int32.le_refl _) h9)
    exact hP N hI
  | succ d ih =>
    intro j N hd hI
    have hSx : MS n le nu lf rt nm mc (N 3) := by rw [hI.1 3 (by decide)]; exact hS
    refine r_iload_n (i := 3) d_Model_costBySet_4 rfl rfl ?_
    refine r_aload_n (i := 0) d_Model_costBySet_5 rfl rfl ?_
    refine r_getr nf_Model_16 lm_0 rfl d_Model_costBySet_6 ?_
    refine r_iconst 0 d_Model_costBySet_9 ic_0 ?_
    refine r_ia (q := 0) lm_3 rfl (by omega) (by decide) (hSx.1) d_Model_costBySet_10 ?_
    refine r_icmp_ge 31 d_Model_costBySet_11 (by decide) (fun h_11 => ?_) (fun h_11 => ?_)
    · skip
      exact absurd h_11 (nI_ge (by omega) (by omega))
    · skip
      refine r_aload_n (i := 0) d_Model_costBySet_14 rfl rfl ?_
      refine r_getr nf_Model_41 lm_0 rfl d_Model_costBySet_15 ?_
      refine r_iload_n (i := 3) d_Model_costBySet_18 rfl rfl ?_
      refine r_aload_n (i := 0) d_Model_costBySet_19 rfl rfl ?_
      refine r_iload_n (i := 3) d_Model_costBySet_20 rfl rfl ?_
      refine r_V1 v_Model_isLeaf w_1019 lm_0 (c_Model_isLeaf (M := N) hSx hw (k := j) (by omega)) (Nat.le_of_ble_eq_true rfl) (Nat.le_of_ble_eq_true rfl) d_Model_costBySet_21 ?_
      refine r_zas (q := j) lm_11 rfl (by omega) (by decide) (bI_01 _) d_Model_costBySet_24 ?_
      refine r_iinc d_Model_costBySet_25 rfl (nI_inc _) (Nat.le_of_ble_eq_true rfl) rfl ?_
      dsimp only [List.set]
      refine r_goto 4 d_Model_costBySet_28 (by decide) ?_
      exact ih (j + 1) _ (by omega) hI.put

/-- the marks of LEAVES, behind j NODES new ones -/
def MKI (n j : Nat) (old new : Nat → Bool) (M N : nw_M) : Prop := (∀ e, e ≠ 11 → N e = M e) ∧ ∀ q, q < n → N 11 q = bI (if q < j then new q else old q)
theorem MKI.put {j : Nat} {old new : Nat → Bool} {b : Bool} (h : MKI n j old new M N) (hb : b = new j) : MKI n (j + 1) old new M (ms N 11 (upd (N 11) j (bI b))) := by
  refine ⟨fun e he => by rw [ms_ne _ _ he]; exact h.1 e he, fun q hq => ?_⟩
  rw [ms_same]
  by_cases e : q = j
  · subst e; rw [upd_at, if_pos (by omega), hb]
  · rw [upd_ne _ _ e, h.2 q hq]
    by_cases r : q < j
    · rw [if_pos r, if_pos (by omega)]
    · rw [if_neg r, if_neg (by omega)]
theorem l1_Model_costBySet (hS : MS n le nu lf rt nm mc (M 3)) (hw : WF n le nu lf rt z) (hA : ∀ k, k < n → AKk le nu lf rt ak k) {x : Nat} (hx : x < n) (hxa : ak x = x) {old new : Nat → Bool} (hnew : ∀ j, j < n → new j = (old j || decide (ak j = x))) {o1 o2 o3 : Option Value} {P : Option Value → nw_M → Prop} (hP : ∀ N2, MKI n n old new M N2 → RJ G LM m_Model_costBySet 4 P 136 [some (.ref (G.2.2 0)), o1, o2, o3, some (.int (nI x)), some (.int (nI n))] [] N2) : ∀ (d j : Nat) (N : nw_M), j + d = n → MKI n j old new M N → RJ G LM m_Model_costBySet 4 P 86 [some (.ref (G.2.2 0)), o1, o2, o3, some (.int (nI x)), some (.int (nI j))] [] N := by
  have hn := hw.1
  intro d
  induction d with
  | zero =>
    intro j N hd hI
    have hSx : MS n le nu lf rt nm mc (N 3) := by rw [hI.1 3 (by decide)]; exact hS
    simp only [Nat.add_zero] at hd
    subst hd
    refine r_iload d_Model_costBySet_86 rfl ?_
    refine r_aload_n (i := 0) d_Model_costBySet_88 rfl rfl ?_
    refine r_getr nf_Model_16 lm_0 rfl d_Model_costBySet_89 ?_
    refine r_iconst 0 d_Model_costBySet_92 ic_0 ?_
    refine r_ia (q := 0) lm_3 rfl (by omega) (by decide) hSx.1 d_Model_costBySet_93 ?_
    refine r_icmp_ge 136 d_Model_costBySet_94 (by decide) (fun _ => ?_) (fun h9 => absurd (Int32.le_refl _) h9)
    exact hP N hI
  | succ d ih =>
    intro j N hd hI
    have hSx : MS n le nu lf rt nm mc (N 3) := by rw [hI.1 3 (by decide)]; exact hS
    have hj : N 11 j = bI (old j) := by rw [hI.2 j (by omega), if_neg (by omega)]
    refine r_iload d_Model_costBySet_86 rfl ?_
    refine r_aload_n (i := 0) d_Model_costBySet_88 rfl rfl ?_
    refine r_getr nf_Model_16 lm_0 rfl d_Model_costBySet_89 ?_
    refine r_iconst 0 d_Model_costBySet_92 ic_0 ?_
    refine r_ia (q := 0) lm_3 rfl (by omega) (by decide) (hSx.1) d_Model_costBySet_93 ?_
    refine r_icmp_ge 136 d_Model_costBySet_94 (by decide) (fun h_94 => ?_) (fun h_94 => ?_)
    · skip
      exact absurd h_94 (nI_ge (by omega) (by omega))
    · skip
      refine r_aload_n (i := 0) d_Model_costBySet_97 rfl rfl ?_
      refine r_getr nf_Model_41 lm_0 rfl d_Model_costBySet_98 ?_
      refine r_iload d_Model_costBySet_101 rfl ?_
      refine r_aload_n (i := 0) d_Model_costBySet_103 rfl rfl ?_
      refine r_getr nf_Model_41 lm_0 rfl d_Model_costBySet_104 ?_
      refine r_iload d_Model_costBySet_107 rfl ?_
      refine r_za (q := j) lm_11 rfl (by omega) (by decide) (hj) d_Model_costBySet_109 ?_
      refine r_if_ne 124 d_Model_costBySet_110 (by decide) (fun h_110 => ?_) (fun h_110 => ?_)
      · skip
        refine r_iconst 1 d_Model_costBySet_124 ic_1 ?_
        refine r_goto 129 d_Model_costBySet_125 (by decide) ?_
        refine r_zas (q := j) lm_11 rfl (by omega) (by decide) (by decide) d_Model_costBySet_129 ?_
        refine r_iinc d_Model_costBySet_130 rfl (nI_inc _) (Nat.le_of_ble_eq_true rfl) rfl ?_
        dsimp only [List.set]
        refine r_goto 86 d_Model_costBySet_133 (by decide) ?_
        exact ih (j + 1) _ (by omega) (hI.put (b := true) (by rw [hnew j (by omega), (bI_t _).mp h_110, Bool.true_or]))
      · skip
        refine r_aload_n (i := 0) d_Model_costBySet_113 rfl rfl ?_
        refine r_iload d_Model_costBySet_114 rfl ?_
        refine r_iload d_Model_costBySet_116 rfl ?_
        refine r_V2 v_Model_isAlike w_1048 lm_0 (c_Model_isAlike (M := N) hSx hw hA (a := j) (b := x) (by omega) hx) (Nat.le_of_ble_eq_true rfl) (Nat.le_of_ble_eq_true rfl) d_Model_costBySet_118 ?_
        refine r_if_eq 128 d_Model_costBySet_121 (by decide) (fun h_121 => ?_) (fun h_121 => ?_)
        · skip
          refine r_iconst 0 d_Model_costBySet_128 ic_0 ?_
          refine r_zas (q := j) lm_11 rfl (by omega) (by decide) (by decide) d_Model_costBySet_129 ?_
          refine r_iinc d_Model_costBySet_130 rfl (nI_inc _) (Nat.le_of_ble_eq_true rfl) rfl ?_
          dsimp only [List.set]
          refine r_goto 86 d_Model_costBySet_133 (by decide) ?_
          exact ih (j + 1) _ (by omega) (hI.put (b := false) (by have q := (bI_f _).mp h_121; rw [hxa] at q; rw [hnew j (by omega), (bI_f _).mp h_110, q, Bool.or_false]))
        · skip
          refine r_iconst 1 d_Model_costBySet_124 ic_1 ?_
          refine r_goto 129 d_Model_costBySet_125 (by decide) ?_
          refine r_zas (q := j) lm_11 rfl (by omega) (by decide) (by decide) d_Model_costBySet_129 ?_
          refine r_iinc d_Model_costBySet_130 rfl (nI_inc _) (Nat.le_of_ble_eq_true rfl) rfl ?_
          dsimp only [List.set]
          refine r_goto 86 d_Model_costBySet_133 (by decide) ?_
          exact ih (j + 1) _ (by omega) (hI.put (b := true) (by have q := (bI_t _).mp h_121; rw [hxa] at q; rw [hnew j (by omega), q, Bool.or_true]))

set_option maxHeartbeats 1000000 in
theorem l2_Model_costBySet (hS : MS n le nu lf rt nm mc (M 3)) (hw : WF n le nu lf rt z) (hA : ∀ k, k < n → AKk le nu lf rt ak k) (ht : ∀ k, k < n → TPk le lf rt z tp k) (hmk : MOK mc) {S : Nat} (h32 : S < 32) (hSl : S < 2 ^ (shL n lf tp ak).length) (hC : CTb n mc le lf rt z tp lv (fun k => inS S (ak k) 0 (shL n lf tp ak)) C) {P : Option Value → nw_M → Prop} (hP : ∀ (N2 : nw_M) (o4 o5 : Option Value), (∀ e, e ≠ 11 → e ≠ 12 → e ≠ 13 → N2 e = M e) → (∀ q, q < n → N2 11 q = bI ((fun j => decide (lf j = -9) || shc n lf tp ak S 5 j) q)) → RJ G LM m_Model_costBySet 4 P 142 [some (.ref (G.2.2 0)), some (.int (nI S)), some (.int (nI (smS mc (fun k i => (cX mc le lf rt z tp lv C k i).2) (fun k => inS S (ak k) 0 (shL n lf tp ak)) ak (psn n (shL n lf tp ak) 5)))), some (.int (nI 5)), o4, o5] [] N2) : ∀ (d c : Nat) (N : nw_M) (o4 o5 : Option Value), c + d = 5 → (∀ e, e ≠ 11 → e ≠ 12 → e ≠ 13 → N e = M e) → (∀ q, q < n → N 11 q = bI ((fun j => decide (lf j = -9) || shc n lf tp ak S c j) q)) → RJ G LM m_Model_costBySet 4 P 33 [some (.ref (G.2.2 0)), some (.int (nI S)), some (.int (nI (smS mc (fun k i => (cX mc le lf rt z tp lv C k i).2) (fun k => inS S (ak k) 0 (shL n lf tp ak)) ak (psn n (shL n lf tp ak) c)))), some (.int (nI c)), o4, o5] [] N := by
  have hn := hw.1
  have h6 := hmk.2.1
  have h5 := shL_len (n := n) (lf := lf) (tp := tp) (ak := ak)
  intro d
  induction d with
  | zero =>
    intro c N o4 o5 hd hF hL
    simp only [Nat.add_zero] at hd
    subst hd
    refine r_iload_n (i := 3) d_Model_costBySet_33 rfl rfl ?_
    refine r_iconst 5 d_Model_costBySet_34 ic_5 ?_
    refine r_icmp_ge 142 d_Model_costBySet_35 (by decide) (fun _ => ?_) (fun h9 => absurd (show (5 : Int32) ≤ nI 5 by decide) h9)
    exact hP N _ _ hF hL
  | succ d ih =>
    intro c N o4 o5 hd hF hL
    have hSx : MS n le nu lf rt nm mc (N 3) := by rw [hF 3 (by decide) (by decide) (by decide)]; exact hS
    refine r_iload_n (i := 3) d_Model_costBySet_33 rfl rfl ?_
    refine r_iconst 5 d_Model_costBySet_34 ic_5 ?_
    refine r_icmp_ge 142 d_Model_costBySet_35 (by decide) (fun h_35 => ?_) (fun h_35 => ?_)
    · skip
      exact absurd h_35 (nI_ge (b := 5) (by omega) (by omega))
    · skip
      refine r_iload_n (i := 1) d_Model_costBySet_38 rfl rfl ?_
      refine r_iload_n (i := 3) d_Model_costBySet_39 rfl rfl ?_
      refine r_S2 f_Model_has w_1191 (c_Model_has _ _ _ ) (Nat.le_of_ble_eq_true rfl) (Nat.le_of_ble_eq_true rfl) d_Model_costBySet_40 ?_
      refine r_if_eq 136 d_Model_costBySet_43 (by decide) (fun h_43 => ?_) (fun h_43 => ?_)
      · skip
        have hb : S.testBit c = false := by
          have q := (bI_f _).mp h_43
          rw [has_bit h32 (by omega)] at q
          exact q
        refine r_iinc d_Model_costBySet_136 rfl (nI_inc _) (Nat.le_of_ble_eq_true rfl) rfl ?_
        dsimp only [List.set]
        refine r_goto 33 d_Model_costBySet_139 (by decide) ?_
        have := ih (c + 1) N o4 o5 (by omega) hF (fun q hq => by show N 11 q = bI (_ || shc n lf tp ak S (c + 1) q); rw [shc_n hb]; exact hL q hq)
        rcases Nat.lt_or_ge c (shL n lf tp ak).length with q | q
        · rw [sm_s (List.getElem?_eq_getElem q), hb, if_neg (by decide), Nat.add_zero] at this
          exact this
        · rw [sm_e q] at this
          exact this
      · skip
        have hb : S.testBit c = true := by
          have q := (bI_t _).mp h_43
          rw [has_bit h32 (by omega)] at q
          exact q
        have hcl := bit_lt hSl hb
        obtain ⟨x, hx⟩ : ∃ x, (shL n lf tp ak)[c]? = some x := ⟨_, List.getElem?_eq_getElem hcl⟩
        have hxn := (shL_at hx).1
        obtain ⟨hxa, hxl⟩ := shL_ak hx
        obtain ⟨Cc, hCc⟩ := ct_ex hw mc tp (shc n lf tp ak S c)
        have hag := cX_agree hw hCc hC hxn (fun j hj => shc_lo (S := S) hx hj (hA j (by omega)).1) (mc 0)
        have hv : Cc x (mc 0) = (cX mc le lf rt z tp lv C x (mc 0)).2 := by
          rw [hCc.2 x _ hxn, shc_at hx, hag]; rfl
        refine r_aload_n (i := 0) d_Model_costBySet_46 rfl rfl ?_
        refine r_iload_n (i := 3) d_Model_costBySet_47 rfl rfl ?_
        refine r_V1 v_Model_sharedFirst w_1175 lm_0 (CF_eq (c_Model_sharedFirst (M := N) hSx hw hA ht (c := c) (by omega)) (show _ = some (Value.int (nI x)) by rw [sfA_some hx]) rfl) (Nat.le_of_ble_eq_true rfl) (Nat.le_of_ble_eq_true rfl) d_Model_costBySet_48 ?_
        refine r_istore d_Model_costBySet_51 (Nat.le_of_ble_eq_true rfl) rfl ?_
        dsimp only [List.set]
        refine r_aload_n (i := 0) d_Model_costBySet_53 rfl rfl ?_
        refine r_W0 v_Model_reckons w_1078 lm_0 (c_Model_reckons (M := N) hSx hw ht hmk hCc hL) (Nat.le_of_ble_eq_true rfl) (Nat.le_of_ble_eq_true rfl) d_Model_costBySet_54 (fun v N1 hv1 => ?_)
        obtain ⟨rfl, f1, t1⟩ := hv1
        have hSy : MS n le nu lf rt nm mc (N1 3) := by rw [f1 3 (by decide) (by decide)]; exact hSx
        refine r_iload_n (i := 2) d_Model_costBySet_57 rfl rfl ?_
        refine r_aload_n (i := 0) d_Model_costBySet_58 rfl rfl ?_
        refine r_iload d_Model_costBySet_59 rfl ?_
        refine r_aload_n (i := 0) d_Model_costBySet_61 rfl rfl ?_
        refine r_getr nf_Model_16 lm_0 rfl d_Model_costBySet_62 ?_
        refine r_sipush 133 d_Model_costBySet_65 sp_133 ?_
        refine r_ia (q := 133) lm_3 rfl (by omega) (by decide) ((hSy.gmc (j := 0) (by omega))) d_Model_costBySet_68 ?_
        refine r_V2 v_Model_costAt w_1083 lm_0 (CF_eq (c_Model_costAt (M := N1) (k := x) (i := mc 0) (by omega) (t1 x hxn (mc 0) hmk.1 (Nat.le_refl _)).1) (show _ = some (Value.int (nI ((cX mc le lf rt z tp lv C x (mc 0)).2))) by rw [hv]) rfl) (Nat.le_of_ble_eq_true rfl) (Nat.le_of_ble_eq_true rfl) d_Model_costBySet_69 ?_
        refine r_aload_n (i := 0) d_Model_costBySet_72 rfl rfl ?_
        refine r_getr nf_Model_16 lm_0 rfl d_Model_costBySet_73 ?_
        refine r_sipush 135 d_Model_costBySet_76 sp_135 ?_
        refine r_ia (q := 135) lm_3 rfl (by omega) (by decide) ((hSy.gmc (j := 2) (by omega))) d_Model_costBySet_79 ?_
        refine r_iaddN (a := (cX mc le lf rt z tp lv C x (mc 0)).2) (b := (mc 2)) d_Model_costBySet_80 rfl rfl ?_
        refine r_iaddN (a := (smS mc (fun k i => (cX mc le lf rt z tp lv C k i).2) (fun k => inS S (ak k) 0 (shL n lf tp ak)) ak (psn n (shL n lf tp ak) c))) (b := ((cX mc le lf rt z tp lv C x (mc 0)).2 + (mc 2))) d_Model_costBySet_81 rfl rfl ?_
        refine r_istore_n (i := 2) d_Model_costBySet_82 rfl (Nat.le_of_ble_eq_true rfl) rfl ?_
        dsimp only [List.set]
        refine r_iconst 0 d_Model_costBySet_83 ic_0 ?_
        refine r_istore d_Model_costBySet_84 (Nat.le_of_ble_eq_true rfl) rfl ?_
        dsimp only [List.set]
        refine l1_Model_costBySet (M := N1) hSy hw hA hxn hxa (old := (fun j => decide (lf j = -9) || shc n lf tp ak S c j)) (new := (fun j => decide (lf j = -9) || shc n lf tp ak S (c + 1) j)) (fun j hj => ?_) (fun N2 g2 => ?_) n 0 N1 (by omega) ⟨fun _ _ => rfl, fun q hq => ?_⟩
        · show (_ || shc n lf tp ak S (c + 1) j) = _
          rw [shc_s hx, hb, Bool.and_true, Bool.or_assoc]
          congr 2
          simp only [eq_comm]
        · refine r_iinc d_Model_costBySet_136 rfl (nI_inc _) (Nat.le_of_ble_eq_true rfl) rfl ?_
          dsimp only [List.set]
          refine r_goto 33 d_Model_costBySet_139 (by decide) ?_
          have := ih (c + 1) N2 (some (.int (nI x))) (some (.int (nI n))) (by omega) (fun e e1 e2 e3 => by rw [g2.1 e e1, f1 e e2 e3]; exact hF e e1 e2 e3) (fun q hq => by rw [g2.2 q hq, if_pos hq])
          rw [sm_s hx, if_pos hb] at this
          exact this
        · rw [f1 11 (by decide) (by decide), if_neg (Nat.not_lt_zero q)]
          exact hL q hq

theorem c_Model_costBySet (hS : MS n le nu lf rt nm mc (M 3)) (hw : WF n le nu lf rt z) (hA : ∀ k, k < n → AKk le nu lf rt ak k) (ht : ∀ k, k < n → TPk le lf rt z tp k) (hmk : MOK mc) {S : Nat} (h32 : S < 32) (hSl : S < 2 ^ (shL n lf tp ak).length) (hC : CTb n mc le lf rt z tp lv (fun k => inS S (ak k) 0 (shL n lf tp ak)) C) (h0 : 0 < n) : CJ G LM m_Model_costBySet 4 [.ref (G.2.2 0), .int (nI S)] M (fun v N => v = some (.int (nI (smS mc (fun k i => (cX mc le lf rt z tp lv C k i).2) (fun k => inS S (ak k) 0 (shL n lf tp ak)) ak n + C (n - 1) (mc 0)))) ∧ ∀ e, e ≠ 11 → e ≠ 12 → e ≠ 13 → N e = M e) := by
  have hn := hw.1
  have h6 := hmk.2.1
  have h5 := shL_len (n := n) (lf := lf) (tp := tp) (ak := ak)
  refine CJ_of2 (n0 := 4) (by decide) rfl rfl ?_
  simp only [List.map_cons, List.map_nil, List.cons_append, List.nil_append, List.reduceReplicate]
  refine r_iconst 0 d_Model_costBySet_0 ic_0 ?_
  refine r_istore_n (i := 2) d_Model_costBySet_1 rfl (Nat.le_of_ble_eq_true rfl) rfl ?_
  dsimp only [List.set]
  refine r_iconst 0 d_Model_costBySet_2 ic_0 ?_
  refine r_istore_n (i := 3) d_Model_costBySet_3 rfl (Nat.le_of_ble_eq_true rfl) rfl ?_
  dsimp only [List.set]
  refine l0_Model_costBySet (M := M) hS hw (fun N1 g1 => ?_) n 0 M (by omega) ⟨fun _ _ => rfl, fun j hj => absurd hj (Nat.not_lt_zero j)⟩
  refine r_iconst 0 d_Model_costBySet_31 ic_0 ?_
  refine r_istore_n (i := 3) d_Model_costBySet_32 rfl (Nat.le_of_ble_eq_true rfl) rfl ?_
  dsimp only [List.set]
  have hsm := sm_0 (n := n) (lf := lf) (tp := tp) (ak := ak) (mc := mc) (S := S) (CX := fun k i => (cX mc le lf rt z tp lv C k i).2) (fun j hj => (hA j hj).1)
  have key := l2_Model_costBySet (G := G) (M := M) hS hw hA ht hmk h32 hSl hC (P := (fun v N => v = some (.int (nI (smS mc (fun k i => (cX mc le lf rt z tp lv C k i).2) (fun k => inS S (ak k) 0 (shL n lf tp ak)) ak n + C (n - 1) (mc 0)))) ∧ ∀ e, e ≠ 11 → e ≠ 12 → e ≠ 13 → N e = M e)) (fun N2 o4 o5 g2 g3 => ?_) 5 0 N1 none none (by omega) (fun e e1 _ _ => g1.1 e e1) (fun q hq => by rw [g1.2 q hq]; show _ = bI (_ || inS S (ak q) 0 ((shL n lf tp ak).take 0)); rw [List.take_zero, inS, Bool.or_false])
  · rw [hsm] at key
    exact key
  have hS2 : MS n le nu lf rt nm mc (N2 3) := by rw [g2 3 (by decide) (by decide) (by decide)]; exact hS
  refine r_aload_n (i := 0) d_Model_costBySet_142 rfl rfl ?_
  refine r_W0 v_Model_reckons w_1078 lm_0 (c_Model_reckons (M := N2) hS2 hw ht hmk hC (fun j hj => by rw [g3 j hj, hC.1 j hj]; show bI (_ || inS S (ak j) 0 ((shL n lf tp ak).take 5)) = _; rw [List.take_of_length_le h5])) (Nat.le_of_ble_eq_true rfl) (Nat.le_of_ble_eq_true rfl) d_Model_costBySet_143 (fun v N3 hv3 => ?_)
  obtain ⟨rfl, f3, t3⟩ := hv3
  have hSz : MS n le nu lf rt nm mc (N3 3) := by rw [f3 3 (by decide) (by decide)]; exact hS2
  refine r_iload_n (i := 2) d_Model_costBySet_146 rfl rfl ?_
  refine r_aload_n (i := 0) d_Model_costBySet_147 rfl rfl ?_
  refine r_aload_n (i := 0) d_Model_costBySet_148 rfl rfl ?_
  refine r_getr nf_Model_16 lm_0 rfl d_Model_costBySet_149 ?_
  refine r_iconst 0 d_Model_costBySet_152 ic_0 ?_
  refine r_ia (q := 0) lm_3 rfl (by omega) (by decide) (hSz.1) d_Model_costBySet_153 ?_
  refine r_iconst 1 d_Model_costBySet_154 ic_1 ?_
  refine r_isubN (a := n) (b := 1) d_Model_costBySet_155 rfl rfl (by omega) ?_
  refine r_aload_n (i := 0) d_Model_costBySet_156 rfl rfl ?_
  refine r_getr nf_Model_16 lm_0 rfl d_Model_costBySet_157 ?_
  refine r_sipush 133 d_Model_costBySet_160 sp_133 ?_
  refine r_ia (q := 133) lm_3 rfl (by omega) (by decide) ((hSz.gmc (j := 0) (by omega))) d_Model_costBySet_163 ?_
  refine r_V2 v_Model_costAt w_1083 lm_0 (c_Model_costAt (M := N3) (k := n - 1) (i := mc 0) (by omega) (t3 (n - 1) (by omega) (mc 0) hmk.1 (Nat.le_refl _)).1) (Nat.le_of_ble_eq_true rfl) (Nat.le_of_ble_eq_true rfl) d_Model_costBySet_164 ?_
  refine r_iaddN (a := (smS mc (fun k i => (cX mc le lf rt z tp lv C k i).2) (fun k => inS S (ak k) 0 (shL n lf tp ak)) ak (psn n (shL n lf tp ak) 5))) (b := (C (n - 1) (mc 0))) d_Model_costBySet_167 rfl rfl ?_
  refine r_iret rfl d_Model_costBySet_168 ?_
  refine ⟨?_, fun e e1 e2 e3 => by rw [f3 e e2 e3]; exact g2 e e1 e2 e3⟩
  rw [psn_none h5]

theorem sum_lt (hw : WF n le nu lf rt z) (hmk : MOK mc) {l : List Nat} {S v : Nat} (h0 : 0 < n) (h : IsSum n mc le lf rt z tp ak l S v) : v < 2 ^ 30 := by
  obtain ⟨lv, C, hC, rfl⟩ := h
  have hn := hw.1
  have hb := cX_le hmk hw hC
  have m2 := (hmk.2.2 2 (by omega) (by omega)).2
  have key : ∀ k, k ≤ n → smS mc (fun k i => (cX mc le lf rt z tp lv C k i).2) (fun k => inS S (ak k) 0 l) ak k ≤ 1125 * k := by
    intro k
    induction k with
    | zero => intro _; exact Nat.le_refl _
    | succ k ih =>
      intro hk
      have a := ih (by omega)
      have b := (hb k (mc 0) (by omega)).2
      have c := hw.zb k (by omega)
      rw [smS]
      split <;> omega
  have a := key n (Nat.le_refl _)
  have b := (hb (n - 1) (mc 0) (by omega)).1
  have c := hw.zb (n - 1) (by omega)
  omega
def chA (n : Nat) (V : Nat → Nat) (F : Nat) (w : Int32) : Int32 := if n = 0 then -2 else if isN 2 w then (if w = 0 then nI (wg V (2 ^ F - 1)).1 else nI (wg V (2 ^ F - 1)).2) else -1
theorem wg_lt {V : Nat → Nat} {b : Nat} (h : ∀ S, S < 32 → V S < b) : ∀ m, m < 32 → (wg V m).1 < b ∧ (wg V m).2 ≤ m
  | 0, hm => ⟨h 0 hm, Nat.le_refl _⟩
  | m + 1, hm => by
    have := wg_lt h m (by omega)
    rw [wg]
    split
    · exact ⟨h _ hm, Nat.le_refl _⟩
    · exact ⟨this.1, by omega⟩
set_option maxHeartbeats 1000000 in
theorem l_Model_cheapest (hS : MS n le nu lf rt nm mc (M 3)) (hw : WF n le nu lf rt z) (hA : ∀ k, k < n → AKk le nu lf rt ak k) (ht : ∀ k, k < n → TPk le lf rt z tp k) (hmk : MOK mc) (h0 : 0 < n) {V : Nat → Nat} (hV : ∀ S, S < 32 → IsSum n mc le lf rt z tp ak (shL n lf tp ak) S (V S)) {o1 : Option Value} {P : Option Value → nw_M → Prop} (hP : ∀ (N2 : nw_M) (o5 : Option Value), (∀ e, e ≠ 11 → e ≠ 12 → e ≠ 13 → N2 e = M e) → RJ G LM m_Model_cheapest 5 P 90 [some (.ref (G.2.2 0)), o1, some (.int (nI (wg V (2 ^ (shL n lf tp ak).length - 1)).2)), some (.int (nI (wg V (2 ^ (shL n lf tp ak).length - 1)).1)), some (.int (nI (2 ^ (shL n lf tp ak).length))), o5] [] N2) : ∀ (d m : Nat) (N : nw_M) (o5 : Option Value), 1 ≤ m → m + d = 2 ^ (shL n lf tp ak).length → (∀ e, e ≠ 11 → e ≠ 12 → e ≠ 13 → N e = M e) → RJ G LM m_Model_cheapest 5 P 39 [some (.ref (G.2.2 0)), o1, some (.int (nI (wg V (m - 1)).2)), some (.int (nI (wg V (m - 1)).1)), some (.int (nI m)), o5] [] N := by
  have hn := hw.1
  have h5 := shL_len (n := n) (lf := lf) (tp := tp) (ak := ak)
  have hF : 2 ^ (shL n lf tp ak).length ≤ 32 := Nat.pow_le_pow_right (n := 2) (by decide) h5
  have hsh := shl32 (shL n lf tp ak).length (by omega)
  have hVb : ∀ S, S < 32 → V S < 2 ^ 30 := fun S hS => sum_lt hw hmk h0 (hV S hS)
  intro d
  induction d with
  | zero =>
    intro m N o5 h1 hd hI
    have hSx : MS n le nu lf rt nm mc (N 3) := by rw [hI 3 (by decide) (by decide) (by decide)]; exact hS
    simp only [Nat.add_zero] at hd
    refine r_iload d_Model_cheapest_39 rfl ?_
    refine r_iconst 1 d_Model_cheapest_41 ic_1 ?_
    refine r_aload_n (i := 0) d_Model_cheapest_42 rfl rfl ?_
    refine r_V0 v_Model_sharedMany w_1194 lm_0 (c_Model_sharedMany hSx hw hA ht) (Nat.le_of_ble_eq_true rfl) (Nat.le_of_ble_eq_true rfl) d_Model_cheapest_43 ?_
    refine r_ishl d_Model_cheapest_46 ?_
    refine r_nrm hsh ?_
    refine r_icmp_ge 90 d_Model_cheapest_47 (by decide) (fun _ => ?_) (fun h9 => absurd (by rw [hd]; exact Int32.le_refl _) h9)
    have := hP N o5 hI
    rw [← hd] at this
    exact this
  | succ d ih =>
    intro m N o5 h1 hd hI
    have hSx : MS n le nu lf rt nm mc (N 3) := by rw [hI 3 (by decide) (by decide) (by decide)]; exact hS
    obtain ⟨lv, C, hC, hv⟩ := hV m (by omega)
    have hb := wg_lt hVb (m - 1) (by omega)
    have hVm := hVb m (by omega)
    have es : wg V m = if V m < (wg V (m - 1)).1 then (V m, m) else wg V (m - 1) := by
      obtain ⟨p, rfl⟩ : ∃ p, m = p + 1 := ⟨m - 1, by omega⟩
      rfl
    refine r_iload d_Model_cheapest_39 rfl ?_
    refine r_iconst 1 d_Model_cheapest_41 ic_1 ?_
    refine r_aload_n (i := 0) d_Model_cheapest_42 rfl rfl ?_
    refine r_V0 v_Model_sharedMany w_1194 lm_0 (c_Model_sharedMany hSx hw hA ht) (Nat.le_of_ble_eq_true rfl) (Nat.le_of_ble_eq_true rfl) d_Model_cheapest_43 ?_
    refine r_ishl d_Model_cheapest_46 ?_
    refine r_nrm hsh ?_
    refine r_icmp_ge 90 d_Model_cheapest_47 (by decide) (fun h_47 => ?_) (fun h_47 => ?_)
    · skip
      exact absurd h_47 (nI_ge (by omega) (by omega))
    · skip
      refine r_aload_n (i := 0) d_Model_cheapest_50 rfl rfl ?_
      refine r_iload d_Model_cheapest_51 rfl ?_
      refine r_W1 v_Model_costBySet w_1187 lm_0 (c_Model_costBySet hSx hw hA ht hmk (S := m) (by omega) (by omega) hC h0) (Nat.le_of_ble_eq_true rfl) (Nat.le_of_ble_eq_true rfl) d_Model_cheapest_53 (fun v N1 hv1 => ?_)
      obtain ⟨rfl, f1⟩ := hv1
      rw [← hv]
      have hI1 : ∀ e, e ≠ 11 → e ≠ 12 → e ≠ 13 → N1 e = M e := fun e e1 e2 e3 => (f1 e e1 e2 e3).trans (hI e e1 e2 e3)
      refine r_istore d_Model_cheapest_56 (Nat.le_of_ble_eq_true rfl) rfl ?_
      dsimp only [List.set]
      refine r_iload d_Model_cheapest_58 rfl ?_
      refine r_iload_n (i := 3) d_Model_cheapest_60 rfl rfl ?_
      refine r_icmp_ge 69 d_Model_cheapest_61 (by decide) (fun h_61 => ?_) (fun h_61 => ?_)
      · skip
        refine r_iload_n (i := 2) d_Model_cheapest_69 rfl rfl ?_
        refine r_istore_n (i := 2) d_Model_cheapest_70 rfl (Nat.le_of_ble_eq_true rfl) rfl ?_
        dsimp only [List.set]
        refine r_iload d_Model_cheapest_71 rfl ?_
        refine r_iload_n (i := 3) d_Model_cheapest_73 rfl rfl ?_
        refine r_icmp_ge 82 d_Model_cheapest_74 (by decide) (fun h_74 => ?_) (fun h_74 => ?_)
        · skip
          refine r_iload_n (i := 3) d_Model_cheapest_82 rfl rfl ?_
          refine r_istore_n (i := 3) d_Model_cheapest_83 rfl (Nat.le_of_ble_eq_true rfl) rfl ?_
          dsimp only [List.set]
          refine r_iinc d_Model_cheapest_84 rfl (nI_inc _) (Nat.le_of_ble_eq_true rfl) rfl ?_
          dsimp only [List.set]
          refine r_goto 39 d_Model_cheapest_87 (by decide) ?_
          have q : ¬ V m < (wg V (m - 1)).1 := fun q => nI_ge q (by omega) h_61
          have := ih (m + 1) N1 (some (.int (nI (V m)))) (by omega) (by omega) hI1
          rw [show m + 1 - 1 = m by omega, es, if_neg q] at this
          exact this
        · first | exact absurd h_74 h_61 | exact absurd h_61 h_74
      · skip
        refine r_iload d_Model_cheapest_64 rfl ?_
        refine r_goto 70 d_Model_cheapest_66 (by decide) ?_
        refine r_istore_n (i := 2) d_Model_cheapest_70 rfl (Nat.le_of_ble_eq_true rfl) rfl ?_
        dsimp only [List.set]
        refine r_iload d_Model_cheapest_71 rfl ?_
        refine r_iload_n (i := 3) d_Model_cheapest_73 rfl rfl ?_
        refine r_icmp_ge 82 d_Model_cheapest_74 (by decide) (fun h_74 => ?_) (fun h_74 => ?_)
        · first | exact absurd h_74 h_61 | exact absurd h_61 h_74
        · skip
          refine r_iload d_Model_cheapest_77 rfl ?_
          refine r_goto 83 d_Model_cheapest_79 (by decide) ?_
          refine r_istore_n (i := 3) d_Model_cheapest_83 rfl (Nat.le_of_ble_eq_true rfl) rfl ?_
          dsimp only [List.set]
          refine r_iinc d_Model_cheapest_84 rfl (nI_inc _) (Nat.le_of_ble_eq_true rfl) rfl ?_
          dsimp only [List.set]
          refine r_goto 39 d_Model_cheapest_87 (by decide) ?_
          have q : V m < (wg V (m - 1)).1 := by
            rcases Nat.lt_or_ge (V m) (wg V (m - 1)).1 with q | q
            · exact q
            · exact absurd (nI_le q (by omega)) h_61
          have := ih (m + 1) N1 (some (.int (nI (V m)))) (by omega) (by omega) hI1
          rw [show m + 1 - 1 = m by omega, es, if_pos q] at this
          exact this

theorem c_Model_cheapest (hS : MS n le nu lf rt nm mc (M 3)) (hw : WF n le nu lf rt z) (hA : ∀ k, k < n → AKk le nu lf rt ak k) (ht : ∀ k, k < n → TPk le lf rt z tp k) (hmk : MOK mc) {V : Nat → Nat} (hV : 0 < n → ∀ S, S < 32 → IsSum n mc le lf rt z tp ak (shL n lf tp ak) S (V S)) (w : Int32) : CJ G LM m_Model_cheapest 5 [.ref (G.2.2 0), .int w] M (fun v N => v = some (.int (chA n V (shL n lf tp ak).length w)) ∧ MF M N (M 0 12) (M 0 13)) := by
  have hn := hw.1
  have hS0 : MS n le nu lf rt nm mc (m0 M 3) := hS
  have h5 := shL_len (n := n) (lf := lf) (tp := tp) (ak := ak)
  refine CJ_of2 (n0 := 4) (by decide) rfl rfl ?_
  simp only [List.map_cons, List.map_nil, List.cons_append, List.nil_append, List.reduceReplicate]
  refine r_aload_n (i := 0) d_Model_cheapest_0 rfl rfl ?_
  refine r_iconst 0 d_Model_cheapest_1 ic_0 ?_
  refine r_puti nf_Model_75 nfin_Model_0 lm_0 rfl d_Model_cheapest_2 ?_
  refine r_aload_n (i := 0) d_Model_cheapest_5 rfl rfl ?_
  refine r_getr nf_Model_16 lm_0 rfl d_Model_cheapest_6 ?_
  refine r_iconst 0 d_Model_cheapest_9 ic_0 ?_
  refine r_ia (q := 0) lm_3 rfl (by omega) (by decide) (hS.1) d_Model_cheapest_10 ?_
  refine r_if_ne 17 d_Model_cheapest_11 (by decide) (fun h_11 => ?_) (fun h_11 => ?_)
  · skip
    have h0 : 0 < n := Nat.pos_of_ne_zero (fun q => h_11 (by rw [q]; rfl))
    have hne : n ≠ 0 := by omega
    refine r_iload_n (i := 1) d_Model_cheapest_17 rfl rfl ?_
    refine r_iconst 0 d_Model_cheapest_18 ic_0 ?_
    refine r_iconst 1 d_Model_cheapest_19 ic_1 ?_
    refine r_S3 f_Model_in w_942 (c_Model_in _ _ _ _ ) (Nat.le_of_ble_eq_true rfl) (Nat.le_of_ble_eq_true rfl) d_Model_cheapest_20 ?_
    refine r_if_ne 28 d_Model_cheapest_23 (by decide) (fun h_23 => ?_) (fun h_23 => ?_)
    · skip
      have r1 := (bI_t _).mp h_23
      rw [in1] at r1
      obtain ⟨lv, C, hC, hv⟩ := hV h0 0 (by omega)
      refine r_iconst 0 d_Model_cheapest_28 ic_0 ?_
      refine r_istore_n (i := 2) d_Model_cheapest_29 rfl (Nat.le_of_ble_eq_true rfl) rfl ?_
      dsimp only [List.set]
      refine r_aload_n (i := 0) d_Model_cheapest_30 rfl rfl ?_
      refine r_iconst 0 d_Model_cheapest_31 ic_0 ?_
      refine r_W1 v_Model_costBySet w_1187 lm_0 (c_Model_costBySet (M := m0 M) hS0 hw hA ht hmk (S := 0) (by omega) (Nat.two_pow_pos _) hC h0) (Nat.le_of_ble_eq_true rfl) (Nat.le_of_ble_eq_true rfl) d_Model_cheapest_32 (fun v N1 hv1 => ?_)
      obtain ⟨rfl, f1⟩ := hv1
      rw [← hv]
      refine r_istore_n (i := 3) d_Model_cheapest_35 rfl (Nat.le_of_ble_eq_true rfl) rfl ?_
      dsimp only [List.set]
      refine r_iconst 1 d_Model_cheapest_36 ic_1 ?_
      refine r_istore d_Model_cheapest_37 (Nat.le_of_ble_eq_true rfl) rfl ?_
      dsimp only [List.set]
      refine l_Model_cheapest (M := m0 M) hS0 hw hA ht hmk h0 (hV h0) (fun N2 o5 g2 => ?_) (2 ^ (shL n lf tp ak).length - 1) 1 N1 none (by omega) (by have := Nat.two_pow_pos (shL n lf tp ak).length; omega) f1
      have hf : MF M N2 (M 0 12) (M 0 13) := (MF.th M).tr (RA_mf g2)
      refine r_iload_n (i := 1) d_Model_cheapest_90 rfl rfl ?_
      refine r_if_ne 98 d_Model_cheapest_91 (by decide) (fun h_91 => ?_) (fun h_91 => ?_)
      · skip
        refine r_iload_n (i := 2) d_Model_cheapest_98 rfl rfl ?_
        refine r_iret rfl d_Model_cheapest_99 ?_
        refine ⟨?_, hf⟩
        rw [chA, if_neg hne, r1, if_pos rfl]
        first
          | rw [if_pos h_91]
          | rw [if_neg h_91]
      · skip
        refine r_iload_n (i := 3) d_Model_cheapest_94 rfl rfl ?_
        refine r_goto 99 d_Model_cheapest_95 (by decide) ?_
        refine r_iret rfl d_Model_cheapest_99 ?_
        refine ⟨?_, hf⟩
        rw [chA, if_neg hne, r1, if_pos rfl]
        first
          | rw [if_pos h_91]
          | rw [if_neg h_91]
    · skip
      refine r_iconst (-1) d_Model_cheapest_26 ic_m1 ?_
      refine r_iret rfl d_Model_cheapest_27 ?_
      have q := (bI_f _).mp h_23
      rw [in1] at q
      exact ⟨by rw [chA, if_neg hne, q]; rfl, MF.th M⟩
  · skip
    refine r_bipush (-2) d_Model_cheapest_14 bp_m2 ?_
    refine r_iret rfl d_Model_cheapest_16 ?_
    have n0 : n = 0 := n0_of hn h_11
    exact ⟨by rw [chA, if_pos n0], MF.th M⟩

end MMt
