-- the model: NEED, what is ALIKE, node
section MM3
variable {G : nw_G} {n : Nat} {le nu lf rt nm : Nat → Int32} {mc z : Nat → Nat} {M : nw_M}
theorem c_Model_needAs (hS : MS n le nu lf rt nm mc (M 3)) (hw : WF n le nu lf rt z) {k x : Nat} (hk : k < n) (b : Bool) (hN : lf k ≠ -9 → M 20 k = nI x) : CF G LM m_Model_needAs 2 [.ref (G.2.2 0), .int (nI k), .int (bI b)] M (some (.int (nI (if lf k = -9 then (if b then 0 else 1) else x)))) M := by
  have hn := hw.1
  refine CJ_of (by decide) rfl (Nat.le_of_ble_eq_true rfl) ?_
  refine r_aload_n (i := 0) d_Model_needAs_0 rfl rfl ?_
  refine r_iload_n (i := 1) d_Model_needAs_1 rfl rfl ?_
  refine r_V1 v_Model_isLeaf w_1019 lm_0 (c_Model_isLeaf hS hw hk) (Nat.le_of_ble_eq_true rfl) (Nat.le_of_ble_eq_true rfl) d_Model_needAs_2 ?_
  refine r_if_ne 17 d_Model_needAs_5 (by decide) (fun h_5 => ?_) (fun h_5 => ?_)
  · skip
    refine r_iload_n (i := 2) d_Model_needAs_17 rfl rfl ?_
    refine r_if_eq 25 d_Model_needAs_18 (by decide) (fun h_18 => ?_) (fun h_18 => ?_)
    · skip
      refine r_iconst 1 d_Model_needAs_25 ic_1 ?_
      refine r_iret rfl d_Model_needAs_26 ?_
      refine ⟨?_, rfl⟩
      have q := of_decide_eq_true ((bI_t _).mp h_5)
      rw [if_pos q]
      rw [(bI_f b).mp h_18]
      rfl
    · skip
      refine r_iconst 0 d_Model_needAs_21 ic_0 ?_
      refine r_goto 26 d_Model_needAs_22 (by decide) ?_
      refine r_iret rfl d_Model_needAs_26 ?_
      refine ⟨?_, rfl⟩
      have q := of_decide_eq_true ((bI_t _).mp h_5)
      rw [if_pos q]
      rw [(bI_t b).mp h_18]
      rfl
  · skip
    refine r_aload_n (i := 0) d_Model_needAs_8 rfl rfl ?_
    refine r_getr nf_Model_68 lm_0 rfl d_Model_needAs_9 ?_
    refine r_iload_n (i := 1) d_Model_needAs_12 rfl rfl ?_
    refine r_ia (q := k) lm_20 rfl (by omega) (by decide) (hN (of_decide_eq_false ((bI_f _).mp h_5))) d_Model_needAs_13 ?_
    refine r_goto 26 d_Model_needAs_14 (by decide) ?_
    refine r_iret rfl d_Model_needAs_26 ?_
    refine ⟨?_, rfl⟩
    have q := of_decide_eq_false ((bI_f _).mp h_5)
    rw [if_neg q]

/-- what needOf makes, row by row -/
def FNk (least : Bool) (le lf rt : Nat → Int32) (z f : Nat → Nat) (k : Nat) : Prop := if least then LDk le lf rt z f k else NDk lf rt z f k
def NI (lf : Nat → Int32) (f : Nat → Nat) (j : Nat) (M N : nw_M) : Prop := (∀ e, e ≠ 20 → N e = M e) ∧ ∀ i, i < j → lf i ≠ -9 → N 20 i = nI (f i)
theorem v1_if (lf : Nat → Int32) (f : Nat → Nat) (k : Nat) : (if lf k = -9 then (if false = true then 0 else 1) else f k) = v1 lf f k := rfl
theorem v0_if (lf : Nat → Int32) (f : Nat → Nat) (k : Nat) : (if lf k = -9 then (if true = true then 0 else 1) else f k) = v0 lf f k := rfl
theorem needAs1 (hS : MS n le nu lf rt nm mc (M 3)) (hw : WF n le nu lf rt z) {f : Nat → Nat} {j k : Nat} {N : nw_M} (hN : NI lf f j M N) (hk : k < j) (hj : j < n) : CF G LM m_Model_needAs 2 [.ref (G.2.2 0), .int (nI k), .int 0] N (some (.int (nI (v1 lf f k)))) N := by
  have h := c_Model_needAs (G := G) (M := N) (n := n) (le := le) (nu := nu) (lf := lf) (rt := rt) (nm := nm) (mc := mc) (by rw [hN.1 3 (by decide)]; exact hS) hw (k := k) (x := f k) (by omega) false (hN.2 k hk)
  exact h
theorem needAs0 (hS : MS n le nu lf rt nm mc (M 3)) (hw : WF n le nu lf rt z) {f : Nat → Nat} {j k : Nat} {N : nw_M} (hN : NI lf f j M N) (hk : k < j) (hj : j < n) : CF G LM m_Model_needAs 2 [.ref (G.2.2 0), .int (nI k), .int 1] N (some (.int (nI (v0 lf f k)))) N := by
  have h := c_Model_needAs (G := G) (M := N) (n := n) (le := le) (nu := nu) (lf := lf) (rt := rt) (nm := nm) (mc := mc) (by rw [hN.1 3 (by decide)]; exact hS) hw (k := k) (x := f k) (by omega) true (hN.2 k hk)
  exact h
theorem NI.put {f : Nat → Nat} {j : Nat} {N : nw_M} {x : Int32} (h : NI lf f j M N) (hx : x = nI (f j)) : NI lf f (j + 1) M (ms N 20 (upd (N 20) j x)) := by
  refine ⟨fun e he => by rw [ms_ne _ _ he]; exact h.1 e he, fun i hi hl => ?_⟩
  rw [ms_same]
  by_cases q : i = j
  · subst q; rw [upd_at]; exact hx
  · rw [upd_ne _ _ q]; exact h.2 i (by omega) hl
theorem NI.skip {f : Nat → Nat} {j : Nat} {N : nw_M} (h : NI lf f j M N) (hl : lf j = -9) : NI lf f (j + 1) M N := ⟨h.1, fun i hi hq => by
  by_cases q : i = j
  · subst q; exact absurd hl hq
  · exact h.2 i (by omega) hq⟩
theorem leaf_le (hw : WF n le nu lf rt z) {k : Nat} (hk : k < n) (h : le k = 126) : lf k ≠ -9 ∧ rt k = -9 := by
  have hn := hw.1
  rcases hw.2 k hk with ⟨h1, -, -, h4⟩ | ⟨-, -, h1, h2, h3, -⟩ | ⟨h1, -⟩
  · rcases h4 with ⟨h4, -⟩ | ⟨c, hc, h4, -⟩
    · rw [h] at h4; exact absurd h4 (by decide)
    · rw [h] at h4
      have : ∀ c, c < 8 → (126 : Int32) ≠ nI (97 + c) := by decide
      exact absurd h4 (this c hc)
  · exact ⟨by rw [h2]; exact nI_ne9 (by omega), h3⟩
  · rw [h] at h1; exact absurd h1 (by decide)
theorem not126 (hw : WF n le nu lf rt z) {k : Nat} (hk : k < n) (h : le k ≠ 126) (hl : lf k ≠ -9) : rt k ≠ -9 := fun hr => h (hw.single hk hl hr).1
set_option maxHeartbeats 1000000 in
theorem l_Model_needOf (hS : MS n le nu lf rt nm mc (M 3)) (hw : WF n le nu lf rt z) {k : Nat} (hk : k < n) (least : Bool) {f : Nat → Nat} (hf : ∀ j, j < n → FNk least le lf rt z f j) (hb : ∀ j, j < n → v1 lf f j < 2 ^ 30 ∧ v0 lf f j < 2 ^ 30) {P : Option Value → nw_M → Prop} (hP : ∀ N, (∀ e, e ≠ 20 → N e = M e) → P (some (.int (nI (nv lf rt f n k)))) N) : ∀ (d j : Nat) (o4 o5 o6 o7 : Option Value) (N : nw_M), j + d = k + 1 → NI lf f j M N → RJ G LM m_Model_needOf 3 P 2 [some (.ref (G.2.2 0)), some (.int (nI k)), some (.int (bI least)), some (.int (nI j)), o4, o5, o6, o7] [] N := by
  have hn := hw.1
  intro d
  induction d with
  | zero =>
    intro j o4 o5 o6 o7 N hj hN
    simp only [Nat.add_zero] at hj
    subst hj
    have hS2 : MS n le nu lf rt nm mc (N 3) := by rw [hN.1 3 (by decide)]; exact hS
    refine r_iload_n (i := 3) d_Model_needOf_2 rfl rfl ?_
    refine r_iload_n (i := 1) d_Model_needOf_3 rfl rfl ?_
    refine r_icmp_gt 148 d_Model_needOf_4 (by decide) (fun _ => ?_) (fun h9 => absurd (nI_lt (by omega) (by omega)) h9)
    refine r_aload_n (i := 0) d_Model_needOf_148 rfl rfl ?_
    refine r_iload_n (i := 1) d_Model_needOf_149 rfl rfl ?_
    refine r_aload_n (i := 0) d_Model_needOf_150 rfl rfl ?_
    refine r_iload_n (i := 1) d_Model_needOf_151 rfl rfl ?_
    refine r_V1 v_Model_isRight w_1032 lm_0 (c_Model_isRight hS2 hw hk) (Nat.le_of_ble_eq_true rfl) (Nat.le_of_ble_eq_true rfl) d_Model_needOf_152 ?_
    refine r_V2 v_Model_needAs w_1015 lm_0 (c_Model_needAs hS2 hw hk _ (hN.2 k (by omega))) (Nat.le_of_ble_eq_true rfl) (Nat.le_of_ble_eq_true rfl) d_Model_needOf_155 ?_
    refine r_iret rfl d_Model_needOf_158 ?_
    have := hP N hN.1
    unfold nv at this
    by_cases q : (k + 1 < n ∧ rt (k + 1) ≠ -9)
    · rw [if_pos q] at this
      rw [decide_eq_true q]
      exact this
    · rw [if_neg q] at this
      rw [decide_eq_false q]
      exact this
  | succ d ih =>
    intro j o4 o5 o6 o7 N hj hN
    have hS2 : MS n le nu lf rt nm mc (N 3) := by rw [hN.1 3 (by decide)]; exact hS
    refine r_iload_n (i := 3) d_Model_needOf_2 rfl rfl ?_
    refine r_iload_n (i := 1) d_Model_needOf_3 rfl rfl ?_
    refine r_icmp_gt 148 d_Model_needOf_4 (by decide) (fun h_4 => ?_) (fun h_4 => ?_)
    · skip
      exact absurd h_4 (Int32.not_lt.mpr (nI_le (by omega) (by omega)))
    · skip
      refine r_aload_n (i := 0) d_Model_needOf_7 rfl rfl ?_
      refine r_getr nf_Model_16 lm_0 rfl d_Model_needOf_8 ?_
      refine r_bipush 63 d_Model_needOf_11 bp_63 ?_
      refine r_iload_n (i := 3) d_Model_needOf_13 rfl rfl ?_
      refine r_iaddN (a := 63) (b := j) d_Model_needOf_14 rfl rfl ?_
      refine r_ia (q := (63 + j)) lm_3 rfl (by omega) (by decide) ((hS2.glf (j := j) (by omega))) d_Model_needOf_15 ?_
      refine r_istore d_Model_needOf_16 (Nat.le_of_ble_eq_true rfl) rfl ?_
      dsimp only [List.set]
      refine r_aload_n (i := 0) d_Model_needOf_18 rfl rfl ?_
      refine r_getr nf_Model_16 lm_0 rfl d_Model_needOf_19 ?_
      refine r_bipush 94 d_Model_needOf_22 bp_94 ?_
      refine r_iload_n (i := 3) d_Model_needOf_24 rfl rfl ?_
      refine r_iaddN (a := 94) (b := j) d_Model_needOf_25 rfl rfl ?_
      refine r_ia (q := (94 + j)) lm_3 rfl (by omega) (by decide) ((hS2.grt (j := j) (by omega))) d_Model_needOf_26 ?_
      refine r_istore d_Model_needOf_27 (Nat.le_of_ble_eq_true rfl) rfl ?_
      dsimp only [List.set]
      have hSN : N 3 = M 3 := hN.1 3 (by decide)
      refine r_aload_n (i := 0) d_Model_needOf_29 rfl rfl ?_
      refine r_getr nf_Model_16 lm_0 rfl d_Model_needOf_30 ?_
      refine r_iconst 1 d_Model_needOf_33 ic_1 ?_
      refine r_iload_n (i := 3) d_Model_needOf_34 rfl rfl ?_
      refine r_iaddN (a := 1) (b := j) d_Model_needOf_35 rfl rfl ?_
      refine r_ia (q := (1 + j)) lm_3 rfl (by omega) (by decide) ((hS2.gle (j := j) (by omega))) d_Model_needOf_36 ?_
      refine r_bipush 126 d_Model_needOf_37 bp_126 ?_
      refine r_icmp_ne 58 d_Model_needOf_39 (by decide) (fun h_39 => ?_) (fun h_39 => ?_)
      · skip
        refine r_aload_n (i := 0) d_Model_needOf_58 rfl rfl ?_
        refine r_iload_n (i := 3) d_Model_needOf_59 rfl rfl ?_
        refine r_V1 v_Model_isLeaf w_1019 lm_0 (c_Model_isLeaf hS2 hw (show j < n by omega)) (Nat.le_of_ble_eq_true rfl) (Nat.le_of_ble_eq_true rfl) d_Model_needOf_60 ?_
        refine r_if_ne 142 d_Model_needOf_63 (by decide) (fun h_63 => ?_) (fun h_63 => ?_)
        · skip
          refine r_iinc d_Model_needOf_142 rfl (nI_inc _) (Nat.le_of_ble_eq_true rfl) rfl ?_
          dsimp only [List.set]
          refine r_goto 2 d_Model_needOf_145 (by decide) ?_
          refine ih (j + 1) _ _ _ _ _ (by omega) (hN.skip ?_)
          exact of_decide_eq_true ((bI_t _).mp h_63)
        · skip
          have hl := of_decide_eq_false ((bI_f _).mp h_63)
          have hr := not126 hw (by omega) h_39 hl
          have pr := hw.pair (by omega) hr
          obtain ⟨R, hR⟩ : ∃ R, R = j - 1 := ⟨_, rfl⟩
          obtain ⟨Lc, hLc⟩ : ∃ Lc, Lc = j - 1 - z (j - 1) := ⟨_, rfl⟩
          have hRj : R < n := by omega
          have hLj : Lc < n := by omega
          have eL : lf j = nI Lc := by rw [hLc]; exact pr.2.2.2.2.2.1
          have eR : rt j = nI R := by rw [hR]; exact pr.2.2.2.1
          rw [eL, eR]
          refine r_aload_n (i := 0) d_Model_needOf_66 rfl rfl ?_
          refine r_iload d_Model_needOf_67 rfl ?_
          refine r_iconst 0 d_Model_needOf_69 ic_0 ?_
          refine r_V2 v_Model_needAs w_1015 lm_0 (needAs1 hS hw hN (show Lc < j by omega) (by omega)) (Nat.le_of_ble_eq_true rfl) (Nat.le_of_ble_eq_true rfl) d_Model_needOf_70 ?_
          refine r_aload_n (i := 0) d_Model_needOf_73 rfl rfl ?_
          refine r_iload d_Model_needOf_74 rfl ?_
          refine r_iconst 1 d_Model_needOf_76 ic_1 ?_
          refine r_V2 v_Model_needAs w_1015 lm_0 (needAs0 hS hw hN (show R < j by omega) (by omega)) (Nat.le_of_ble_eq_true rfl) (Nat.le_of_ble_eq_true rfl) d_Model_needOf_77 ?_
          refine r_S2 f_Model_needs w_1026 (c_Model_needs _ _ _ ) (Nat.le_of_ble_eq_true rfl) (Nat.le_of_ble_eq_true rfl) d_Model_needOf_80 ?_
          refine r_istore d_Model_needOf_83 (Nat.le_of_ble_eq_true rfl) rfl ?_
          dsimp only [List.set]
          refine r_aload_n (i := 0) d_Model_needOf_85 rfl rfl ?_
          refine r_iload d_Model_needOf_86 rfl ?_
          refine r_iconst 0 d_Model_needOf_88 ic_0 ?_
          refine r_V2 v_Model_needAs w_1015 lm_0 (needAs1 hS hw hN (show R < j by omega) (by omega)) (Nat.le_of_ble_eq_true rfl) (Nat.le_of_ble_eq_true rfl) d_Model_needOf_89 ?_
          refine r_aload_n (i := 0) d_Model_needOf_92 rfl rfl ?_
          refine r_iload d_Model_needOf_93 rfl ?_
          refine r_iconst 1 d_Model_needOf_95 ic_1 ?_
          refine r_V2 v_Model_needAs w_1015 lm_0 (needAs0 hS hw hN (show Lc < j by omega) (by omega)) (Nat.le_of_ble_eq_true rfl) (Nat.le_of_ble_eq_true rfl) d_Model_needOf_96 ?_
          refine r_S2 f_Model_needs w_1026 (c_Model_needs _ _ _ ) (Nat.le_of_ble_eq_true rfl) (Nat.le_of_ble_eq_true rfl) d_Model_needOf_99 ?_
          refine r_istore d_Model_needOf_102 (Nat.le_of_ble_eq_true rfl) rfl ?_
          dsimp only [List.set]
          refine r_aload_n (i := 0) d_Model_needOf_104 rfl rfl ?_
          refine r_getr nf_Model_68 lm_0 rfl d_Model_needOf_105 ?_
          refine r_iload_n (i := 3) d_Model_needOf_108 rfl rfl ?_
          refine r_iload_n (i := 2) d_Model_needOf_109 rfl rfl ?_
          refine r_if_eq 139 d_Model_needOf_110 (by decide) (fun h_110 => ?_) (fun h_110 => ?_)
          · skip
            refine r_iload d_Model_needOf_139 rfl ?_
            refine r_ias (q := j) lm_20 rfl (by omega) (by decide) d_Model_needOf_141 ?_
            refine r_iinc d_Model_needOf_142 rfl (nI_inc _) (Nat.le_of_ble_eq_true rfl) rfl ?_
            dsimp only [List.set]
            refine r_goto 2 d_Model_needOf_145 (by decide) ?_
            refine ih (j + 1) _ _ _ _ _ (by omega) (hN.put ?_)
            have hfj := hf j (by omega)
            unfold FNk at hfj
            rw [(bI_f least).mp h_110] at hfj
            rw [hfj hl, if_neg hr, jI_nI (hb Lc hLj).1 (hb R hRj).2, hLc, hR]
          · skip
            refine r_aload_n (i := 0) d_Model_needOf_113 rfl rfl ?_
            refine r_getr nf_Model_16 lm_0 rfl d_Model_needOf_114 ?_
            refine r_iconst 1 d_Model_needOf_117 ic_1 ?_
            refine r_iload_n (i := 3) d_Model_needOf_118 rfl rfl ?_
            refine r_iaddN (a := 1) (b := j) d_Model_needOf_119 rfl rfl ?_
            refine r_ia (q := (1 + j)) lm_3 rfl (by omega) (by decide) ((hS2.gle (j := j) (by omega))) d_Model_needOf_120 ?_
            refine r_S1 f_Model_commutes w_1029 (c_Model_commutes _ _ ) (Nat.le_of_ble_eq_true rfl) (Nat.le_of_ble_eq_true rfl) d_Model_needOf_121 ?_
            refine r_if_eq 139 d_Model_needOf_124 (by decide) (fun h_124 => ?_) (fun h_124 => ?_)
            · skip
              refine r_iload d_Model_needOf_139 rfl ?_
              refine r_ias (q := j) lm_20 rfl (by omega) (by decide) d_Model_needOf_141 ?_
              refine r_iinc d_Model_needOf_142 rfl (nI_inc _) (Nat.le_of_ble_eq_true rfl) rfl ?_
              dsimp only [List.set]
              refine r_goto 2 d_Model_needOf_145 (by decide) ?_
              refine ih (j + 1) _ _ _ _ _ (by omega) (hN.put ?_)
              have hfj := hf j (by omega)
              unfold FNk at hfj
              rw [(bI_t least).mp h_110] at hfj
              rw [hfj hl, if_neg hr, if_neg (fun q => by rw [(bI_f _).mp h_124] at q; cases q), jI_nI (hb Lc hLj).1 (hb R hRj).2, hLc, hR]
            · skip
              refine r_iload d_Model_needOf_127 rfl ?_
              refine r_iload d_Model_needOf_129 rfl ?_
              refine r_icmp_ge 139 d_Model_needOf_131 (by decide) (fun h_131 => ?_) (fun h_131 => ?_)
              · skip
                refine r_iload d_Model_needOf_139 rfl ?_
                refine r_ias (q := j) lm_20 rfl (by omega) (by decide) d_Model_needOf_141 ?_
                refine r_iinc d_Model_needOf_142 rfl (nI_inc _) (Nat.le_of_ble_eq_true rfl) rfl ?_
                dsimp only [List.set]
                refine r_goto 2 d_Model_needOf_145 (by decide) ?_
                refine ih (j + 1) _ _ _ _ _ (by omega) (hN.put ?_)
                have hfj := hf j (by omega)
                unfold FNk at hfj
                rw [(bI_t least).mp h_110] at hfj
                rw [hfj hl, if_neg hr, if_pos ((bI_t _).mp h_124), jI_nI (hb Lc hLj).1 (hb R hRj).2, ← hLc, ← hR]
                rw [jI_nI (hb Lc hLj).1 (hb R hRj).2, jI_nI (hb R hRj).1 (hb Lc hLj).2] at h_131
                have j1 := jn_le (v1 lf f Lc) (v0 lf f R)
                have j2 := jn_le (v1 lf f R) (v0 lf f Lc)
                have b1 := hb R hRj
                have b2 := hb Lc hLj
                rw [Nat.min_eq_left]
                exact Nat.le_of_not_lt (fun q => nI_ge q (by omega) h_131)
              · skip
                refine r_iload d_Model_needOf_134 rfl ?_
                refine r_goto 141 d_Model_needOf_136 (by decide) ?_
                refine r_ias (q := j) lm_20 rfl (by omega) (by decide) d_Model_needOf_141 ?_
                refine r_iinc d_Model_needOf_142 rfl (nI_inc _) (Nat.le_of_ble_eq_true rfl) rfl ?_
                dsimp only [List.set]
                refine r_goto 2 d_Model_needOf_145 (by decide) ?_
                refine ih (j + 1) _ _ _ _ _ (by omega) (hN.put ?_)
                have hfj := hf j (by omega)
                unfold FNk at hfj
                rw [(bI_t least).mp h_110] at hfj
                rw [hfj hl, if_neg hr, if_pos ((bI_t _).mp h_124), jI_nI (hb R hRj).1 (hb Lc hLj).2, ← hLc, ← hR]
                rw [jI_nI (hb Lc hLj).1 (hb R hRj).2, jI_nI (hb R hRj).1 (hb Lc hLj).2] at h_131
                have j1 := jn_le (v1 lf f Lc) (v0 lf f R)
                have j2 := jn_le (v1 lf f R) (v0 lf f Lc)
                have b1 := hb R hRj
                have b2 := hb Lc hLj
                rw [Nat.min_eq_right]
                exact Nat.le_of_not_lt (fun q => h_131 (nI_le (by omega) (by omega)))
      · skip
        have hl := (leaf_le hw (by omega) h_39).1
        have hr := (leaf_le hw (by omega) h_39).2
        have sg := hw.single (by omega) hl hr
        refine r_aload_n (i := 0) d_Model_needOf_42 rfl rfl ?_
        refine r_getr nf_Model_68 lm_0 rfl d_Model_needOf_43 ?_
        refine r_iload_n (i := 3) d_Model_needOf_46 rfl rfl ?_
        refine r_aload_n (i := 0) d_Model_needOf_47 rfl rfl ?_
        rw [sg.2.2.2.1]
        refine r_iload d_Model_needOf_48 rfl ?_
        refine r_iconst 0 d_Model_needOf_50 ic_0 ?_
        refine r_V2 v_Model_needAs w_1015 lm_0 (needAs1 hS hw hN (show j - 1 < j by omega) (by omega)) (Nat.le_of_ble_eq_true rfl) (Nat.le_of_ble_eq_true rfl) d_Model_needOf_51 ?_
        refine r_ias (q := j) lm_20 rfl (by omega) (by decide) d_Model_needOf_54 ?_
        refine r_goto 142 d_Model_needOf_55 (by decide) ?_
        refine r_iinc d_Model_needOf_142 rfl (nI_inc _) (Nat.le_of_ble_eq_true rfl) rfl ?_
        dsimp only [List.set]
        refine r_goto 2 d_Model_needOf_145 (by decide) ?_
        refine ih (j + 1) _ _ _ _ _ (by omega) (hN.put ?_)
        have hfj := hf j (by omega)
        unfold FNk at hfj
        have e : f j = v1 lf f (j - 1) := by
          cases least
          · rw [if_neg (by decide)] at hfj
            rw [hfj hl, if_pos hr]
          · rw [if_pos rfl] at hfj
            rw [hfj hl, if_pos hr]
        rw [e]

theorem c_Model_needOf (hS : MS n le nu lf rt nm mc (M 3)) (hw : WF n le nu lf rt z) {k : Nat} (hk : k < n) (least : Bool) {f : Nat → Nat} (hf : ∀ j, j < n → FNk least le lf rt z f j) (hb : ∀ j, j < n → v1 lf f j < 2 ^ 30 ∧ v0 lf f j < 2 ^ 30) : CJ G LM m_Model_needOf 3 [.ref (G.2.2 0), .int (nI k), .int (bI least)] M (fun v N => v = some (.int (nI (nv lf rt f n k))) ∧ ∀ e, e ≠ 20 → N e = M e) := by
  refine CJ_of2 (n0 := 5) (by decide) rfl rfl ?_
  simp only [List.map_cons, List.map_nil, List.cons_append, List.nil_append, List.reduceReplicate]
  refine r_iconst 0 d_Model_needOf_0 ic_0 ?_
  refine r_istore_n (i := 3) d_Model_needOf_1 rfl (Nat.le_of_ble_eq_true rfl) rfl ?_
  dsimp only [List.set]
  exact l_Model_needOf hS hw hk least hf hb (fun N h => ⟨rfl, h⟩) (k + 1) 0 _ _ _ _ _ (by omega) ⟨fun _ _ => rfl, fun i hi => absurd hi (Nat.not_lt_zero i)⟩

end MM3
