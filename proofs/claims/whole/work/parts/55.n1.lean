-- the class: NeedCode, what the calls have in common
section NN1
variable {G : nw_G} {n : Nat} {z : Nat → Nat} {tp : Nat → Bool} {nd ld ak mc : Nat → Nat} {C : Nat → Nat → Nat} {Q : nP} {V : Nat → Nat} {M N : nw_M}
theorem c2_Tree_has (h : M 11 9 = nI n) (k : Int32) : CF G LC m_Tree_has 0 [.ref (G.2.2 11), .int k] M (some (.int (bI (isN n k)))) M := by
  have := c_Tree_has (G := G) tree_11 k M
  rw [h] at this
  exact this
theorem c2_Tree_root (h : M 11 9 = nI n) (h0 : 0 < n) : CF G LC m_Tree_root 0 [.ref (G.2.2 11)] M (some (.int (nI (n - 1)))) M := CF_eq (c_Tree_root tree_11 M) (by rw [h, nI_m1 h0]) rfl
theorem c2_Tree_isEmpty (h : M 11 9 = nI n) (hn : n ≤ 31) : CF G LC m_Tree_isEmpty 0 [.ref (G.2.2 11)] M (some (.int (bI (decide (n = 0))))) M := by
  refine CF_eq (c_Tree_isEmpty tree_11 M) ?_ rfl
  rw [h]
  congr 3
  by_cases e : n = 0
  · rw [e]; rfl
  · rw [decide_eq_false e]
    exact beq_false_of_ne (fun q => e (n0_of hn q))
theorem c_Need_registers {r : Nat} (h : M 33 0 = nI r) : CF G LC m_Need_registers 1 [.ref (G.2.2 0)] M (some (.int (nI r))) M := by
  refine CJ_of2 (n0 := 0) (by decide) rfl rfl ?_
  simp only [List.map_cons, List.map_nil, List.cons_append, List.nil_append, List.reduceReplicate]
  refine r_aload_n (i := 0) d_Need_registers_0 rfl rfl ?_
  refine r_getr nf_Need_28 lc_0 rfl d_Need_registers_1 ?_
  refine r_getr nf_Need_84 image_10.1 rfl d_Need_registers_4 ?_
  refine r_iconst 0 d_Need_registers_7 ic_0 ?_
  refine r_V1 v_Row_get w_580 (isImage.machine image_10).1 (c2_Row_get (k := 0) image_10.machine (by decide) h) (Nat.le_of_ble_eq_true rfl) (Nat.le_of_ble_eq_true rfl) d_Need_registers_8 ?_
  refine r_iret rfl d_Need_registers_11 ?_
  exact ⟨rfl, rfl⟩

theorem isR_iff {i : Int32} : isR mc i = true ↔ (¬ i < 1 ∧ ¬ nI (mc 0) < i) := decide_eq_true_iff
theorem isR_no {i : Int32} (h : i < 1 ∨ nI (mc 0) < i) : isR mc i = false := decide_eq_false (fun q => h.elim q.1 q.2)
theorem isP_no {x : Int32} (h : x < 1 ∨ (9 : Int32) < x) : isP x = false := decide_eq_false (fun q => h.elim q.1 q.2)
theorem isP_yes {x : Int32} (h1 : ¬ x < 1) (h2 : ¬ (9 : Int32) < x) : isP x = true := decide_eq_true ⟨h1, h2⟩
theorem isR_nat {i : Int32} (h : isR mc i = true) (hm : mc 0 ≤ 6) : ∃ a, 1 ≤ a ∧ a ≤ mc 0 ∧ i = nI a := by
  obtain ⟨h1, h2⟩ := isR_iff.mp h
  have h3 : isN (mc 0 + 1) i = true := decide_eq_true ⟨fun q => h1 (Int32.lt_trans q (by decide)), fun q => by
    rw [Int32.le_iff_toInt_le, nI_toInt (by omega)] at q
    rw [Int32.lt_iff_toInt_lt, nI_toInt (by omega)] at h2
    omega⟩
  obtain ⟨a, ha, rfl⟩ := isN_ex h3 (by omega)
  refine ⟨a, ?_, by omega, rfl⟩
  rcases Nat.lt_or_ge 0 a with q | q
  · exact q
  · exact absurd (by rw [show a = 0 by omega]; decide) h1
theorem c_Need_hasRegisters (h : M 33 0 = nI (mc 0)) (i : Int32) : CF G LC m_Need_hasRegisters 2 [.ref (G.2.2 0), .int i] M (some (.int (bI (isR mc i)))) M := by
  refine CJ_of2 (n0 := 0) (by decide) rfl rfl ?_
  simp only [List.map_cons, List.map_nil, List.cons_append, List.nil_append, List.reduceReplicate]
  refine r_iload_n (i := 1) d_Need_hasRegisters_0 rfl rfl ?_
  refine r_iconst 1 d_Need_hasRegisters_1 ic_1 ?_
  refine r_icmp_lt 17 d_Need_hasRegisters_2 (by decide) (fun h_2 => ?_) (fun h_2 => ?_)
  · skip
    refine r_iconst 0 d_Need_hasRegisters_17 ic_0 ?_
    refine r_zret rfl (by decide) d_Need_hasRegisters_18 ?_
    first
      | exact ⟨by rw [isR_no (Or.inl h_2)]; rfl, rfl⟩
      | exact ⟨by rw [isR_no (Or.inr h_10)]; rfl, rfl⟩
      | exact ⟨by rw [isR_iff.mpr ⟨h_2, h_10⟩]; rfl, rfl⟩
  · skip
    refine r_iload_n (i := 1) d_Need_hasRegisters_5 rfl rfl ?_
    refine r_aload_n (i := 0) d_Need_hasRegisters_6 rfl rfl ?_
    refine r_V0 v_Need_registers w_614 lc_0 (c_Need_registers h) (Nat.le_of_ble_eq_true rfl) (Nat.le_of_ble_eq_true rfl) d_Need_hasRegisters_7 ?_
    refine r_icmp_gt 17 d_Need_hasRegisters_10 (by decide) (fun h_10 => ?_) (fun h_10 => ?_)
    · skip
      refine r_iconst 0 d_Need_hasRegisters_17 ic_0 ?_
      refine r_zret rfl (by decide) d_Need_hasRegisters_18 ?_
      first
        | exact ⟨by rw [isR_no (Or.inl h_2)]; rfl, rfl⟩
        | exact ⟨by rw [isR_no (Or.inr h_10)]; rfl, rfl⟩
        | exact ⟨by rw [isR_iff.mpr ⟨h_2, h_10⟩]; rfl, rfl⟩
    · skip
      refine r_iconst 1 d_Need_hasRegisters_13 ic_1 ?_
      refine r_goto 18 d_Need_hasRegisters_14 (by decide) ?_
      refine r_zret rfl (by decide) d_Need_hasRegisters_18 ?_
      first
        | exact ⟨by rw [isR_no (Or.inl h_2)]; rfl, rfl⟩
        | exact ⟨by rw [isR_no (Or.inr h_10)]; rfl, rfl⟩
        | exact ⟨by rw [isR_iff.mpr ⟨h_2, h_10⟩]; rfl, rfl⟩

theorem c_Need_isPrice {L : nw_L} (x : Int32) : CF G L m_Need_isPrice 0 [.int x] M (some (.int (bI (isP x)))) M := by
  refine CJ_of2 (n0 := 0) (by decide) rfl rfl ?_
  simp only [List.map_cons, List.map_nil, List.cons_append, List.nil_append, List.reduceReplicate]
  refine r_iload_n (i := 0) d_Need_isPrice_0 rfl rfl ?_
  refine r_iconst 1 d_Need_isPrice_1 ic_1 ?_
  refine r_icmp_lt 15 d_Need_isPrice_2 (by decide) (fun h_2 => ?_) (fun h_2 => ?_)
  · skip
    refine r_iconst 0 d_Need_isPrice_15 ic_0 ?_
    refine r_zret rfl (by decide) d_Need_isPrice_16 ?_
    first
      | exact ⟨by rw [isP_no (Or.inl h_2)]; rfl, rfl⟩
      | exact ⟨by rw [isP_no (Or.inr h_8)]; rfl, rfl⟩
      | exact ⟨by rw [isP_yes h_2 h_8]; rfl, rfl⟩
  · skip
    refine r_iload_n (i := 0) d_Need_isPrice_5 rfl rfl ?_
    refine r_bipush 9 d_Need_isPrice_6 bp_9 ?_
    refine r_icmp_gt 15 d_Need_isPrice_8 (by decide) (fun h_8 => ?_) (fun h_8 => ?_)
    · skip
      refine r_iconst 0 d_Need_isPrice_15 ic_0 ?_
      refine r_zret rfl (by decide) d_Need_isPrice_16 ?_
      first
        | exact ⟨by rw [isP_no (Or.inl h_2)]; rfl, rfl⟩
        | exact ⟨by rw [isP_no (Or.inr h_8)]; rfl, rfl⟩
        | exact ⟨by rw [isP_yes h_2 h_8]; rfl, rfl⟩
    · skip
      refine r_iconst 1 d_Need_isPrice_11 ic_1 ?_
      refine r_goto 16 d_Need_isPrice_12 (by decide) ?_
      refine r_zret rfl (by decide) d_Need_isPrice_16 ?_
      first
        | exact ⟨by rw [isP_no (Or.inl h_2)]; rfl, rfl⟩
        | exact ⟨by rw [isP_no (Or.inr h_8)]; rfl, rfl⟩
        | exact ⟨by rw [isP_yes h_2 h_8]; rfl, rfl⟩

theorem c0_Need_imageOf : CF G LC m_Need_imageOf 0 [.ref (G.2.2 0), .int 0] M (some (.ref (G.2.2 34))) M := by
  refine CJ_of2 (n0 := 0) (by decide) rfl rfl ?_
  simp only [List.map_cons, List.map_nil, List.cons_append, List.nil_append, List.reduceReplicate]
  refine r_iload_n (i := 1) d_Need_imageOf_0 rfl rfl ?_
  refine r_if_ne 11 d_Need_imageOf_1 (by decide) (fun h_1 => ?_) (fun h_1 => ?_)
  · exact absurd h_1 (by decide)
  · skip
    refine r_aload_n (i := 0) d_Need_imageOf_4 rfl rfl ?_
    refine r_getr nf_Need_32 lc_0 rfl d_Need_imageOf_5 ?_
    refine r_goto 15 d_Need_imageOf_8 (by decide) ?_
    refine r_aret rfl d_Need_imageOf_15 ?_
    exact ⟨rfl, rfl⟩

theorem c1_Need_imageOf : CF G LC m_Need_imageOf 0 [.ref (G.2.2 0), .int 1] M (some (.ref (G.2.2 58))) M := by
  refine CJ_of2 (n0 := 0) (by decide) rfl rfl ?_
  simp only [List.map_cons, List.map_nil, List.cons_append, List.nil_append, List.reduceReplicate]
  refine r_iload_n (i := 1) d_Need_imageOf_0 rfl rfl ?_
  refine r_if_ne 11 d_Need_imageOf_1 (by decide) (fun h_1 => ?_) (fun h_1 => ?_)
  · skip
    refine r_aload_n (i := 0) d_Need_imageOf_11 rfl rfl ?_
    refine r_getr nf_Need_35 lc_0 rfl d_Need_imageOf_12 ?_
    refine r_aret rfl d_Need_imageOf_15 ?_
    exact ⟨rfl, rfl⟩
  · exact absurd h_1 (by decide)

theorem NB.size (h : NB n z tp nd ld ak mc C Q M) : M 11 9 = nI n := h.1.1
theorem NB.n31 (h : NB n z tp nd ld ak mc C Q M) : n ≤ 31 := h.2.1.1.1.1
theorem NB.r6 (h : NB n z tp nd ld ak mc C Q M) : 1 ≤ mc 0 ∧ mc 0 ≤ 6 := ⟨h.2.1.2.1.1, h.2.1.2.1.2.1⟩
theorem NB.cost (h : NB n z tp nd ld ak mc C Q M) {k i : Nat} (hk : k < n) (h1 : 1 ≤ i) (h2 : i ≤ mc 0) : CF G LC m_Costs_costOf 1 [.ref (G.2.2 110), .int (nI k), .int (nI i)] M (some (.int (nI (C k i)))) M := c2_Costs_costOf costs_110 M (by have := h.n31; have := h.r6; omega) ((h.2.2.2 k hk).2 i h1 h2).1
theorem NB.way (h : NB n z tp nd ld ak mc C Q M) {k i : Nat} (hk : k < n) (h1 : 1 ≤ i) (h2 : i ≤ mc 0) : CF G LC m_Costs_wayOf 1 [.ref (G.2.2 110), .int (nI k), .int (nI i)] M (some (.int (nI (wy0 mc (M 13) (M 17) (M 19) z tp C k i)))) M := c2_Costs_wayOf costs_110 M (by have := h.n31; have := h.r6; omega) ((h.2.2.2 k hk).2 i h1 h2).2
theorem c_Need_rootCost (h : NB n z tp nd ld ak mc C Q M) (h0 : 0 < n) : CF G LC m_Need_rootCost 2 [.ref (G.2.2 0)] M (some (.int (nI (C (n - 1) (mc 0))))) M := by
  refine CJ_of2 (n0 := 0) (by decide) rfl rfl ?_
  simp only [List.map_cons, List.map_nil, List.cons_append, List.nil_append, List.reduceReplicate]
  refine r_aload_n (i := 0) d_Need_rootCost_0 rfl rfl ?_
  refine r_getr nf_Need_55 lc_0 rfl d_Need_rootCost_1 ?_
  refine r_aload_n (i := 0) d_Need_rootCost_4 rfl rfl ?_
  refine r_getr nf_Need_28 lc_0 rfl d_Need_rootCost_5 ?_
  refine r_getr nf_Need_101 image_10.1 rfl d_Need_rootCost_8 ?_
  refine r_V0 v_Tree_root w_635 (isImage.tree image_10).1 (c2_Tree_root h.size h0) (Nat.le_of_ble_eq_true rfl) (Nat.le_of_ble_eq_true rfl) d_Need_rootCost_11 ?_
  refine r_aload_n (i := 0) d_Need_rootCost_14 rfl rfl ?_
  refine r_V0 v_Need_registers w_614 lc_0 (c_Need_registers (h.2.2.1 0 (by decide))) (Nat.le_of_ble_eq_true rfl) (Nat.le_of_ble_eq_true rfl) d_Need_rootCost_15 ?_
  refine r_V2 v_Costs_costOf w_618 costs_110.1 (h.cost (by omega) h.r6.1 (Nat.le_refl _)) (Nat.le_of_ble_eq_true rfl) (Nat.le_of_ble_eq_true rfl) d_Need_rootCost_18 ?_
  refine r_iret rfl d_Need_rootCost_21 ?_
  exact ⟨rfl, rfl⟩

theorem c0_Need_tell : CF G LC m_Need_tell 0 [.ref (G.2.2 0), .int 0] M (some (.int (-4))) (ms M 0 (upd (M 0) 13 (M 122 4))) := by
  refine CJ_of2 (n0 := 0) (by decide) rfl rfl ?_
  simp only [List.map_cons, List.map_nil, List.cons_append, List.nil_append, List.reduceReplicate]
  refine r_iload_n (i := 1) d_Need_tell_0 rfl rfl ?_
  refine r_if_ne 18 d_Need_tell_1 (by decide) (fun h_1 => ?_) (fun h_1 => ?_)
  · exact absurd h_1 (by decide)
  · skip
    refine r_aload_n (i := 0) d_Need_tell_4 rfl rfl ?_
    refine r_aload_n (i := 0) d_Need_tell_5 rfl rfl ?_
    refine r_getr nf_Need_69 lc_0 rfl d_Need_tell_6 ?_
    refine r_geti nf_Need_275 lc_122 rfl d_Need_tell_9 ?_
    refine r_puti nf_Need_80 nfin_Need_13 lc_0 rfl d_Need_tell_12 ?_
    refine r_bipush (-4) d_Need_tell_15 bp_m4 ?_
    refine r_iret rfl d_Need_tell_17 ?_
    exact ⟨rfl, rfl⟩

theorem c1_Need_tell : CF G LC m_Need_tell 0 [.ref (G.2.2 0), .int 1] M (some (.int 1)) (ms M 0 (upd (M 0) 12 (M 122 3))) := by
  refine CJ_of2 (n0 := 0) (by decide) rfl rfl ?_
  simp only [List.map_cons, List.map_nil, List.cons_append, List.nil_append, List.reduceReplicate]
  refine r_iload_n (i := 1) d_Need_tell_0 rfl rfl ?_
  refine r_if_ne 18 d_Need_tell_1 (by decide) (fun h_1 => ?_) (fun h_1 => ?_)
  · skip
    refine r_aload_n (i := 0) d_Need_tell_18 rfl rfl ?_
    refine r_aload_n (i := 0) d_Need_tell_19 rfl rfl ?_
    refine r_getr nf_Need_69 lc_0 rfl d_Need_tell_20 ?_
    refine r_geti nf_Need_278 lc_122 rfl d_Need_tell_23 ?_
    refine r_puti nf_Need_218 nfin_Need_12 lc_0 rfl d_Need_tell_26 ?_
    refine r_iconst 1 d_Need_tell_29 ic_1 ?_
    refine r_iret rfl d_Need_tell_30 ?_
    exact ⟨rfl, rfl⟩
  · exact absurd h_1 (by decide)

theorem c2_makeBy (h : NW n z tp nd ld ak mc C Q V M) (h0 : 0 < n) {i : Nat} (h1 : 1 ≤ i) (h2 : i ≤ mc 0) : CJ G LC m_Program_makeBy 100 [.ref (G.2.2 117), .int (nI i), .ref (G.2.2 11), .ref (G.2.2 110)] M (fun v N => v = none ∧ (∀ e, e ≠ 117 → e ≠ 119 → e ≠ 121 → N e = M e) ∧ N 117 4 = nI i ∧ PM N (prg n Q i) (prc n Q i)) := by
  obtain ⟨hB, hV, hS, i0, g1, g2, g3⟩ := h
  have hr := hB.r6
  refine c_Program_makeBy (Rg := mc 0) (z := z) (Wy := wy0 mc (M 13) (M 17) (M 19) z tp C) (Q := Q) ⟨hB.2.1.1.1, hr.2, fun k a hk h1 h2 => ((hB.2.2.2 k hk).2 a h1 h2).2, fun k a hk hp => wy_pair hB.2.1.1.1 hk hp, hB.2.1.2.2.2⟩ h0 hB.size h1 h2 (fun q => ?_)
  have e : i0 = i := (nI_eq (by omega) (by omega)).mp (g1.symm.trans q)
  subst e
  rcases g3 with r | r
  · omega
  · exact r.2.2
theorem c_Need_refresh (hT : TD 11 n z tp nd ld ak M) (hg : GS n (M 13) (M 15) (M 17) (M 19) z tp nd ld ak mc C Q) (hm : ∀ j, j < 5 → M 33 j = nI (mc j)) (hV : VS n mc (M 13) (M 17) (M 19) z tp ak V) : CJ G LC m_Need_refresh 6 [.ref (G.2.2 0)] M (fun v N => v = none ∧ (∀ e, e ≤ 109 → N e = M e) ∧ NW n z tp nd ld ak mc C Q V N) := by
  refine CJ_of2 (n0 := 0) (by decide) rfl rfl ?_
  simp only [List.map_cons, List.map_nil, List.cons_append, List.nil_append, List.reduceReplicate]
  refine r_aload_n (i := 0) d_Need_refresh_0 rfl rfl ?_
  refine r_getr nf_Need_76 lc_0 rfl d_Need_refresh_1 ?_
  refine r_aload_n (i := 0) d_Need_refresh_4 rfl rfl ?_
  refine r_getr nf_Need_28 lc_0 rfl d_Need_refresh_5 ?_
  refine r_getr nf_Need_101 image_10.1 rfl d_Need_refresh_8 ?_
  refine r_W1 v_Shares_find w_516 lc_129 (c_Shares_find (n := n) (le := M 13) (nu := M 15) (rt := M 19) (z := z) (tp := tp) (ak := ak) hT.2.1.1.1 hT.1 rfl (fun j hj => (hT.2.2 j hj).2.1) (fun j hj => (hT.2.2 j hj).2.2.2.2) (gh_ak hT.2.1)) (Nat.le_of_ble_eq_true rfl) (Nat.le_of_ble_eq_true rfl) d_Need_refresh_11 (fun v N1 hv => ?_)
  obtain ⟨rfl, f1, f2, f3⟩ := hv
  have hT1 : TD 11 n z tp nd ld ak N1 := hT.cong (fun e _ _ => f1 e (by omega) (by omega) (by omega))
  refine r_aload_n (i := 0) d_Need_refresh_14 rfl rfl ?_
  refine r_getr nf_Need_55 lc_0 rfl d_Need_refresh_15 ?_
  refine r_aload_n (i := 0) d_Need_refresh_18 rfl rfl ?_
  refine r_getr nf_Need_28 lc_0 rfl d_Need_refresh_19 ?_
  refine r_getr nf_Need_101 image_10.1 rfl d_Need_refresh_22 ?_
  refine r_aload_n (i := 0) d_Need_refresh_25 rfl rfl ?_
  refine r_getr nf_Need_28 lc_0 rfl d_Need_refresh_26 ?_
  refine r_getr nf_Need_84 image_10.1 rfl d_Need_refresh_29 ?_
  refine r_W2 v_Costs_fill w_527 costs_110.1 (c_Costs_fill (n := n) (nu := M 15) (z := z) (tp := tp) (lv := fun k => decide (M 17 k = -9)) (mc := mc) (C := C) (Wy := wy0 mc (M 13) (M 17) (M 19) z tp C) costs_110 tree_11 image_10.machine (by decide) (by decide) hT1.2.1.1 hT1.1 (fun j hj => (hT1.2.2 j hj).2.1) (fun j hj => by rw [f1 33 (by decide) (by decide) (by decide)]; exact hm j hj) hg.2.1 (by show CTb n mc (N1 13) (N1 17) (N1 19) z tp _ _ C; rw [f1 13 (by decide) (by decide) (by decide), f1 17 (by decide) (by decide) (by decide), f1 19 (by decide) (by decide) (by decide)]; exact hg.2.2.1) (fun k i => by show wy0 mc (M 13) (M 17) (M 19) z tp C k i = (cX mc (N1 13) (N1 17) (N1 19) z tp _ C k i).1; rw [f1 13 (by decide) (by decide) (by decide), f1 17 (by decide) (by decide) (by decide), f1 19 (by decide) (by decide) (by decide)]; rfl)) (Nat.le_of_ble_eq_true rfl) (Nat.le_of_ble_eq_true rfl) d_Need_refresh_32 (fun v N2 hv => ?_)
  obtain ⟨rfl, k1, k2⟩ := hv
  have hk : ∀ e, e ≤ 109 → N2 e = M e := fun e he => (k1 e (by omega) (by omega) (by omega) (by omega)).trans (f1 e (by omega) (by omega) (by omega))
  refine r_aload_n (i := 0) d_Need_refresh_35 rfl rfl ?_
  refine r_getr nf_Need_62 lc_0 rfl d_Need_refresh_36 ?_
  refine r_V0 v_Program_forget w_568 lc_117 (c_Program_forget N2) (Nat.le_of_ble_eq_true rfl) (Nat.le_of_ble_eq_true rfl) d_Need_refresh_39 ?_
  refine r_vret rfl d_Need_refresh_42 ?_
  have q : ∀ e, e ≤ 109 → (ms N2 117 (upd (N2 117) 4 0)) e = M e := fun e he => by rw [ms_ne _ _ (by omega)]; exact hk e he
  refine ⟨rfl, q, ⟨hT.cong (fun e _ _ => q e (by omega)), ?_, ?_, ?_⟩, ?_, ⟨?_, ?_⟩, 0, ?_, by omega, Or.inl rfl⟩
  · rw [q 13 (by decide), q 15 (by decide), q 17 (by decide), q 19 (by decide)]; exact hg
  · rw [q 33 (by decide)]; exact hm
  · rw [q 13 (by decide), q 17 (by decide), q 19 (by decide)]
    exact k2
  · rw [q 13 (by decide), q 17 (by decide), q 19 (by decide)]; exact hV
  · rw [q 17 (by decide)]
    unfold SF
    rw [ms_ne _ _ (by decide), ms_ne _ _ (by decide), ms_ne _ _ (by decide), k1 129 (by decide) (by decide) (by decide) (by decide), k1 131 (by decide) (by decide) (by decide) (by decide), k1 133 (by decide) (by decide) (by decide) (by decide)]
    exact f3
  · rw [ms_ne _ _ (by decide), k1 129 (by decide) (by decide) (by decide) (by decide)]
    exact Or.inl f2
  · rw [ms_same, upd_at]; rfl

end NN1
