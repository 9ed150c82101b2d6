-- Costs: fill
section MCosts3
variable {G : nw_G}
def lfM (M : nw_M) (c k r : Nat) (mc : Nat → Nat) : nw_M := (ms (ms (ms M (c + 6) (upd (M (c + 6)) k 1)) (c + 2) (pt (M (c + 2)) (fun _ => nI (mc 1)) (7 * k + 1) r)) (c + 4) (pt (M (c + 4)) (fun _ => 0) (7 * k + 1) r))
theorem l_Costs_countAsLeaf {c : Nat} (hc : isCosts c) {cm bm : Nat} (hm : isRow cm bm 5) (a2 : bm < c) {k : Nat} (hk : k < 31) {M : nw_M} {mc : Nat → Nat} (hmc : ∀ j, j < 5 → M bm j = nI (mc j)) (hmk : MOK mc) {P : Option Value → nw_M → Prop} (hP : P none (lfM M c k (mc 0) mc)) : ∀ (m j : Nat), j + m = mc 0 → RJ G LC m_Costs_countAsLeaf 2 P 11 [some (.ref (G.2.2 c)), some (.ref (G.2.2 cm)), some (.int (nI k)), some (.int (nI (j + 1)))] [] (lfM M c k j mc) := by
  obtain ⟨g0, g1, g2, g3, g4⟩ := mrow hmc
  have h6 := hmk.2.1
  intro m
  induction m with
  | zero =>
    intro j hj
    simp only [Nat.add_zero] at hj
    subst hj
    refine r_iload_n (i := 3) d_Costs_countAsLeaf_11 rfl rfl ?_
    refine r_aload_n (i := 1) d_Costs_countAsLeaf_12 rfl rfl ?_
    refine r_iconst 0 d_Costs_countAsLeaf_13 ic_0 ?_
    refine r_V1 v_Row_get w_541 hm.1 (c_Row_get hm _ _) (Nat.le_of_ble_eq_true rfl) (Nat.le_of_ble_eq_true rfl) d_Costs_countAsLeaf_14 ?_
    have e : lfM M c k (mc 0) mc bm = M bm := by unfold lfM; simp (disch := omega) only [ms_ne]
    rw [e, g0]
    refine r_icmp_gt 38 d_Costs_countAsLeaf_17 (by decide) (fun _ => ?_) (fun h9 => absurd (nI_lt (by omega) (by omega)) h9)
    exact r_vret rfl d_Costs_countAsLeaf_38 hP
  | succ m ih =>
    intro j hj
    have e : lfM M c k j mc bm = M bm := by unfold lfM; simp (disch := omega) only [ms_ne]
    refine r_iload_n (i := 3) d_Costs_countAsLeaf_11 rfl rfl ?_
    refine r_aload_n (i := 1) d_Costs_countAsLeaf_12 rfl rfl ?_
    refine r_iconst 0 d_Costs_countAsLeaf_13 ic_0 ?_
    refine r_V1 v_Row_get w_541 hm.1 (c_Row_get hm _ _ ) (Nat.le_of_ble_eq_true rfl) (Nat.le_of_ble_eq_true rfl) d_Costs_countAsLeaf_14 ?_
    rw [e, g0]
    refine r_icmp_gt 38 d_Costs_countAsLeaf_17 (by decide) (fun h_17 => ?_) (fun h_17 => ?_)
    · skip
      exact absurd h_17 (nI_nlt (by omega) (by omega))
    · skip
      refine r_aload_n (i := 0) d_Costs_countAsLeaf_20 rfl rfl ?_
      refine r_iload_n (i := 2) d_Costs_countAsLeaf_21 rfl rfl ?_
      refine r_iload_n (i := 3) d_Costs_countAsLeaf_22 rfl rfl ?_
      refine r_aload_n (i := 1) d_Costs_countAsLeaf_23 rfl rfl ?_
      refine r_iconst 1 d_Costs_countAsLeaf_24 ic_1 ?_
      refine r_V1 v_Row_get w_541 hm.1 (c_Row_get hm _ _ ) (Nat.le_of_ble_eq_true rfl) (Nat.le_of_ble_eq_true rfl) d_Costs_countAsLeaf_25 ?_
      rw [e, g1]
      refine r_iconst 0 d_Costs_countAsLeaf_28 ic_0 ?_
      refine r_V4 v_Costs_put w_542 hc.1 (c_Costs_put hc k (j + 1) _ _ _ (by omega)) (Nat.le_of_ble_eq_true rfl) (Nat.le_of_ble_eq_true rfl) d_Costs_countAsLeaf_29 ?_
      refine r_iinc d_Costs_countAsLeaf_32 rfl (nI_inc (j + 1)) (Nat.le_of_ble_eq_true rfl) rfl ?_
      refine r_goto 11 d_Costs_countAsLeaf_35 (by decide) ?_
      refine r_eq rfl rfl ?_ (ih (j + 1) (by omega))
      unfold lfM
      simp (disch := omega) only [ms_same, ms_ne]
      rw [show 7 * k + (j + 1) = 7 * k + 1 + j by omega, pt_s _ _ _ _ rfl, pt_s _ _ _ _ rfl]
      funext e
      simp only [ms]
      by_cases e0 : e = c + 2 <;> by_cases e1 : e = c + 4 <;> simp_all

theorem c_Costs_countAsLeaf {c : Nat} (hc : isCosts c) {cm bm : Nat} (hm : isRow cm bm 5) (a2 : bm < c) {k : Nat} (hk : k < 31) {M : nw_M} {mc : Nat → Nat} (hmc : ∀ j, j < 5 → M bm j = nI (mc j)) (hmk : MOK mc) : CF G LC m_Costs_countAsLeaf 2 [.ref (G.2.2 c), .ref (G.2.2 cm), .int (nI k)] M none (lfM M c k (mc 0) mc) := by
  refine CJ_of2 (n0 := 1) (by decide) rfl rfl ?_
  simp only [List.map_cons, List.map_nil, List.cons_append, List.nil_append, List.reduceReplicate]
  refine r_aload_n (i := 0) d_Costs_countAsLeaf_0 rfl rfl ?_
  refine r_getr nf_Costs_23 hc.1 rfl d_Costs_countAsLeaf_1 ?_
  refine r_iload_n (i := 2) d_Costs_countAsLeaf_4 rfl rfl ?_
  refine r_iconst 1 d_Costs_countAsLeaf_5 ic_1 ?_
  refine r_V2 v_Row_put w_540 (isCosts.leaves hc).1 (c_Row_put (isCosts.leaves hc) _ _ _ ) (Nat.le_of_ble_eq_true rfl) (Nat.le_of_ble_eq_true rfl) d_Costs_countAsLeaf_6 ?_
  simp (disch := omega) only [rp_nI]
  refine r_iconst 1 d_Costs_countAsLeaf_9 ic_1 ?_
  refine r_istore_n (i := 3) d_Costs_countAsLeaf_10 rfl (Nat.le_of_ble_eq_true rfl) rfl ?_
  dsimp only [List.set]
  refine r_eq rfl rfl ?_ (l_Costs_countAsLeaf hc hm a2 hk hmc hmk ⟨rfl, rfl⟩ (mc 0) 0 (by omega))
  unfold lfM
  rw [pt_0, pt_0]
  funext e
  simp only [ms]
  by_cases e0 : e = c + 2 <;> by_cases e1 : e = c + 4 <;> by_cases e2 : e = c + 6 <;> simp_all

def FN (c t k r : Nat) (mc : Nat → Nat) (z : Nat → Nat) (tp lv : Nat → Bool) (C : Nat → Nat → Nat) (M N : nw_M) : Prop := (∀ e, e ≠ c → e ≠ c + 2 → e ≠ c + 4 → e ≠ c + 6 → N e = M e) ∧ N (c + 6) = upd (M (c + 6)) k (bI (decide (M (t + 6) k = -9))) ∧ N (c + 2) = pt (M (c + 2)) (fun d => nI (cX mc (M (t + 2)) (M (t + 6)) (M (t + 8)) z tp lv C k (d + 1)).2) (7 * k + 1) r ∧ N (c + 4) = pt (M (c + 4)) (fun d => nI (cX mc (M (t + 2)) (M (t + 6)) (M (t + 8)) z tp lv C k (d + 1)).1) (7 * k + 1) r
theorem pt_lo {b g : Nat → Int32} {lo r q : Nat} (h : q < lo) : pt b g lo r q = b q := by simp only [pt]; rw [if_neg (by omega)]
theorem pt_in {b g : Nat → Int32} {lo r d : Nat} (h : d < r) : pt b g lo r (lo + d) = g d := by simp only [pt]; rw [if_pos (by omega), show lo + d - lo = d by omega]
theorem FN.ct {c t k r : Nat} {mc : Nat → Nat} {z : Nat → Nat} {tp lv : Nat → Bool} {C Wy : Nat → Nat → Nat} {M N : nw_M} (h : FN c t k r mc z tp lv C M N) (hm : mc 0 ≤ 6) (hT : CT c k mc lv C Wy M) : CT c k mc lv C Wy N := by
  intro j hj
  obtain ⟨a, b⟩ := hT j hj
  refine ⟨by rw [h.2.1, upd_ne _ _ (by omega)]; exact a, fun i h1 h2 => ?_⟩
  rw [h.2.2.1, h.2.2.2, pt_lo (by omega), pt_lo (by omega)]
  exact b i h1 h2
set_option maxHeartbeats 1000000 in
theorem l_Costs_fillNode {c : Nat} (hc : isCosts c) {t : Nat} (ht : isTree t) {cm bm : Nat} (hm : isRow cm bm 5) (a1 : t + 18 < c) (a2 : bm < c) {n k : Nat} {M : nw_M} {z : Nat → Nat} {tp lv : Nat → Bool} {mc : Nat → Nat} {C Wy : Nat → Nat → Nat} (hw : WF n (M (t + 2)) (M (t + 4)) (M (t + 6)) (M (t + 8)) z) (hk : k < n) (htp : ∀ j, j < n → M (t + 14) j = bI (tp j)) (hmc : ∀ j, j < 5 → M bm j = nI (mc j)) (hmk : MOK mc) (hT : CT c k mc lv C Wy M) (hB : ∀ j i, j < k → C j i ≤ 1116) (hl : M (t + 6) k ≠ -9) {P : Option Value → nw_M → Prop} (hP : ∀ N, FN c t k (mc 0) mc z tp lv C M N → P none N) : ∀ (m j : Nat) (N : nw_M), j + m = mc 0 → FN c t k j mc z tp lv C M N → RJ G LC m_Costs_fillNode 4 P 27 [some (.ref (G.2.2 c)), some (.ref (G.2.2 t)), some (.ref (G.2.2 cm)), some (.int (nI k)), some (.int (nI (j + 1)))] [] N := by
  obtain ⟨g0, g1, g2, g3, g4⟩ := mrow hmc
  have h6 := hmk.2.1
  have hn := hw.1
  intro m
  induction m with
  | zero =>
    intro j N hj hF
    simp only [Nat.add_zero] at hj
    subst hj
    have e : N bm = M bm := hF.1 _ (by omega) (by omega) (by omega) (by omega)
    refine r_iload d_Costs_fillNode_27 rfl ?_
    refine r_aload_n (i := 2) d_Costs_fillNode_29 rfl rfl ?_
    refine r_iconst 0 d_Costs_fillNode_30 ic_0 ?_
    refine r_V1 v_Row_get w_541 hm.1 (c_Row_get hm _ _) (Nat.le_of_ble_eq_true rfl) (Nat.le_of_ble_eq_true rfl) d_Costs_fillNode_31 ?_
    rw [e, g0]
    refine r_icmp_gt 91 d_Costs_fillNode_34 (by decide) (fun _ => ?_) (fun h9 => absurd (nI_lt (by omega) (by omega)) h9)
    exact r_vret rfl d_Costs_fillNode_91 (hP N hF)
  | succ m ih =>
    intro j N hj hF
    have e : N bm = M bm := hF.1 _ (by omega) (by omega) (by omega) (by omega)
    have q2 : N (t + 2) = M (t + 2) := hF.1 _ (by omega) (by omega) (by omega) (by omega)
    have q6 : N (t + 6) = M (t + 6) := hF.1 _ (by omega) (by omega) (by omega) (by omega)
    have q8 : N (t + 8) = M (t + 8) := hF.1 _ (by omega) (by omega) (by omega) (by omega)
    have q14 : N (t + 14) = M (t + 14) := hF.1 _ (by omega) (by omega) (by omega) (by omega)
    have hT2 := hF.ct h6 hT
    refine r_iload d_Costs_fillNode_27 rfl ?_
    refine r_aload_n (i := 2) d_Costs_fillNode_29 rfl rfl ?_
    refine r_iconst 0 d_Costs_fillNode_30 ic_0 ?_
    refine r_V1 v_Row_get w_541 hm.1 (c_Row_get hm _ _ ) (Nat.le_of_ble_eq_true rfl) (Nat.le_of_ble_eq_true rfl) d_Costs_fillNode_31 ?_
    rw [e, g0]
    refine r_icmp_gt 91 d_Costs_fillNode_34 (by decide) (fun h_34 => ?_) (fun h_34 => ?_)
    · skip
      exact absurd h_34 (nI_nlt (by omega) (by omega))
    · skip
      refine r_aload_n (i := 1) d_Costs_fillNode_37 rfl rfl ?_
      refine r_iload_n (i := 3) d_Costs_fillNode_38 rfl rfl ?_
      refine r_V1 v_Tree_isPair w_546 ht.1 (c_Tree_isPair ht _ _ ) (Nat.le_of_ble_eq_true rfl) (Nat.le_of_ble_eq_true rfl) d_Costs_fillNode_39 ?_
      rw [q8, rg_nI _ (by omega) (by omega)]
      refine r_if_eq 57 d_Costs_fillNode_42 (by decide) (fun h_42 => ?_) (fun h_42 => ?_)
      · skip
        rw [bI_f, bne_eq_false_iff_eq] at h_42
        have sp := hw.single hk hl h_42
        refine r_aload_n (i := 0) d_Costs_fillNode_57 rfl rfl ?_
        refine r_iload_n (i := 3) d_Costs_fillNode_58 rfl rfl ?_
        refine r_iload d_Costs_fillNode_59 rfl ?_
        refine r_aload_n (i := 0) d_Costs_fillNode_61 rfl rfl ?_
        refine r_aload_n (i := 1) d_Costs_fillNode_62 rfl rfl ?_
        refine r_getr nf_Costs_59 ht.1 rfl d_Costs_fillNode_63 ?_
        refine r_iload_n (i := 3) d_Costs_fillNode_66 rfl rfl ?_
        refine r_V1 v_Row_get w_541 (isTree.lefts ht).1 (c_Row_get (isTree.lefts ht) _ _ ) (Nat.le_of_ble_eq_true rfl) (Nat.le_of_ble_eq_true rfl) d_Costs_fillNode_67 ?_
        rw [q6, rg_nI _ (by omega) (by omega), sp.2.2.2.1]
        refine r_iload d_Costs_fillNode_70 rfl ?_
        refine r_V2 v_Costs_costOf w_551 hc.1 (c2_Costs_costOf hc _ (by omega) ((hT2 (k - 1) (by omega)).2 (j + 1) (by omega) (by omega)).1) (Nat.le_of_ble_eq_true rfl) (Nat.le_of_ble_eq_true rfl) d_Costs_fillNode_72 ?_
        refine r_aload_n (i := 2) d_Costs_fillNode_75 rfl rfl ?_
        refine r_iconst 3 d_Costs_fillNode_76 ic_3 ?_
        refine r_V1 v_Row_get w_541 hm.1 (c_Row_get hm _ _ ) (Nat.le_of_ble_eq_true rfl) (Nat.le_of_ble_eq_true rfl) d_Costs_fillNode_77 ?_
        rw [e, g3]
        refine r_iadd d_Costs_fillNode_80 ?_
        rw [nI_add]
        refine r_iconst 0 d_Costs_fillNode_81 ic_0 ?_
        refine r_V4 v_Costs_put w_542 hc.1 (c_Costs_put hc k (j + 1) _ _ _ (by omega)) (Nat.le_of_ble_eq_true rfl) (Nat.le_of_ble_eq_true rfl) d_Costs_fillNode_82 ?_
        refine r_iinc d_Costs_fillNode_85 rfl (nI_inc (j + 1)) (Nat.le_of_ble_eq_true rfl) rfl ?_
        dsimp only [List.set]
        refine r_goto 27 d_Costs_fillNode_88 (by decide) ?_
        have e7 : 7 * k + (j + 1) = 7 * k + 1 + j := by omega
        refine ih (j + 1) _ (by omega) ?_
        first
          | (have cx : cX mc (M (t + 2)) (M (t + 6)) (M (t + 8)) z tp lv C k (j + 1) = best mc lv C (k - 1 - z (k - 1)) (k - 1) (j + 1) (!(tp (k - 1 - z (k - 1)) && tp (k - 1))) (o_comm (M (t + 2) k)) := by unfold cX; rw [if_neg hl, if_neg h_42]
             rw [e7, q2, ← cx] at hX2 hX4
             refine ⟨fun e e1 e2 e3 e4 => by rw [hX e e1 e2 e3]; exact hF.1 e e1 e2 e3 e4, by rw [hX _ (by omega) (by omega) (by omega)]; exact hF.2.1, ?_, ?_⟩
             · rw [hX2, hF.2.2.1, pt_s _ _ _ _ rfl]
             · rw [hX4, hF.2.2.2, pt_s _ _ _ _ rfl])
          | (have cx : cX mc (M (t + 2)) (M (t + 6)) (M (t + 8)) z tp lv C k (j + 1) = (0, C (k - 1) (j + 1) + mc 3) := by unfold cX; rw [if_neg hl, if_pos h_42]
             rw [e7]
             refine ⟨fun e e1 e2 e3 e4 => by simp (disch := omega) only [ms_ne]; exact hF.1 e e1 e2 e3 e4, by simp (disch := omega) only [ms_ne]; exact hF.2.1, ?_, ?_⟩
             · simp (disch := omega) only [ms_same, ms_ne]
               rw [hF.2.2.1, pt_s _ _ _ _ (by show _ = nI (cX mc (M (t + 2)) (M (t + 6)) (M (t + 8)) z tp lv C k (j + 1)).2; rw [cx])]
             · simp (disch := omega) only [ms_same, ms_ne]
               rw [hF.2.2.2, pt_s _ _ _ _ (by show _ = nI (cX mc (M (t + 2)) (M (t + 6)) (M (t + 8)) z tp lv C k (j + 1)).1; rw [cx]; rfl)])
      · skip
        rw [bI_t, bne_iff_ne] at h_42
        have sp := hw.pair hk h_42
        have zb := hw.zb (k - 1) (by omega)
        refine r_aload_n (i := 0) d_Costs_fillNode_45 rfl rfl ?_
        refine r_aload_n (i := 1) d_Costs_fillNode_46 rfl rfl ?_
        refine r_aload_n (i := 2) d_Costs_fillNode_47 rfl rfl ?_
        refine r_iload_n (i := 3) d_Costs_fillNode_48 rfl rfl ?_
        refine r_iload d_Costs_fillNode_49 rfl ?_
        refine r_W4 v_Costs_choose w_547 hc.1 (c_Costs_choose hc ht hm a1 a2 (n := n) (k := k) (i := j + 1) (L := k - 1 - z (k - 1)) (R := k - 1) (z := z) (tp := tp) (lv := lv) (mc := mc) (C := C) (Wy := Wy) hn hk (by omega) (by omega) (by rw [q6]; exact sp.2.2.2.2.2.1) (by rw [q8]; exact sp.2.2.2.1) (by rw [q14]; exact htp) (by rw [e]; exact hmc) hmk hT2 hB (by omega) (by omega)) (Nat.le_of_ble_eq_true rfl) (Nat.le_of_ble_eq_true rfl) d_Costs_fillNode_51 (fun v N2 hv => ?_)
        obtain ⟨rfl, hX, hX2, hX4⟩ := hv
        refine r_goto 85 d_Costs_fillNode_54 (by decide) ?_
        refine r_iinc d_Costs_fillNode_85 rfl (nI_inc (j + 1)) (Nat.le_of_ble_eq_true rfl) rfl ?_
        dsimp only [List.set]
        refine r_goto 27 d_Costs_fillNode_88 (by decide) ?_
        have e7 : 7 * k + (j + 1) = 7 * k + 1 + j := by omega
        refine ih (j + 1) _ (by omega) ?_
        first
          | (have cx : cX mc (M (t + 2)) (M (t + 6)) (M (t + 8)) z tp lv C k (j + 1) = best mc lv C (k - 1 - z (k - 1)) (k - 1) (j + 1) (!(tp (k - 1 - z (k - 1)) && tp (k - 1))) (o_comm (M (t + 2) k)) := by unfold cX; rw [if_neg hl, if_neg h_42]
             rw [e7, q2, ← cx] at hX2 hX4
             refine ⟨fun e e1 e2 e3 e4 => by rw [hX e e1 e2 e3]; exact hF.1 e e1 e2 e3 e4, by rw [hX _ (by omega) (by omega) (by omega)]; exact hF.2.1, ?_, ?_⟩
             · rw [hX2, hF.2.2.1, pt_s _ _ _ _ rfl]
             · rw [hX4, hF.2.2.2, pt_s _ _ _ _ rfl])
          | (have cx : cX mc (M (t + 2)) (M (t + 6)) (M (t + 8)) z tp lv C k (j + 1) = (0, C (k - 1) (j + 1) + mc 3) := by unfold cX; rw [if_neg hl, if_pos h_42]
             rw [e7]
             refine ⟨fun e e1 e2 e3 e4 => by simp (disch := omega) only [ms_ne]; exact hF.1 e e1 e2 e3 e4, by simp (disch := omega) only [ms_ne]; exact hF.2.1, ?_, ?_⟩
             · simp (disch := omega) only [ms_same, ms_ne]
               rw [hF.2.2.1, pt_s _ _ _ _ (by show _ = nI (cX mc (M (t + 2)) (M (t + 6)) (M (t + 8)) z tp lv C k (j + 1)).2; rw [cx])]
             · simp (disch := omega) only [ms_same, ms_ne]
               rw [hF.2.2.2, pt_s _ _ _ _ (by show _ = nI (cX mc (M (t + 2)) (M (t + 6)) (M (t + 8)) z tp lv C k (j + 1)).1; rw [cx]; rfl)])

theorem c_Costs_fillNode {c : Nat} (hc : isCosts c) {t : Nat} (ht : isTree t) {cm bm : Nat} (hm : isRow cm bm 5) (a1 : t + 18 < c) (a2 : bm < c) {n k : Nat} {M : nw_M} {z : Nat → Nat} {tp lv : Nat → Bool} {mc : Nat → Nat} {C Wy : Nat → Nat → Nat} (hw : WF n (M (t + 2)) (M (t + 4)) (M (t + 6)) (M (t + 8)) z) (hk : k < n) (htp : ∀ j, j < n → M (t + 14) j = bI (tp j)) (hmc : ∀ j, j < 5 → M bm j = nI (mc j)) (hmk : MOK mc) (hT : CT c k mc lv C Wy M) (hB : ∀ j i, j < k → C j i ≤ 1116) : CJ G LC m_Costs_fillNode 4 [.ref (G.2.2 c), .ref (G.2.2 t), .ref (G.2.2 cm), .int (nI k)] M (fun v N => v = none ∧ FN c t k (mc 0) mc z tp lv C M N) := by
  have hn := hw.1
  refine CJ_of2 (n0 := 1) (by decide) rfl rfl ?_
  simp only [List.map_cons, List.map_nil, List.cons_append, List.nil_append, List.reduceReplicate]
  refine r_aload_n (i := 1) d_Costs_fillNode_0 rfl rfl ?_
  refine r_iload_n (i := 3) d_Costs_fillNode_1 rfl rfl ?_
  refine r_V1 v_Tree_isLeaf w_535 ht.1 (c_Tree_isLeaf ht _ _ ) (Nat.le_of_ble_eq_true rfl) (Nat.le_of_ble_eq_true rfl) d_Costs_fillNode_2 ?_
  rw [rg_nI _ (by omega) (by omega)]
  refine r_if_eq 15 d_Costs_fillNode_5 (by decide) (fun h_5 => ?_) (fun h_5 => ?_)
  · skip
    rw [bI_f, beq_eq_false_iff_ne] at h_5
    refine r_aload_n (i := 0) d_Costs_fillNode_15 rfl rfl ?_
    refine r_getr nf_Costs_23 hc.1 rfl d_Costs_fillNode_16 ?_
    refine r_iload_n (i := 3) d_Costs_fillNode_19 rfl rfl ?_
    refine r_iconst 0 d_Costs_fillNode_20 ic_0 ?_
    refine r_V2 v_Row_put w_540 (isCosts.leaves hc).1 (c_Row_put (isCosts.leaves hc) _ _ _ ) (Nat.le_of_ble_eq_true rfl) (Nat.le_of_ble_eq_true rfl) d_Costs_fillNode_21 ?_
    simp (disch := omega) only [rp_nI]
    refine r_iconst 1 d_Costs_fillNode_24 ic_1 ?_
    refine r_istore d_Costs_fillNode_25 (Nat.le_of_ble_eq_true rfl) rfl ?_
    dsimp only [List.set]
    exact l_Costs_fillNode hc ht hm a1 a2 hw hk htp hmc hmk hT hB h_5 (fun N hN => ⟨rfl, hN⟩) (mc 0) 0 _ (by omega) ⟨fun e e1 e2 e3 e4 => by simp (disch := omega) only [ms_ne], by simp (disch := omega) only [ms_same]; rw [show decide (M (t + 6) k = -9) = false from decide_eq_false h_5]; rfl, by rw [pt_0]; simp (disch := omega) only [ms_ne], by rw [pt_0]; simp (disch := omega) only [ms_ne]⟩
  · skip
    rw [bI_t, beq_iff_eq] at h_5
    refine r_aload_n (i := 0) d_Costs_fillNode_8 rfl rfl ?_
    refine r_aload_n (i := 2) d_Costs_fillNode_9 rfl rfl ?_
    refine r_iload_n (i := 3) d_Costs_fillNode_10 rfl rfl ?_
    refine r_V2 v_Costs_countAsLeaf w_536 hc.1 (c_Costs_countAsLeaf hc hm a2 (by omega) hmc hmk) (Nat.le_of_ble_eq_true rfl) (Nat.le_of_ble_eq_true rfl) d_Costs_fillNode_11 ?_
    refine r_vret rfl d_Costs_fillNode_14 ?_
    refine ⟨rfl, ?_⟩
    have cx : ∀ i, cX mc (M (t + 2)) (M (t + 6)) (M (t + 8)) z tp lv C k i = (0, mc 1) := fun i => by unfold cX; rw [if_pos h_5]
    unfold lfM
    refine ⟨fun e e1 e2 e3 e4 => by simp (disch := omega) only [ms_ne], ?_, ?_, ?_⟩
    · simp (disch := omega) only [ms_same, ms_ne]
      rw [show decide (M (t + 6) k = -9) = true from decide_eq_true h_5]
      rfl
    · simp (disch := omega) only [ms_same, ms_ne, cx]
    · simp (disch := omega) only [ms_same, ms_ne, cx]
      rfl

/-- behind a NODE: the table has one more -/
theorem FN.next {c t k : Nat} {mc : Nat → Nat} {z : Nat → Nat} {tp lv : Nat → Bool} {C Wy : Nat → Nat → Nat} {M N : nw_M} (h : FN c t k (mc 0) mc z tp lv C M N) (hm : mc 0 ≤ 6) (hT : CT c k mc lv C Wy M) (hl : lv k = decide (M (t + 6) k = -9)) (hC : ∀ i, C k i = (cX mc (M (t + 2)) (M (t + 6)) (M (t + 8)) z tp lv C k i).2) (hW : ∀ i, Wy k i = (cX mc (M (t + 2)) (M (t + 6)) (M (t + 8)) z tp lv C k i).1) : CT c (k + 1) mc lv C Wy N := by
  intro j hj
  by_cases e : j = k
  · subst e
    refine ⟨by rw [h.2.1, upd_at, hl], fun i h1 h2 => ?_⟩
    rw [h.2.2.1, h.2.2.2, show 7 * j + i = 7 * j + 1 + (i - 1) by omega, pt_in (by omega), pt_in (by omega), show i - 1 + 1 = i by omega, hC, hW]
    exact ⟨rfl, rfl⟩
  · exact h.ct hm hT j (by omega)
theorem l_Costs_fill {c : Nat} (hc : isCosts c) {t : Nat} (ht : isTree t) {cm bm : Nat} (hm : isRow cm bm 5) (a1 : t + 18 < c) (a2 : bm < c) {n : Nat} {M : nw_M} {nu : Nat → Int32} {z : Nat → Nat} {tp lv : Nat → Bool} {mc : Nat → Nat} {C Wy : Nat → Nat → Nat} (hw : WF n (M (t + 2)) (M (t + 4)) (M (t + 6)) (M (t + 8)) z) (hs : M t 9 = nI n) (htp : ∀ j, j < n → M (t + 14) j = bI (tp j)) (hmc : ∀ j, j < 5 → M bm j = nI (mc j)) (hmk : MOK mc) (hC : CTb n mc (M (t + 2)) (M (t + 6)) (M (t + 8)) z tp lv (fun _ => false) C) (hW : ∀ k i, Wy k i = (cX mc (M (t + 2)) (M (t + 6)) (M (t + 8)) z tp lv C k i).1) {P : Option Value → nw_M → Prop} (hP : ∀ N, (∀ e, e ≠ c → e ≠ c + 2 → e ≠ c + 4 → e ≠ c + 6 → N e = M e) → CT c n mc lv C Wy N → P none N) : ∀ (m k : Nat) (N : nw_M), k + m = n → (∀ e, e ≠ c → e ≠ c + 2 → e ≠ c + 4 → e ≠ c + 6 → N e = M e) → CT c k mc lv C Wy N → RJ G LC m_Costs_fill 5 P 2 [some (.ref (G.2.2 c)), some (.ref (G.2.2 t)), some (.ref (G.2.2 cm)), some (.int (nI k))] [] N := by
  have hn := hw.1
  have hB : ∀ j i, j < n → C j i ≤ 1116 := fun j i hj => by
    have := (cX_le hmk hw hC j i hj).1
    have := hw.zb j hj
    omega
  intro m
  induction m with
  | zero =>
    intro k N hk hF hT
    simp only [Nat.add_zero] at hk
    subst hk
    have e : N t = M t := hF _ (by omega) (by omega) (by omega) (by omega)
    refine r_iload_n (i := 3) d_Costs_fill_2 rfl rfl ?_
    refine r_aload_n (i := 1) d_Costs_fill_3 rfl rfl ?_
    refine r_geti nf_Costs_30 ht.1 rfl d_Costs_fill_4 ?_
    rw [e, hs]
    refine r_icmp_ge 23 d_Costs_fill_7 (by decide) (fun _ => ?_) (fun h9 => absurd (nI_le (Nat.le_refl _) (by omega)) h9)
    exact r_vret rfl d_Costs_fill_23 (hP N hF hT)
  | succ m ih =>
    intro k N hkm hF hT
    have hk : k < n := by omega
    have e : N bm = M bm := hF _ (by omega) (by omega) (by omega) (by omega)
    have qt : N t = M t := hF _ (by omega) (by omega) (by omega) (by omega)
    have q2 : N (t + 2) = M (t + 2) := hF _ (by omega) (by omega) (by omega) (by omega)
    have q4 : N (t + 4) = M (t + 4) := hF _ (by omega) (by omega) (by omega) (by omega)
    have q6 : N (t + 6) = M (t + 6) := hF _ (by omega) (by omega) (by omega) (by omega)
    have q8 : N (t + 8) = M (t + 8) := hF _ (by omega) (by omega) (by omega) (by omega)
    have q14 : N (t + 14) = M (t + 14) := hF _ (by omega) (by omega) (by omega) (by omega)
    refine r_iload_n (i := 3) d_Costs_fill_2 rfl rfl ?_
    refine r_aload_n (i := 1) d_Costs_fill_3 rfl rfl ?_
    refine r_geti nf_Costs_30 ht.1 rfl d_Costs_fill_4 ?_
    rw [qt, hs]
    refine r_icmp_ge 23 d_Costs_fill_7 (by decide) (fun h_7 => ?_) (fun h_7 => ?_)
    · skip
      exact absurd h_7 (nI_ge (by omega) (by omega))
    · skip
      refine r_aload_n (i := 0) d_Costs_fill_10 rfl rfl ?_
      refine r_aload_n (i := 1) d_Costs_fill_11 rfl rfl ?_
      refine r_aload_n (i := 2) d_Costs_fill_12 rfl rfl ?_
      refine r_iload_n (i := 3) d_Costs_fill_13 rfl rfl ?_
      refine r_W3 v_Costs_fillNode w_531 hc.1 (c_Costs_fillNode hc ht hm a1 a2 (n := n) (k := k) (z := z) (tp := tp) (lv := lv) (mc := mc) (C := C) (Wy := Wy) (by rw [q2, q4, q6, q8]; exact hw) hk (by rw [q14]; exact htp) (by rw [e]; exact hmc) hmk hT (fun j i hj => hB j i (by omega))) (Nat.le_of_ble_eq_true rfl) (Nat.le_of_ble_eq_true rfl) d_Costs_fill_14 (fun v N2 hv => ?_)
      obtain ⟨rfl, hX⟩ := hv
      refine r_iinc d_Costs_fill_17 rfl (nI_inc k) (Nat.le_of_ble_eq_true rfl) rfl ?_
      dsimp only [List.set]
      refine r_goto 2 d_Costs_fill_20 (by decide) ?_
      refine ih (k + 1) N2 (by omega) (fun e e1 e2 e3 e4 => by rw [hX.1 e e1 e2 e3 e4]; exact hF e e1 e2 e3 e4) ?_
      refine hX.next hmk.2.1 hT ?_ ?_ ?_
      · rw [q6, hC.1 k hk]; simp
      · intro i; rw [q2, q6, q8, hC.2 k i hk]; simp
      · intro i; rw [q2, q6, q8]; exact hW k i

theorem c_Costs_fill {c : Nat} (hc : isCosts c) {t : Nat} (ht : isTree t) {cm bm : Nat} (hm : isRow cm bm 5) (a1 : t + 18 < c) (a2 : bm < c) {n : Nat} {M : nw_M} {nu : Nat → Int32} {z : Nat → Nat} {tp lv : Nat → Bool} {mc : Nat → Nat} {C Wy : Nat → Nat → Nat} (hw : WF n (M (t + 2)) (M (t + 4)) (M (t + 6)) (M (t + 8)) z) (hs : M t 9 = nI n) (htp : ∀ j, j < n → M (t + 14) j = bI (tp j)) (hmc : ∀ j, j < 5 → M bm j = nI (mc j)) (hmk : MOK mc) (hC : CTb n mc (M (t + 2)) (M (t + 6)) (M (t + 8)) z tp lv (fun _ => false) C) (hW : ∀ k i, Wy k i = (cX mc (M (t + 2)) (M (t + 6)) (M (t + 8)) z tp lv C k i).1) : CJ G LC m_Costs_fill 5 [.ref (G.2.2 c), .ref (G.2.2 t), .ref (G.2.2 cm)] M (fun v N => v = none ∧ (∀ e, e ≠ c → e ≠ c + 2 → e ≠ c + 4 → e ≠ c + 6 → N e = M e) ∧ CT c n mc lv C Wy N) := by
  refine CJ_of2 (n0 := 1) (by decide) rfl rfl ?_
  simp only [List.map_cons, List.map_nil, List.cons_append, List.nil_append, List.reduceReplicate]
  refine r_iconst 0 d_Costs_fill_0 ic_0 ?_
  refine r_istore_n (i := 3) d_Costs_fill_1 rfl (Nat.le_of_ble_eq_true rfl) rfl ?_
  dsimp only [List.set]
  exact l_Costs_fill hc ht hm a1 a2 (nu := nu) hw hs htp hmc hmk hC hW (fun N h1 h2 => ⟨rfl, h1, h2⟩) n 0 M (by omega) (fun _ _ _ _ _ => rfl) (fun j hj => by omega)

end MCosts3
