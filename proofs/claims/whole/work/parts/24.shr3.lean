-- Shares: sumBy, weigh
/-- what a set costs, behind k NODES -/
def smS (mc : Nat → Nat) (CX : Nat → Nat → Nat) (sh : Nat → Bool) (ak : Nat → Nat) : Nat → Nat
  | 0 => 0
  | k + 1 => smS mc CX sh ak k + if sh k && decide (ak k = k) then CX k (mc 0) + mc 2 else 0
/-- the sum of a set S of what is SHARED (l): by some table of costs -/
def IsSum (n : Nat) (mc : Nat → Nat) (le lf rt : Nat → Int32) (z : Nat → Nat) (tp : Nat → Bool) (ak : Nat → Nat) (l : List Nat) (S v : Nat) : Prop :=
  ∃ (lv : Nat → Bool) (C : Nat → Nat → Nat), CTb n mc le lf rt z tp lv (fun k => inS S (ak k) 0 l) C ∧ v = smS mc (fun k i => (cX mc le lf rt z tp lv C k i).2) (fun k => inS S (ak k) 0 l) ak n + C (n - 1) (mc 0)
def wg (V : Nat → Nat) : Nat → Nat × Nat
  | 0 => (V 0, 0)
  | m + 1 => if V (m + 1) < (wg V m).1 then (V (m + 1), m + 1) else wg V m
theorem inS_mem {S f : Nat} : ∀ (l : List Nat) (c : Nat), inS S f c l = true → f ∈ l
  | [], c, h => by simp [inS] at h
  | g :: r, c, h => by
    rw [inS] at h
    by_cases e : g = f
    · subst e; exact List.mem_cons_self
    · rw [if_neg e] at h; exact List.mem_cons_of_mem _ (inS_mem r (c + 1) h)
/-- a NODE that counts as a LEAF: the table has one more -/
theorem lf_next {c t k : Nat} {mc : Nat → Nat} {z : Nat → Nat} {tp lv : Nat → Bool} {C Wy : Nat → Nat → Nat} {M N : nw_M} (h : FN c t k (mc 0) mc z tp lv C M N) (hm : mc 0 ≤ 6) (hT : CT c k mc lv C Wy M) (hl : lv k = true) (hC : ∀ i, C k i = mc 1) (hW : ∀ i, Wy k i = 0) : CT c (k + 1) mc lv C Wy (lfM N c k (mc 0) mc) := by
  have h0 := h.ct hm hT
  have e6 : lfM N c k (mc 0) mc (c + 6) = upd (N (c + 6)) k 1 := by unfold lfM; simp (disch := omega) only [ms_same, ms_ne]
  have e2 : lfM N c k (mc 0) mc (c + 2) = pt (N (c + 2)) (fun _ => nI (mc 1)) (7 * k + 1) (mc 0) := by unfold lfM; simp (disch := omega) only [ms_same, ms_ne]
  have e4 : lfM N c k (mc 0) mc (c + 4) = pt (N (c + 4)) (fun _ => 0) (7 * k + 1) (mc 0) := by unfold lfM; simp (disch := omega) only [ms_same, ms_ne]
  intro j hj
  rw [e6, e2, e4]
  by_cases e : j = k
  · subst e
    refine ⟨by rw [upd_at, hl]; rfl, fun i h1 h2 => ?_⟩
    rw [show 7 * j + i = 7 * j + 1 + (i - 1) by omega, pt_in (by omega), pt_in (by omega), hC, hW]
    exact ⟨rfl, rfl⟩
  · obtain ⟨a, b⟩ := h0 j (by omega)
    refine ⟨by rw [upd_ne _ _ e]; exact a, fun i h1 h2 => ?_⟩
    rw [pt_lo (by omega), pt_lo (by omega)]
    exact b i h1 h2
section MShr3
variable {G : nw_G}
set_option maxHeartbeats 2000000 in
theorem l_Shares_sumBy {n S : Nat} {M0 : nw_M} {z : Nat → Nat} {tp lv : Nat → Bool} {ak : Nat → Nat} {mc : Nat → Nat} {C : Nat → Nat → Nat} {l : List Nat} (hS : S < 32) (hw : WF n (M0 13) (M0 15) (M0 17) (M0 19) z) (hn0 : 0 < n) (hs : M0 11 9 = nI n) (htp : ∀ j, j < n → M0 25 j = bI (tp j)) (ha : ∀ j, j < n → M0 29 j = nI (ak j)) (hak : ∀ j, j < n → ak j ≤ j) (hmc : ∀ j, j < 5 → M0 33 j = nI (mc j)) (hmk : MOK mc) (hl : l.length ≤ 5) (hx : ∀ x ∈ l, x < n ∧ M0 17 x ≠ -9) (hSF : SF n ak l M0) (hC : CTb n mc (M0 13) (M0 17) (M0 19) z tp lv (fun k => inS S (ak k) 0 l) C) {P : Option Value → nw_M → Prop} (hP : ∀ N, (∀ e, e ≠ 134 → e ≠ 136 → e ≠ 138 → e ≠ 140 → N e = M0 e) → P (some (.int (nI (smS mc (fun k i => (cX mc (M0 13) (M0 17) (M0 19) z tp lv C k i).2) (fun k => inS S (ak k) 0 l) ak n + C (n - 1) (mc 0))))) N) : ∀ (d k : Nat) (N : nw_M), k + d = n → (∀ e, e ≠ 134 → e ≠ 136 → e ≠ 138 → e ≠ 140 → N e = M0 e) → CT 134 k mc lv C (fun k i => if inS S (ak k) 0 l then 0 else (cX mc (M0 13) (M0 17) (M0 19) z tp lv C k i).1) N → RJ G LC m_Shares_sumBy 5 P 13 [some (.ref (G.2.2 129)), some (.int (nI S)), some (.ref (G.2.2 11)), some (.ref (G.2.2 32)), some (.int (nI (smS mc (fun k i => (cX mc (M0 13) (M0 17) (M0 19) z tp lv C k i).2) (fun k => inS S (ak k) 0 l) ak k))), some (.int (nI (mc 0))), some (.int (nI k))] [] N := by
  have hn := hw.1
  have h6 := hmk.2.1
  obtain ⟨g0, g1, g2, g3, g4⟩ := mrow hmc
  have hB : ∀ j i, j < n → C j i ≤ 1116 := fun j i hj => by
    have := (cX_le hmk hw hC j i hj).1
    have := hw.zb j hj
    omega
  intro d
  induction d with
  | zero =>
    intro k N hk hF hT
    simp only [Nat.add_zero] at hk
    subst hk
    have qt : N 11 = M0 11 := hF _ (by omega) (by omega) (by omega) (by omega)
    refine r_iload d_Shares_sumBy_13 rfl ?_
    refine r_aload_n (i := 2) d_Shares_sumBy_15 rfl rfl ?_
    refine r_geti nf_Shares_38 tree_11.1 rfl d_Shares_sumBy_16 ?_
    rw [qt, hs]
    refine r_icmp_ge 97 d_Shares_sumBy_19 (by decide) (fun _ => ?_) (fun h9 => absurd (nI_le (Nat.le_refl _) (by omega)) h9)
    refine r_iload d_Shares_sumBy_97 rfl ?_
    refine r_aload_n (i := 0) d_Shares_sumBy_99 rfl rfl ?_
    refine r_getr nf_Shares_26 lc_129 rfl d_Shares_sumBy_100 ?_
    refine r_aload_n (i := 2) d_Shares_sumBy_103 rfl rfl ?_
    refine r_V0 v_Tree_root w_802 tree_11.1 (c_Tree_root tree_11 _ ) (Nat.le_of_ble_eq_true rfl) (Nat.le_of_ble_eq_true rfl) d_Shares_sumBy_104 ?_
    rw [qt, hs, nI_m1 (by omega)]
    refine r_iload d_Shares_sumBy_107 rfl ?_
    refine r_V2 v_Costs_costOf w_803 costs_134.1 (c2_Costs_costOf costs_134 (k := k - 1) (i := mc 0) (v := C (k - 1) (mc 0)) _ (by omega) ((hT (k - 1) (by omega)).2 (mc 0) hmk.1 (Nat.le_refl _)).1) (Nat.le_of_ble_eq_true rfl) (Nat.le_of_ble_eq_true rfl) d_Shares_sumBy_109 ?_
    refine r_iadd d_Shares_sumBy_112 ?_
    rw [nI_add]
    refine r_iret rfl d_Shares_sumBy_113 ?_
    exact hP N hF
  | succ d ih =>
    intro k N hkd hF hT
    have hk : k < n := by omega
    have qt : N 11 = M0 11 := hF _ (by omega) (by omega) (by omega) (by omega)
    have q13 : N 13 = M0 13 := hF _ (by omega) (by omega) (by omega) (by omega)
    have q15 : N 15 = M0 15 := hF _ (by omega) (by omega) (by omega) (by omega)
    have q17 : N 17 = M0 17 := hF _ (by omega) (by omega) (by omega) (by omega)
    have q19 : N 19 = M0 19 := hF _ (by omega) (by omega) (by omega) (by omega)
    have q25 : N 25 = M0 25 := hF _ (by omega) (by omega) (by omega) (by omega)
    have q33 : N 33 = M0 33 := hF _ (by omega) (by omega) (by omega) (by omega)
    have hakk := hak k hk
    have hC1 : lv k = (decide (M0 17 k = -9) || inS S (ak k) 0 l) := hC.1 k hk
    have hC2 : ∀ i, C k i = if inS S (ak k) 0 l then mc 1 else (cX mc (M0 13) (M0 17) (M0 19) z tp lv C k i).2 := fun i => hC.2 k i hk
    have hsm : smS mc (fun k i => (cX mc (M0 13) (M0 17) (M0 19) z tp lv C k i).2) (fun k => inS S (ak k) 0 l) ak (k + 1) = smS mc (fun k i => (cX mc (M0 13) (M0 17) (M0 19) z tp lv C k i).2) (fun k => inS S (ak k) 0 l) ak k + if (inS S (ak k) 0 l && decide (ak k = k)) = true then (cX mc (M0 13) (M0 17) (M0 19) z tp lv C k (mc 0)).2 + mc 2 else 0 := rfl
    refine r_iload d_Shares_sumBy_13 rfl ?_
    refine r_aload_n (i := 2) d_Shares_sumBy_15 rfl rfl ?_
    refine r_geti nf_Shares_38 tree_11.1 rfl d_Shares_sumBy_16 ?_
    rw [qt, hs]
    refine r_icmp_ge 97 d_Shares_sumBy_19 (by decide) (fun h_19 => ?_) (fun h_19 => ?_)
    · skip
      exact absurd h_19 (nI_ge (by omega) (by omega))
    · skip
      refine r_aload_n (i := 0) d_Shares_sumBy_22 rfl rfl ?_
      refine r_getr nf_Shares_26 lc_129 rfl d_Shares_sumBy_23 ?_
      refine r_aload_n (i := 2) d_Shares_sumBy_26 rfl rfl ?_
      refine r_aload_n (i := 3) d_Shares_sumBy_27 rfl rfl ?_
      refine r_iload d_Shares_sumBy_28 rfl ?_
      refine r_W3 v_Costs_fillNode w_795 costs_134.1 (c_Costs_fillNode costs_134 tree_11 row_32 (by decide) (by decide) (n := n) (k := k) (z := z) (tp := tp) (lv := lv) (mc := mc) (C := C) (Wy := (fun k i => if inS S (ak k) 0 l then 0 else (cX mc (M0 13) (M0 17) (M0 19) z tp lv C k i).1)) (by show WF n (N 13) (N 15) (N 17) (N 19) z; rw [q13, q15, q17, q19]; exact hw) hk (by show ∀ j, j < n → N 25 j = bI (tp j); rw [q25]; exact htp) (by rw [q33]; exact hmc) hmk hT (fun j i hj => hB j i (by omega))) (Nat.le_of_ble_eq_true rfl) (Nat.le_of_ble_eq_true rfl) d_Shares_sumBy_30 (fun v N2 hv => ?_)
      obtain ⟨rfl, hX⟩ := hv
      have hF2 : ∀ e, e ≠ 134 → e ≠ 136 → e ≠ 138 → e ≠ 140 → N2 e = M0 e := fun e e1 e2 e3 e4 => by rw [hX.1 e e1 e2 e3 e4]; exact hF e e1 e2 e3 e4
      have r29 : N2 29 = M0 29 := hF2 _ (by omega) (by omega) (by omega) (by omega)
      have r33 : N2 33 = M0 33 := hF2 _ (by omega) (by omega) (by omega) (by omega)
      have hSF2 : SF n ak l N2 := by
        refine ⟨by rw [hF2 129 (by omega) (by omega) (by omega) (by omega)]; exact hSF.1, ?_⟩
        rw [hF2 131 (by omega) (by omega) (by omega) (by omega), hF2 133 (by omega) (by omega) (by omega) (by omega)]
        exact hSF.2
      have hcx : ∀ i, cX mc (N 13) (N 17) (N 19) z tp lv C k i = cX mc (M0 13) (M0 17) (M0 19) z tp lv C k i := fun i => by rw [q13, q17, q19]
      refine r_aload_n (i := 0) d_Shares_sumBy_33 rfl rfl ?_
      refine r_iload_n (i := 1) d_Shares_sumBy_34 rfl rfl ?_
      refine r_aload_n (i := 2) d_Shares_sumBy_35 rfl rfl ?_
      refine r_getr nf_Shares_43 tree_11.1 rfl d_Shares_sumBy_36 ?_
      refine r_iload d_Shares_sumBy_39 rfl ?_
      refine r_V1 v_Row_get w_520 (isTree.alikes tree_11).1 (c2_Row_get (isTree.alikes tree_11) (by omega) (show N2 29 k = nI (ak k) by rw [r29]; exact ha k hk)) (Nat.le_of_ble_eq_true rfl) (Nat.le_of_ble_eq_true rfl) d_Shares_sumBy_41 ?_
      refine r_V2 v_Shares_isOfSet w_796 lc_129 (c_Shares_isOfSet (n := n) (ak := ak) (l := l) hS (by omega) hl (fun x h => by have := (hx x h).1; omega) hSF2) (Nat.le_of_ble_eq_true rfl) (Nat.le_of_ble_eq_true rfl) d_Shares_sumBy_44 ?_
      refine r_if_eq 91 d_Shares_sumBy_47 (by decide) (fun h_47 => ?_) (fun h_47 => ?_)
      · skip
        refine r_iinc d_Shares_sumBy_91 rfl (nI_inc k) (Nat.le_of_ble_eq_true rfl) rfl ?_
        dsimp only [List.set]
        refine r_goto 13 d_Shares_sumBy_94 (by decide) ?_
        rw [bI_f] at h_47
        have e : smS mc (fun k i => (cX mc (M0 13) (M0 17) (M0 19) z tp lv C k i).2) (fun k => inS S (ak k) 0 l) ak (k + 1) = smS mc (fun k i => (cX mc (M0 13) (M0 17) (M0 19) z tp lv C k i).2) (fun k => inS S (ak k) 0 l) ak k := by rw [hsm, h_47, Bool.false_and]; rfl
        have := ih (k + 1) N2 (by omega) hF2 (hX.next h6 hT (by rw [hC1, h_47, Bool.or_false]; show _ = decide (N 17 k = -9); rw [q17]) (fun i => by show _ = (cX mc (N 13) (N 17) (N 19) z tp lv C k i).2; rw [hcx, hC2 i, if_neg (by rw [h_47]; decide)]) (fun i => by show _ = (cX mc (N 13) (N 17) (N 19) z tp lv C k i).1; rw [hcx]; simp only [h_47]; rfl))
        rw [e] at this
        exact this
      · skip
        rw [bI_t] at h_47
        refine r_aload_n (i := 2) d_Shares_sumBy_50 rfl rfl ?_
        refine r_getr nf_Shares_43 tree_11.1 rfl d_Shares_sumBy_51 ?_
        refine r_iload d_Shares_sumBy_54 rfl ?_
        refine r_V1 v_Row_get w_520 (isTree.alikes tree_11).1 (c2_Row_get (isTree.alikes tree_11) (by omega) (show N2 29 k = nI (ak k) by rw [r29]; exact ha k hk)) (Nat.le_of_ble_eq_true rfl) (Nat.le_of_ble_eq_true rfl) d_Shares_sumBy_56 ?_
        refine r_iload d_Shares_sumBy_59 rfl ?_
        refine r_icmp_ne 81 d_Shares_sumBy_61 (by decide) (fun h_61 => ?_) (fun h_61 => ?_)
        · skip
          refine r_aload_n (i := 0) d_Shares_sumBy_81 rfl rfl ?_
          refine r_getr nf_Shares_26 lc_129 rfl d_Shares_sumBy_82 ?_
          refine r_aload_n (i := 3) d_Shares_sumBy_85 rfl rfl ?_
          refine r_iload d_Shares_sumBy_86 rfl ?_
          refine r_V2 v_Costs_countAsLeaf w_801 costs_134.1 (c_Costs_countAsLeaf costs_134 row_32 (by decide) (k := k) (mc := mc) (by omega) (by rw [r33]; exact hmc) hmk) (Nat.le_of_ble_eq_true rfl) (Nat.le_of_ble_eq_true rfl) d_Shares_sumBy_88 ?_
          refine r_iinc d_Shares_sumBy_91 rfl (nI_inc k) (Nat.le_of_ble_eq_true rfl) rfl ?_
          dsimp only [List.set]
          refine r_goto 13 d_Shares_sumBy_94 (by decide) ?_
          have e : smS mc (fun k i => (cX mc (M0 13) (M0 17) (M0 19) z tp lv C k i).2) (fun k => inS S (ak k) 0 l) ak (k + 1) = smS mc (fun k i => (cX mc (M0 13) (M0 17) (M0 19) z tp lv C k i).2) (fun k => inS S (ak k) 0 l) ak k := by
            rw [hsm, h_47, Bool.true_and, if_neg (fun q => h_61 (by rw [of_decide_eq_true q]))]
            rfl
          have := ih (k + 1) _ (by omega) (fun e e1 e2 e3 e4 => by unfold lfM; simp (disch := omega) only [ms_ne]; exact hF2 e e1 e2 e3 e4) (lf_next hX h6 hT (by rw [hC1, h_47, Bool.or_true]) (fun i => by rw [hC2 i, if_pos h_47]) (fun i => by simp only [h_47, if_true]))
          rw [e] at this
          exact this
        · skip
          have ek : ak k = k := (nI_eq (by omega) (by omega)).mp h_61
          have hmem := inS_mem l 0 h_47
          rw [ek] at hmem
          have hnl := (hx k hmem).2
          have hleaf : N2 (134 + 6) k = bI false := by rw [hX.2.1, upd_at]; show bI (decide (N 17 k = -9)) = _; rw [q17, decide_eq_false hnl]
          have hcost : N2 (134 + 2) (7 * k + mc 0) = nI (cX mc (M0 13) (M0 17) (M0 19) z tp lv C k (mc 0)).2 := by
            have h1 := hmk.1
            rw [hX.2.2.1, show 7 * k + mc 0 = 7 * k + 1 + (mc 0 - 1) by omega, pt_in (by omega)]
            show nI (cX mc (N 13) (N 17) (N 19) z tp lv C k (mc 0 - 1 + 1)).2 = _
            rw [hcx, show mc 0 - 1 + 1 = mc 0 by omega]
          refine r_iload d_Shares_sumBy_64 rfl ?_
          refine r_aload_n (i := 0) d_Shares_sumBy_66 rfl rfl ?_
          refine r_getr nf_Shares_26 lc_129 rfl d_Shares_sumBy_67 ?_
          refine r_aload_n (i := 3) d_Shares_sumBy_70 rfl rfl ?_
          refine r_iload d_Shares_sumBy_71 rfl ?_
          refine r_iload d_Shares_sumBy_73 rfl ?_
          refine r_VN3 v_Costs_keptOf w_800 costs_134.1 (CF_eq (c2_Costs_keptOf costs_134 row_32 (k := k) (i := mc 0) (b := false) (v := (cX mc (M0 13) (M0 17) (M0 19) z tp lv C k (mc 0)).2) (mc := mc) _ (by omega) (by omega) hleaf (fun _ => hcost) (by rw [r33]; exact hmc 2 (by omega))) (r' := some (.int (nI ((cX mc (M0 13) (M0 17) (M0 19) z tp lv C k (mc 0)).2 + mc 2)))) rfl rfl) (Nat.le_of_ble_eq_true rfl) (Nat.le_of_ble_eq_true rfl) d_Shares_sumBy_75 ?_
          refine r_iadd d_Shares_sumBy_78 ?_
          rw [nI_add]
          refine r_istore d_Shares_sumBy_79 (Nat.le_of_ble_eq_true rfl) rfl ?_
          dsimp only [List.set]
          refine r_aload_n (i := 0) d_Shares_sumBy_81 rfl rfl ?_
          refine r_getr nf_Shares_26 lc_129 rfl d_Shares_sumBy_82 ?_
          refine r_aload_n (i := 3) d_Shares_sumBy_85 rfl rfl ?_
          refine r_iload d_Shares_sumBy_86 rfl ?_
          refine r_V2 v_Costs_countAsLeaf w_801 costs_134.1 (c_Costs_countAsLeaf costs_134 row_32 (by decide) (k := k) (mc := mc) (by omega) (by rw [r33]; exact hmc) hmk) (Nat.le_of_ble_eq_true rfl) (Nat.le_of_ble_eq_true rfl) d_Shares_sumBy_88 ?_
          refine r_iinc d_Shares_sumBy_91 rfl (nI_inc k) (Nat.le_of_ble_eq_true rfl) rfl ?_
          dsimp only [List.set]
          refine r_goto 13 d_Shares_sumBy_94 (by decide) ?_
          have e : smS mc (fun k i => (cX mc (M0 13) (M0 17) (M0 19) z tp lv C k i).2) (fun k => inS S (ak k) 0 l) ak (k + 1) = smS mc (fun k i => (cX mc (M0 13) (M0 17) (M0 19) z tp lv C k i).2) (fun k => inS S (ak k) 0 l) ak k + ((cX mc (M0 13) (M0 17) (M0 19) z tp lv C k (mc 0)).2 + mc 2) := by
            rw [hsm, h_47, Bool.true_and, if_pos (decide_eq_true ek)]
          have := ih (k + 1) _ (by omega) (fun e e1 e2 e3 e4 => by unfold lfM; simp (disch := omega) only [ms_ne]; exact hF2 e e1 e2 e3 e4) (lf_next hX h6 hT (by rw [hC1, h_47, Bool.or_true]) (fun i => by rw [hC2 i, if_pos h_47]) (fun i => by simp only [h_47, if_true]))
          rw [e] at this
          exact this

theorem c_Shares_sumBy {n S : Nat} {M0 : nw_M} {z : Nat → Nat} {tp lv : Nat → Bool} {ak : Nat → Nat} {mc : Nat → Nat} {C : Nat → Nat → Nat} {l : List Nat} (hS : S < 32) (hw : WF n (M0 13) (M0 15) (M0 17) (M0 19) z) (hn0 : 0 < n) (hs : M0 11 9 = nI n) (htp : ∀ j, j < n → M0 25 j = bI (tp j)) (ha : ∀ j, j < n → M0 29 j = nI (ak j)) (hak : ∀ j, j < n → ak j ≤ j) (hmc : ∀ j, j < 5 → M0 33 j = nI (mc j)) (hmk : MOK mc) (hl : l.length ≤ 5) (hx : ∀ x ∈ l, x < n ∧ M0 17 x ≠ -9) (hSF : SF n ak l M0) (hC : CTb n mc (M0 13) (M0 17) (M0 19) z tp lv (fun k => inS S (ak k) 0 l) C) : CJ G LC m_Shares_sumBy 5 [.ref (G.2.2 129), .int (nI S), .ref (G.2.2 11), .ref (G.2.2 32)] M0 (fun v N => v = some (.int (nI (smS mc (fun k i => (cX mc (M0 13) (M0 17) (M0 19) z tp lv C k i).2) (fun k => inS S (ak k) 0 l) ak n + C (n - 1) (mc 0)))) ∧ (∀ e, e ≠ 134 → e ≠ 136 → e ≠ 138 → e ≠ 140 → N e = M0 e)) := by
  obtain ⟨g0, g1, g2, g3, g4⟩ := mrow hmc
  refine CJ_of2 (n0 := 3) (by decide) rfl rfl ?_
  simp only [List.map_cons, List.map_nil, List.cons_append, List.nil_append, List.reduceReplicate]
  refine r_iconst 0 d_Shares_sumBy_0 ic_0 ?_
  refine r_istore d_Shares_sumBy_1 (Nat.le_of_ble_eq_true rfl) rfl ?_
  dsimp only [List.set]
  refine r_aload_n (i := 3) d_Shares_sumBy_3 rfl rfl ?_
  refine r_iconst 0 d_Shares_sumBy_4 ic_0 ?_
  refine r_V1 v_Row_get w_520 row_32.1 (c_Row_get row_32 _ _ ) (Nat.le_of_ble_eq_true rfl) (Nat.le_of_ble_eq_true rfl) d_Shares_sumBy_5 ?_
  rw [show rg 5 (M0 33) 0 = nI (mc 0) from g0]
  refine r_istore d_Shares_sumBy_8 (Nat.le_of_ble_eq_true rfl) rfl ?_
  dsimp only [List.set]
  refine r_iconst 0 d_Shares_sumBy_10 ic_0 ?_
  refine r_istore d_Shares_sumBy_11 (Nat.le_of_ble_eq_true rfl) rfl ?_
  dsimp only [List.set]
  exact l_Shares_sumBy hS hw hn0 hs htp ha hak hmc hmk hl hx hSF hC (fun N h => ⟨rfl, h⟩) n 0 M0 (by omega) (fun _ _ _ _ _ => rfl) (fun j hj => by omega)

theorem l_Shares_weigh {n : Nat} {M0 : nw_M} {z : Nat → Nat} {tp : Nat → Bool} {ak : Nat → Nat} {mc : Nat → Nat} {l : List Nat} {V : Nat → Nat} (hw : WF n (M0 13) (M0 15) (M0 17) (M0 19) z) (hn0 : 0 < n) (hs : M0 11 9 = nI n) (htp : ∀ j, j < n → M0 25 j = bI (tp j)) (ha : ∀ j, j < n → M0 29 j = nI (ak j)) (hak : ∀ j, j < n → ak j ≤ j) (hmc : ∀ j, j < 5 → M0 33 j = nI (mc j)) (hmk : MOK mc) (hl : l.length ≤ 5) (hx : ∀ x ∈ l, x < n ∧ M0 17 x ≠ -9) (hV : ∀ S, S < 32 → IsSum n mc (M0 13) (M0 17) (M0 19) z tp ak l S (V S)) (hVb : ∀ S, S < 32 → V S < 2 ^ 30) (hrow : ∀ (c x : Nat), l[c]? = some x → M0 131 c = nI x ∧ M0 133 c = nI (occ ak x n)) {P : Option Value → nw_M → Prop} (hP : ∀ N, (∀ e, e ≠ 129 → e ≠ 134 → e ≠ 136 → e ≠ 138 → e ≠ 140 → N e = M0 e) → N 129 3 = nI l.length → N 129 6 = 1 → N 129 4 = nI (wg V (2 ^ l.length - 1)).1 → N 129 5 = nI (wg V (2 ^ l.length - 1)).2 → P none N) : ∀ (d m : Nat) (o4 : Option Value) (N : nw_M), m + d = 2 ^ l.length → 1 ≤ m → (∀ e, e ≠ 129 → e ≠ 134 → e ≠ 136 → e ≠ 138 → e ≠ 140 → N e = M0 e) → N 129 3 = nI l.length → N 129 6 = 1 → N 129 4 = nI (wg V (m - 1)).1 → N 129 5 = nI (wg V (m - 1)).2 → RJ G LC m_Shares_weigh 6 P 31 [some (.ref (G.2.2 129)), some (.ref (G.2.2 11)), some (.ref (G.2.2 32)), some (.int (nI m)), o4] [] N := by
  have hn := hw.1
  have hsum : ∀ (S : Nat) (N : nw_M), S < 32 → (∀ e, e ≠ 129 → e ≠ 134 → e ≠ 136 → e ≠ 138 → e ≠ 140 → N e = M0 e) → N 129 3 = nI l.length → (∀ (c x : Nat), l[c]? = some x → N 131 c = nI x ∧ N 133 c = nI (occ ak x n)) → CJ G LC m_Shares_sumBy 5 [.ref (G.2.2 129), .int (nI S), .ref (G.2.2 11), .ref (G.2.2 32)] N (fun v N2 => v = some (.int (nI (V S))) ∧ ∀ e, e ≠ 134 → e ≠ 136 → e ≠ 138 → e ≠ 140 → N2 e = N e) := by
    intro S N hS hF h3 hrow
    obtain ⟨lv, C, hC, hv⟩ := hV S hS
    have q13 : N 13 = M0 13 := hF _ (by omega) (by omega) (by omega) (by omega) (by omega)
    have q15 : N 15 = M0 15 := hF _ (by omega) (by omega) (by omega) (by omega) (by omega)
    have q17 : N 17 = M0 17 := hF _ (by omega) (by omega) (by omega) (by omega) (by omega)
    have q19 : N 19 = M0 19 := hF _ (by omega) (by omega) (by omega) (by omega) (by omega)
    have q11 : N 11 = M0 11 := hF _ (by omega) (by omega) (by omega) (by omega) (by omega)
    have q25 : N 25 = M0 25 := hF _ (by omega) (by omega) (by omega) (by omega) (by omega)
    have q29 : N 29 = M0 29 := hF _ (by omega) (by omega) (by omega) (by omega) (by omega)
    have q33 : N 33 = M0 33 := hF _ (by omega) (by omega) (by omega) (by omega) (by omega)
    have := c_Shares_sumBy (G := G) (M0 := N) (z := z) (tp := tp) (lv := lv) (ak := ak) (mc := mc) (C := C) (l := l) hS (by rw [q13, q15, q17, q19]; exact hw) hn0 (by rw [q11]; exact hs) (by rw [q25]; exact htp) (by rw [q29]; exact ha) hak (by rw [q33]; exact hmc) hmk hl (by rw [q17]; exact hx) ⟨h3, hrow⟩ (by rw [q13, q17, q19]; exact hC)
    rw [q13, q17, q19, ← hv] at this
    exact this
  have h32 : 2 ^ l.length ≤ 32 := by
    have : 2 ^ l.length ≤ 2 ^ 5 := Nat.pow_le_pow_right (by omega) hl
    omega
  have hwgb : ∀ m, m < 32 → (wg V m).1 < 2 ^ 30 := by
    intro m
    induction m with
    | zero => intro _; exact hVb 0 (by omega)
    | succ m ih =>
      intro hm
      rw [wg]
      split
      · exact hVb _ hm
      · exact ih (by omega)
  intro d
  induction d with
  | zero =>
    intro m o4 N hm h1 hF h3 h6 h4 h5
    simp only [Nat.add_zero] at hm
    subst hm
    refine r_iload_n (i := 3) d_Shares_weigh_31 rfl rfl ?_
    refine r_iconst 1 d_Shares_weigh_32 ic_1 ?_
    refine r_aload_n (i := 0) d_Shares_weigh_33 rfl rfl ?_
    refine r_geti nf_Shares_30 lc_129 rfl d_Shares_weigh_34 ?_
    refine r_ishl d_Shares_weigh_37 ?_
    rw [h3, shl32 _ (by omega)]
    refine r_icmp_ge 76 d_Shares_weigh_38 (by decide) (fun _ => ?_) (fun h9 => absurd (nI_le (Nat.le_refl _) (by omega)) h9)
    exact r_vret rfl d_Shares_weigh_76 (hP N hF h3 h6 h4 h5)
  | succ d ih =>
    intro m o4 N hm h1 hF h3 h6 h4 h5
    have hm32 : m < 32 := by omega
    refine r_iload_n (i := 3) d_Shares_weigh_31 rfl rfl ?_
    refine r_iconst 1 d_Shares_weigh_32 ic_1 ?_
    refine r_aload_n (i := 0) d_Shares_weigh_33 rfl rfl ?_
    refine r_geti nf_Shares_30 lc_129 rfl d_Shares_weigh_34 ?_
    refine r_ishl d_Shares_weigh_37 ?_
    rw [h3, shl32 _ (by omega)]
    refine r_icmp_ge 76 d_Shares_weigh_38 (by decide) (fun h_38 => ?_) (fun h_38 => ?_)
    · skip
      exact absurd h_38 (nI_ge (by omega) (by omega))
    · skip
      refine r_aload_n (i := 0) d_Shares_weigh_41 rfl rfl ?_
      refine r_iload_n (i := 3) d_Shares_weigh_42 rfl rfl ?_
      refine r_aload_n (i := 1) d_Shares_weigh_43 rfl rfl ?_
      refine r_aload_n (i := 2) d_Shares_weigh_44 rfl rfl ?_
      refine r_W3 v_Shares_sumBy w_791 lc_129 (hsum m N hm32 hF h3 (by rw [hF 131 (by omega) (by omega) (by omega) (by omega) (by omega), hF 133 (by omega) (by omega) (by omega) (by omega) (by omega)]; exact hrow)) (Nat.le_of_ble_eq_true rfl) (Nat.le_of_ble_eq_true rfl) d_Shares_weigh_45 (fun v N2 hv => ?_)
      obtain ⟨rfl, hF2⟩ := hv
      have g129 : N2 129 = N 129 := hF2 _ (by omega) (by omega) (by omega) (by omega)
      have hF3 : ∀ e, e ≠ 129 → e ≠ 134 → e ≠ 136 → e ≠ 138 → e ≠ 140 → N2 e = M0 e := fun e e1 e2 e3 e4 e5 => by rw [hF2 e e2 e3 e4 e5]; exact hF e e1 e2 e3 e4 e5
      refine r_istore d_Shares_weigh_48 (Nat.le_of_ble_eq_true rfl) rfl ?_
      dsimp only [List.set]
      refine r_iload d_Shares_weigh_50 rfl ?_
      refine r_aload_n (i := 0) d_Shares_weigh_52 rfl rfl ?_
      refine r_geti nf_Shares_72 lc_129 rfl d_Shares_weigh_53 ?_
      rw [g129, h4]
      refine r_icmp_ge 70 d_Shares_weigh_56 (by decide) (fun h_56 => ?_) (fun h_56 => ?_)
      · skip
        refine r_iinc d_Shares_weigh_70 rfl (nI_inc m) (Nat.le_of_ble_eq_true rfl) rfl ?_
        dsimp only [List.set]
        refine r_goto 31 d_Shares_weigh_73 (by decide) ?_
        have b1 := hwgb (m - 1) (by omega)
        have b2 := hVb m hm32
        have e : wg V (m + 1 - 1) = wg V (m - 1) := by
          rw [show m + 1 - 1 = (m - 1) + 1 by omega, wg, if_neg]
          rw [show m - 1 + 1 = m by omega]
          have := (nI_leI (by omega) (by omega)).mp h_56
          omega
        refine ih (m + 1) _ N2 (by omega) (by omega) hF3 (by rw [g129]; exact h3) (by rw [g129]; exact h6) (by rw [e, g129]; exact h4) (by rw [e, g129]; exact h5)
      · skip
        refine r_aload_n (i := 0) d_Shares_weigh_59 rfl rfl ?_
        refine r_iload d_Shares_weigh_60 rfl ?_
        refine r_puti nf_Shares_72 nfin_Shares_4 lc_129 rfl d_Shares_weigh_62 ?_
        refine r_aload_n (i := 0) d_Shares_weigh_65 rfl rfl ?_
        refine r_iload_n (i := 3) d_Shares_weigh_66 rfl rfl ?_
        refine r_puti nf_Shares_65 nfin_Shares_5 lc_129 rfl d_Shares_weigh_67 ?_
        refine r_iinc d_Shares_weigh_70 rfl (nI_inc m) (Nat.le_of_ble_eq_true rfl) rfl ?_
        dsimp only [List.set]
        refine r_goto 31 d_Shares_weigh_73 (by decide) ?_
        have b1 := hwgb (m - 1) (by omega)
        have b2 := hVb m hm32
        have e : wg V (m + 1 - 1) = (V m, m) := by
          rw [show m + 1 - 1 = (m - 1) + 1 by omega, wg, if_pos, show m - 1 + 1 = m by omega]
          rw [show m - 1 + 1 = m by omega]
          rcases Nat.lt_or_ge (V m) (wg V (m - 1)).1 with q | q
          · exact q
          · exact absurd (nI_le q (by omega)) h_56
        refine ih (m + 1) _ _ (by omega) (by omega) (fun e e1 e2 e3 e4 e5 => by simp (disch := omega) only [ms_ne]; exact hF3 e e1 e2 e3 e4 e5) ?_ ?_ ?_ ?_
        · simp (disch := omega) only [ms_same, upd_ne]; rw [g129]; exact h3
        · simp (disch := omega) only [ms_same, upd_ne]; rw [g129]; exact h6
        · rw [e]; simp (disch := omega) only [ms_same, upd_ne, upd_at]
        · rw [e]; simp (disch := omega) only [ms_same, upd_at]

theorem c_Shares_weigh {n : Nat} {M0 : nw_M} {z : Nat → Nat} {tp : Nat → Bool} {ak : Nat → Nat} {mc : Nat → Nat} {l : List Nat} {V : Nat → Nat} (hw : WF n (M0 13) (M0 15) (M0 17) (M0 19) z) (hn0 : 0 < n) (hs : M0 11 9 = nI n) (htp : ∀ j, j < n → M0 25 j = bI (tp j)) (ha : ∀ j, j < n → M0 29 j = nI (ak j)) (hak : ∀ j, j < n → ak j ≤ j) (hmc : ∀ j, j < 5 → M0 33 j = nI (mc j)) (hmk : MOK mc) (hl : l.length ≤ 5) (hx : ∀ x ∈ l, x < n ∧ M0 17 x ≠ -9) (hV : ∀ S, S < 32 → IsSum n mc (M0 13) (M0 17) (M0 19) z tp ak l S (V S)) (hVb : ∀ S, S < 32 → V S < 2 ^ 30) (hSF : SF n ak l M0) (hwd : M0 129 6 = 0 ∨ (M0 129 6 = 1 ∧ M0 129 4 = nI (wg V (2 ^ l.length - 1)).1 ∧ M0 129 5 = nI (wg V (2 ^ l.length - 1)).2)) : CJ G LC m_Shares_weigh 6 [.ref (G.2.2 129), .ref (G.2.2 11), .ref (G.2.2 32)] M0 (fun v N => v = none ∧ (∀ e, e ≠ 129 → e ≠ 134 → e ≠ 136 → e ≠ 138 → e ≠ 140 → N e = M0 e) ∧ N 129 3 = nI l.length ∧ N 129 6 = 1 ∧ N 129 4 = nI (wg V (2 ^ l.length - 1)).1 ∧ N 129 5 = nI (wg V (2 ^ l.length - 1)).2) := by
  have hn := hw.1
  have hsum : ∀ (S : Nat) (N : nw_M), S < 32 → (∀ e, e ≠ 129 → e ≠ 134 → e ≠ 136 → e ≠ 138 → e ≠ 140 → N e = M0 e) → N 129 3 = nI l.length → (∀ (c x : Nat), l[c]? = some x → N 131 c = nI x ∧ N 133 c = nI (occ ak x n)) → CJ G LC m_Shares_sumBy 5 [.ref (G.2.2 129), .int (nI S), .ref (G.2.2 11), .ref (G.2.2 32)] N (fun v N2 => v = some (.int (nI (V S))) ∧ ∀ e, e ≠ 134 → e ≠ 136 → e ≠ 138 → e ≠ 140 → N2 e = N e) := by
    intro S N hS hF h3 hrow
    obtain ⟨lv, C, hC, hv⟩ := hV S hS
    have q13 : N 13 = M0 13 := hF _ (by omega) (by omega) (by omega) (by omega) (by omega)
    have q15 : N 15 = M0 15 := hF _ (by omega) (by omega) (by omega) (by omega) (by omega)
    have q17 : N 17 = M0 17 := hF _ (by omega) (by omega) (by omega) (by omega) (by omega)
    have q19 : N 19 = M0 19 := hF _ (by omega) (by omega) (by omega) (by omega) (by omega)
    have q11 : N 11 = M0 11 := hF _ (by omega) (by omega) (by omega) (by omega) (by omega)
    have q25 : N 25 = M0 25 := hF _ (by omega) (by omega) (by omega) (by omega) (by omega)
    have q29 : N 29 = M0 29 := hF _ (by omega) (by omega) (by omega) (by omega) (by omega)
    have q33 : N 33 = M0 33 := hF _ (by omega) (by omega) (by omega) (by omega) (by omega)
    have := c_Shares_sumBy (G := G) (M0 := N) (z := z) (tp := tp) (lv := lv) (ak := ak) (mc := mc) (C := C) (l := l) hS (by rw [q13, q15, q17, q19]; exact hw) hn0 (by rw [q11]; exact hs) (by rw [q25]; exact htp) (by rw [q29]; exact ha) hak (by rw [q33]; exact hmc) hmk hl (by rw [q17]; exact hx) ⟨h3, hrow⟩ (by rw [q13, q17, q19]; exact hC)
    rw [q13, q17, q19, ← hv] at this
    exact this
  refine CJ_of2 (n0 := 2) (by decide) rfl rfl ?_
  simp only [List.map_cons, List.map_nil, List.cons_append, List.nil_append, List.reduceReplicate]
  refine r_aload_n (i := 0) d_Shares_weigh_0 rfl rfl ?_
  refine r_geti nf_Shares_34 lc_129 rfl d_Shares_weigh_1 ?_
  refine r_if_eq 8 d_Shares_weigh_4 (by decide) (fun h_4 => ?_) (fun h_4 => ?_)
  · skip
    have hrow := hSF.2
    refine r_aload_n (i := 0) d_Shares_weigh_8 rfl rfl ?_
    refine r_iconst 1 d_Shares_weigh_9 ic_1 ?_
    refine r_putz nf_Shares_34 nfin_Shares_6 (by decide) lc_129 rfl d_Shares_weigh_10 ?_
    refine r_aload_n (i := 0) d_Shares_weigh_13 rfl rfl ?_
    refine r_iconst 0 d_Shares_weigh_14 ic_0 ?_
    refine r_puti nf_Shares_65 nfin_Shares_5 lc_129 rfl d_Shares_weigh_15 ?_
    refine r_aload_n (i := 0) d_Shares_weigh_18 rfl rfl ?_
    refine r_aload_n (i := 0) d_Shares_weigh_19 rfl rfl ?_
    refine r_iconst 0 d_Shares_weigh_20 ic_0 ?_
    refine r_aload_n (i := 1) d_Shares_weigh_21 rfl rfl ?_
    refine r_aload_n (i := 2) d_Shares_weigh_22 rfl rfl ?_
    refine r_W3 v_Shares_sumBy w_791 lc_129 (hsum 0 _ (by omega) (fun e e1 e2 e3 e4 e5 => by simp (disch := omega) only [ms_ne]) (by simp (disch := omega) only [ms_same, ms_ne, upd_ne]; exact hSF.1) (by simp (disch := omega) only [ms_ne]; exact hSF.2)) (Nat.le_of_ble_eq_true rfl) (Nat.le_of_ble_eq_true rfl) d_Shares_weigh_23 (fun v N2 hv => ?_)
    obtain ⟨rfl, hF2⟩ := hv
    have g129 := hF2 129 (by omega) (by omega) (by omega) (by omega)
    refine r_puti nf_Shares_72 nfin_Shares_4 lc_129 rfl d_Shares_weigh_26 ?_
    refine r_iconst 1 d_Shares_weigh_29 ic_1 ?_
    refine r_istore_n (i := 3) d_Shares_weigh_30 rfl (Nat.le_of_ble_eq_true rfl) rfl ?_
    dsimp only [List.set]
    refine l_Shares_weigh hw hn0 hs htp ha hak hmc hmk hl hx hV hVb hSF.2 (fun N h1 h2 h3 h4 h5 => ⟨rfl, h1, h2, h3, h4, h5⟩) (2 ^ l.length - 1) 1 _ _ (by have : 0 < 2 ^ l.length := Nat.two_pow_pos _; omega) (by omega) (fun e e1 e2 e3 e4 e5 => ?_) ?_ ?_ ?_ ?_
    · simp (disch := omega) only [ms_ne]
      rw [hF2 e e2 e3 e4 e5]
      simp (disch := omega) only [ms_ne]
    · simp (disch := omega) only [ms_same, upd_ne]
      rw [g129]
      simp (disch := omega) only [ms_same, upd_ne]
      exact hSF.1
    · simp (disch := omega) only [ms_same, upd_ne]
      rw [g129]
      simp (disch := omega) only [ms_same, upd_ne, upd_at]
    · simp (disch := omega) only [ms_same, upd_at]
      rfl
    · simp (disch := omega) only [ms_same, upd_ne]
      rw [g129]
      simp (disch := omega) only [ms_same, upd_at]
      rfl
  · skip
    refine r_vret rfl d_Shares_weigh_7 ?_
    rcases hwd with q | ⟨q1, q2, q3⟩
    · exact absurd q h_4
    · exact ⟨rfl, fun _ _ _ _ _ _ => rfl, hSF.1, q1, q2, q3⟩

end MShr3
