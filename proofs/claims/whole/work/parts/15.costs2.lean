-- Costs: choose, fill
theorem best_pos (mc : Nat → Nat) (lv : Nat → Bool) (C : Nat → Nat → Nat) (l r i : Nat) (rf cm : Bool) : (best mc lv C l r i rf cm).1 ≠ 0 := by
  have key : ∀ (a : Nat × Nat) (p : Nat), (offr a 6 true p).1 ≠ 0 := by
    intro a p
    unfold offr
    by_cases h : (true && (a.1 == 0 || decide (p < a.2))) = true
    · rw [if_pos h]; show 6 ≠ 0; decide
    · rw [if_neg h]
      simp at h
      exact h.1
  exact key _ _
def CT (c k : Nat) (mc : Nat → Nat) (lv : Nat → Bool) (C Wy : Nat → Nat → Nat) (M : nw_M) : Prop := ∀ j, j < k → M (c + 6) j = bI (lv j) ∧ ∀ i, 1 ≤ i → i ≤ mc 0 → M (c + 2) (7 * j + i) = nI (C j i) ∧ M (c + 4) (7 * j + i) = nI (Wy j i)
theorem nI_m1 {i : Nat} (h : 1 ≤ i) : nI i - 1 = nI (i - 1) := by
  have := nI_pred (i - 1)
  rwa [show i - 1 + 1 = i by omega] at this
theorem mrow {f : Nat → Int32} {mc : Nat → Nat} (h : ∀ j, j < 5 → f j = nI (mc j)) : rg 5 f 0 = nI (mc 0) ∧ rg 5 f 1 = nI (mc 1) ∧ rg 5 f 2 = nI (mc 2) ∧ rg 5 f 3 = nI (mc 3) ∧ rg 5 f 4 = nI (mc 4) := by
  have key : ∀ j, j < 5 → rg 5 f (nI j) = nI (mc j) := fun j hj => by rw [rg_nI _ hj (by omega), h j hj]
  exact ⟨key 0 (by omega), key 1 (by omega), key 2 (by omega), key 3 (by omega), key 4 (by omega)⟩
theorem CJ_of2 {G : nw_G} {L : nw_L} {k : nk_T} {d n0 : Nat} {av : List Value} {M : nw_M} {P : Option Value → nw_M → Prop} (hp : plainName k.1.cls = true) (hc : av.all (fun v => v.category == 1) = true) (hn : av.length + n0 = k.2.2.1)
    (h : RJ G L k d P 0 (av.map some ++ List.replicate n0 none) [] M) : CJ G L k d av M P := by
  refine CJ_of hp hc (by omega) ?_
  rw [show k.2.2.1 - av.length = n0 by omega]
  exact h
section MCosts2
variable {G : nw_G}
set_option maxHeartbeats 4000000 in
theorem c_Costs_choose {c : Nat} (hc : isCosts c) {t : Nat} (ht : isTree t) {cm bm : Nat} (hm : isRow cm bm 5) (a1 : t + 18 < c) (a2 : bm < c) {n k i L R : Nat} {M : nw_M} {z : Nat → Nat} {tp lv : Nat → Bool} {mc : Nat → Nat} {C Wy : Nat → Nat → Nat} (hn : n ≤ 31) (hk : k < n) (hL : L < k) (hR : R < k) (eL : M (t + 6) k = nI L) (eR : M (t + 8) k = nI R) (htp : ∀ j, j < n → M (t + 14) j = bI (tp j)) (hmc : ∀ j, j < 5 → M bm j = nI (mc j)) (hmk : MOK mc) (hT : CT c k mc lv C Wy M) (hB : ∀ j i, j < k → C j i ≤ 1116) (hi1 : 1 ≤ i) (hi : i ≤ mc 0) : CJ G LC m_Costs_choose 3 [.ref (G.2.2 c), .ref (G.2.2 t), .ref (G.2.2 cm), .int (nI k), .int (nI i)] M (fun v N => v = none ∧ (∀ e, e ≠ c → e ≠ c + 2 → e ≠ c + 4 → N e = M e) ∧ N (c + 2) = upd (M (c + 2)) (7 * k + i) (nI (best mc lv C L R i (!(tp L && tp R)) (o_comm (M (t + 2) k))).2) ∧ N (c + 4) = upd (M (c + 4)) (7 * k + i) (nI (best mc lv C L R i (!(tp L && tp R)) (o_comm (M (t + 2) k))).1)) := by
  have hi6 : i ≤ 6 := Nat.le_trans hi hmk.2.1
  obtain ⟨g0, g1, g2, g3, g4⟩ := mrow hmc
  have m1 := hmk.2.2 1 (by omega) (by omega)
  have m2 := hmk.2.2 2 (by omega) (by omega)
  have m3 := hmk.2.2 3 (by omega) (by omega)
  have m4 := hmk.2.2 4 (by omega) (by omega)
  have bL := hB L i hL
  have bR := hB R i hR
  have bL' := hB L (i - 1) hL
  have bR' := hB R (i - 1) hR
  have kL : kpt mc lv C L i ≤ C L i + mc 2 := by unfold kpt; split <;> omega
  have kR : kpt mc lv C R i ≤ C R i + mc 2 := by unfold kpt; split <;> omega
  have cL := (hT L hL).2 i hi1 hi
  have cR := (hT R hR).2 i hi1 hi
  have lvL := (hT L hL).1
  have lvR := (hT R hR).1
  have tL := htp L (by omega)
  have tR := htp R (by omega)
  have w1 : ∀ q : Bool, (bI q == 1) = q := fun q => by cases q <;> rfl
  have pm : ∀ (f : Nat → Int32) (J : Nat), J < k → f = M (c + 2) → 2 ≤ i → rg 217 f (nI J * 7 + (nI i - 1)) = nI (C J (i - 1)) := fun f J hJ hf h2 => by
    rw [nI_m1 hi1, ix7, rg_nI _ (by omega) (by omega), hf, ((hT J hJ).2 (i - 1) (by omega) (by omega)).1]
  refine CJ_of2 (n0 := 11) (by decide) rfl rfl ?_
  simp only [List.map_cons, List.map_nil, List.cons_append, List.nil_append, List.reduceReplicate]
  refine r_aload_n (i := 1) d_Costs_choose_0 rfl rfl ?_
  refine r_getr nf_Costs_59 ht.1 rfl d_Costs_choose_1 ?_
  refine r_iload_n (i := 3) d_Costs_choose_4 rfl rfl ?_
  refine r_V1 v_Row_get w_541 (isTree.lefts ht).1 (c_Row_get (isTree.lefts ht) _ _ ) (Nat.le_of_ble_eq_true rfl) (Nat.le_of_ble_eq_true rfl) d_Costs_choose_5 ?_
  rw [rg_nI _ (by omega) (by omega), eL]
  refine r_istore d_Costs_choose_8 (Nat.le_of_ble_eq_true rfl) rfl ?_
  dsimp only [List.set]
  refine r_aload_n (i := 1) d_Costs_choose_10 rfl rfl ?_
  refine r_getr nf_Costs_69 ht.1 rfl d_Costs_choose_11 ?_
  refine r_iload_n (i := 3) d_Costs_choose_14 rfl rfl ?_
  refine r_V1 v_Row_get w_541 (isTree.rights ht).1 (c_Row_get (isTree.rights ht) _ _ ) (Nat.le_of_ble_eq_true rfl) (Nat.le_of_ble_eq_true rfl) d_Costs_choose_15 ?_
  rw [rg_nI _ (by omega) (by omega), eR]
  refine r_istore d_Costs_choose_18 (Nat.le_of_ble_eq_true rfl) rfl ?_
  dsimp only [List.set]
  refine r_aload_n (i := 2) d_Costs_choose_20 rfl rfl ?_
  refine r_iconst 1 d_Costs_choose_21 ic_1 ?_
  refine r_V1 v_Row_get w_541 hm.1 (c_Row_get hm _ _ ) (Nat.le_of_ble_eq_true rfl) (Nat.le_of_ble_eq_true rfl) d_Costs_choose_22 ?_
  rw [g1]
  refine r_istore d_Costs_choose_25 (Nat.le_of_ble_eq_true rfl) rfl ?_
  dsimp only [List.set]
  refine r_aload_n (i := 2) d_Costs_choose_27 rfl rfl ?_
  refine r_iconst 3 d_Costs_choose_28 ic_3 ?_
  refine r_V1 v_Row_get w_541 hm.1 (c_Row_get hm _ _ ) (Nat.le_of_ble_eq_true rfl) (Nat.le_of_ble_eq_true rfl) d_Costs_choose_29 ?_
  rw [g3]
  refine r_istore d_Costs_choose_32 (Nat.le_of_ble_eq_true rfl) rfl ?_
  dsimp only [List.set]
  refine r_aload_n (i := 2) d_Costs_choose_34 rfl rfl ?_
  refine r_iconst 4 d_Costs_choose_35 ic_4 ?_
  refine r_V1 v_Row_get w_541 hm.1 (c_Row_get hm _ _ ) (Nat.le_of_ble_eq_true rfl) (Nat.le_of_ble_eq_true rfl) d_Costs_choose_36 ?_
  rw [g4]
  refine r_istore d_Costs_choose_39 (Nat.le_of_ble_eq_true rfl) rfl ?_
  dsimp only [List.set]
  refine r_aload_n (i := 0) d_Costs_choose_41 rfl rfl ?_
  refine r_iload d_Costs_choose_42 rfl ?_
  refine r_iload d_Costs_choose_44 rfl ?_
  refine r_V2 v_Costs_costOf w_551 hc.1 (c2_Costs_costOf hc _ (by omega) cL.1) (Nat.le_of_ble_eq_true rfl) (Nat.le_of_ble_eq_true rfl) d_Costs_choose_46 ?_
  refine r_istore d_Costs_choose_49 (Nat.le_of_ble_eq_true rfl) rfl ?_
  dsimp only [List.set]
  refine r_aload_n (i := 0) d_Costs_choose_51 rfl rfl ?_
  refine r_iload d_Costs_choose_52 rfl ?_
  refine r_iload d_Costs_choose_54 rfl ?_
  refine r_V2 v_Costs_costOf w_551 hc.1 (c2_Costs_costOf hc _ (by omega) cR.1) (Nat.le_of_ble_eq_true rfl) (Nat.le_of_ble_eq_true rfl) d_Costs_choose_56 ?_
  refine r_istore d_Costs_choose_59 (Nat.le_of_ble_eq_true rfl) rfl ?_
  dsimp only [List.set]
  refine r_aload_n (i := 0) d_Costs_choose_61 rfl rfl ?_
  refine r_aload_n (i := 2) d_Costs_choose_62 rfl rfl ?_
  refine r_iload d_Costs_choose_63 rfl ?_
  refine r_iload d_Costs_choose_65 rfl ?_
  refine r_V3 v_Costs_keptOf w_555 hc.1 (CF_eq (c2_Costs_keptOf hc hm (b := lv L) (v := C L i) (mc := mc) _ (by omega) (by omega) lvL (fun _ => cL.1) (hmc 2 (by omega))) (r' := some (.int (nI (kpt mc lv C L i)))) rfl rfl) (Nat.le_of_ble_eq_true rfl) (Nat.le_of_ble_eq_true rfl) d_Costs_choose_67 ?_
  refine r_istore d_Costs_choose_70 (Nat.le_of_ble_eq_true rfl) rfl ?_
  dsimp only [List.set]
  refine r_aload_n (i := 0) d_Costs_choose_72 rfl rfl ?_
  refine r_aload_n (i := 2) d_Costs_choose_73 rfl rfl ?_
  refine r_iload d_Costs_choose_74 rfl ?_
  refine r_iload d_Costs_choose_76 rfl ?_
  refine r_V3 v_Costs_keptOf w_555 hc.1 (CF_eq (c2_Costs_keptOf hc hm (b := lv R) (v := C R i) (mc := mc) _ (by omega) (by omega) lvR (fun _ => cR.1) (hmc 2 (by omega))) (r' := some (.int (nI (kpt mc lv C R i)))) rfl rfl) (Nat.le_of_ble_eq_true rfl) (Nat.le_of_ble_eq_true rfl) d_Costs_choose_78 ?_
  refine r_istore d_Costs_choose_81 (Nat.le_of_ble_eq_true rfl) rfl ?_
  dsimp only [List.set]
  refine r_iload d_Costs_choose_83 rfl ?_
  refine r_iconst 2 d_Costs_choose_85 ic_2 ?_
  refine r_icmp_lt 93 d_Costs_choose_86 (by decide) (fun h_86 => ?_) (fun h_86 => ?_)
  · skip
    have hi2 : ¬ 2 ≤ i := fun q => absurd (show nI i < nI 2 from h_86) (nI_nlt q (by omega))
    refine r_iconst 0 d_Costs_choose_93 ic_0 ?_
    refine r_istore d_Costs_choose_94 (Nat.le_of_ble_eq_true rfl) rfl ?_
    dsimp only [List.set]
    refine r_aload_n (i := 1) d_Costs_choose_96 rfl rfl ?_
    refine r_iload_n (i := 3) d_Costs_choose_97 rfl rfl ?_
    refine r_V1 v_Tree_bothMayTrap w_559 ht.1 (c_Tree_bothMayTrap ht _ _ ) (Nat.le_of_ble_eq_true rfl) (Nat.le_of_ble_eq_true rfl) d_Costs_choose_98 ?_
    rw [rg_nI _ (by omega) (by omega), eL, rg_nI _ (by omega) (by omega), rg_nI _ (by omega) (by omega), eR, rg_nI _ (by omega) (by omega), tL, tR, w1, w1]
    refine r_if_ne 108 d_Costs_choose_101 (by decide) (fun h_101 => ?_) (fun h_101 => ?_)
    · skip
      rw [bI_t] at h_101
      have hrf : (!(tp L && tp R)) = false := by simp only [h_101]; rfl
      refine r_iconst 0 d_Costs_choose_108 ic_0 ?_
      refine r_istore d_Costs_choose_109 (Nat.le_of_ble_eq_true rfl) rfl ?_
      dsimp only [List.set]
      refine r_aload_n (i := 0) d_Costs_choose_111 rfl rfl ?_
      refine r_iconst 0 d_Costs_choose_112 ic_0 ?_
      refine r_puti nf_Costs_79 nfin_Costs_3 hc.1 rfl d_Costs_choose_113 ?_
      have hO0 : OfR (0, 0) ((ms M c (upd (M c) 3 0)) c 3) ((ms M c (upd (M c) 3 0)) c 4) := ⟨by simp [ms, upd]; rfl, Or.inl rfl, by decide, by decide⟩
      refine r_aload_n (i := 0) d_Costs_choose_116 rfl rfl ?_
      refine r_iconst 1 d_Costs_choose_117 ic_1 ?_
      refine r_iload d_Costs_choose_118 rfl ?_
      refine r_iload d_Costs_choose_120 rfl ?_
      refine r_aload_n (i := 0) d_Costs_choose_122 rfl rfl ?_
      refine r_iload d_Costs_choose_123 rfl ?_
      refine r_iload d_Costs_choose_125 rfl ?_
      refine r_iconst 1 d_Costs_choose_127 ic_1 ?_
      refine r_isub d_Costs_choose_128 ?_
      refine r_V2 v_Costs_costOf w_551 hc.1 (c_Costs_costOf hc _ _ _ ) (Nat.le_of_ble_eq_true rfl) (Nat.le_of_ble_eq_true rfl) d_Costs_choose_129 ?_
      refine r_iadd d_Costs_choose_132 ?_
      refine r_iload d_Costs_choose_133 rfl ?_
      refine r_iadd d_Costs_choose_135 ?_
      refine r_W3 v_Costs_offer w_563 hc.1 (c_Costs_offer hc _ _ _ _ (a := (0, 0)) (wn := 1) (q := C L i + C R (i - 1) + mc 3) (b := decide (2 ≤ i)) hO0 rfl (by decide) (by simp [bI, hi2, hrf]) (fun hb => ⟨by rw [pm _ R hR (by simp (disch := omega) only [ms_ne]) (by simpa using hb)]; simp only [nI_add], by omega⟩)) (Nat.le_of_ble_eq_true rfl) (Nat.le_of_ble_eq_true rfl) d_Costs_choose_136 (fun v N1 hv => ?_)
      obtain ⟨rfl, hF1, hO1⟩ := hv
      have F1 : ∀ e, e ≠ c → N1 e = M e := fun e he => by rw [hF1 e he]; simp (disch := omega) only [ms_ne]
      have f2_1 : N1 (c + 2) = M (c + 2) := F1 _ (by omega)
      refine r_aload_n (i := 0) d_Costs_choose_139 rfl rfl ?_
      refine r_iconst 2 d_Costs_choose_140 ic_2 ?_
      refine r_iload d_Costs_choose_141 rfl ?_
      refine r_if_eq 155 d_Costs_choose_143 (by decide) (fun h_143 => ?_) (fun h_143 => ?_)
      · skip
        refine r_iconst 0 d_Costs_choose_155 ic_0 ?_
        refine r_iload d_Costs_choose_156 rfl ?_
        refine r_aload_n (i := 0) d_Costs_choose_158 rfl rfl ?_
        refine r_iload d_Costs_choose_159 rfl ?_
        refine r_iload d_Costs_choose_161 rfl ?_
        refine r_iconst 1 d_Costs_choose_163 ic_1 ?_
        refine r_isub d_Costs_choose_164 ?_
        refine r_V2 v_Costs_costOf w_551 hc.1 (c_Costs_costOf hc _ _ _ ) (Nat.le_of_ble_eq_true rfl) (Nat.le_of_ble_eq_true rfl) d_Costs_choose_165 ?_
        refine r_iadd d_Costs_choose_168 ?_
        refine r_iload d_Costs_choose_169 rfl ?_
        refine r_iadd d_Costs_choose_171 ?_
        refine r_W3 v_Costs_offer w_563 hc.1 (c_Costs_offer hc _ _ _ _ (a := (offr (0, 0) 1 (decide (2 ≤ i)) (C L i + C R (i - 1) + mc 3))) (wn := 2) (q := C R i + C L (i - 1) + mc 3) (b := decide (2 ≤ i) && !(tp L && tp R)) hO1 rfl (by decide) (by simp [bI, hi2, hrf]) (fun hb => ⟨by rw [pm _ L hL f2_1 (by simp only [Bool.and_eq_true, decide_eq_true_eq] at hb; exact hb.1)]; simp only [nI_add], by omega⟩)) (Nat.le_of_ble_eq_true rfl) (Nat.le_of_ble_eq_true rfl) d_Costs_choose_172 (fun v N2 hv => ?_)
        obtain ⟨rfl, hF2, hO2⟩ := hv
        have F2 : ∀ e, e ≠ c → N2 e = M e := fun e he => (hF2 e he).trans (F1 e he)
        have f2_2 : N2 (c + 2) = M (c + 2) := F2 _ (by omega)
        refine r_aload_n (i := 0) d_Costs_choose_175 rfl rfl ?_
        refine r_iconst 3 d_Costs_choose_176 ic_3 ?_
        refine r_iload d_Costs_choose_177 rfl ?_
        refine r_iload d_Costs_choose_179 rfl ?_
        refine r_iload d_Costs_choose_181 rfl ?_
        refine r_iadd d_Costs_choose_183 ?_
        refine r_iload d_Costs_choose_184 rfl ?_
        refine r_iadd d_Costs_choose_186 ?_
        refine r_W3 v_Costs_offer w_563 hc.1 (c_Costs_offer hc _ _ _ _ (a := (offr (offr (0, 0) 1 (decide (2 ≤ i)) (C L i + C R (i - 1) + mc 3)) 2 (decide (2 ≤ i) && !(tp L && tp R)) (C R i + C L (i - 1) + mc 3))) (wn := 3) (q := kpt mc lv C R i + C L i + mc 4) (b := !(tp L && tp R)) hO2 rfl (by decide) (by simp [bI, hi2, hrf]) (fun hb => ⟨by simp only [nI_add], by omega⟩)) (Nat.le_of_ble_eq_true rfl) (Nat.le_of_ble_eq_true rfl) d_Costs_choose_187 (fun v N3 hv => ?_)
        obtain ⟨rfl, hF3, hO3⟩ := hv
        have F3 : ∀ e, e ≠ c → N3 e = M e := fun e he => (hF3 e he).trans (F2 e he)
        have f2_3 : N3 (c + 2) = M (c + 2) := F3 _ (by omega)
        refine r_aload_n (i := 0) d_Costs_choose_190 rfl rfl ?_
        refine r_iconst 4 d_Costs_choose_191 ic_4 ?_
        refine r_aload_n (i := 1) d_Costs_choose_192 rfl rfl ?_
        refine r_iload_n (i := 3) d_Costs_choose_193 rfl rfl ?_
        refine r_V1 v_Tree_isCommuting w_567 ht.1 (c_Tree_isCommuting ht _ _ ) (Nat.le_of_ble_eq_true rfl) (Nat.le_of_ble_eq_true rfl) d_Costs_choose_194 ?_
        refine r_iload d_Costs_choose_197 rfl ?_
        refine r_iload d_Costs_choose_199 rfl ?_
        refine r_iadd d_Costs_choose_201 ?_
        refine r_iload d_Costs_choose_202 rfl ?_
        refine r_iadd d_Costs_choose_204 ?_
        refine r_W3 v_Costs_offer w_563 hc.1 (c_Costs_offer hc _ _ _ _ (a := (offr (offr (offr (0, 0) 1 (decide (2 ≤ i)) (C L i + C R (i - 1) + mc 3)) 2 (decide (2 ≤ i) && !(tp L && tp R)) (C R i + C L (i - 1) + mc 3)) 3 (!(tp L && tp R)) (kpt mc lv C R i + C L i + mc 4))) (wn := 4) (q := kpt mc lv C L i + C R i + mc 4) (b := o_comm (M (t + 2) k)) hO3 rfl (by decide) (by rw [rg_nI _ (by omega) (by omega), F3 (t + 2) (by omega)]) (fun hb => ⟨by simp only [nI_add], by omega⟩)) (Nat.le_of_ble_eq_true rfl) (Nat.le_of_ble_eq_true rfl) d_Costs_choose_205 (fun v N4 hv => ?_)
        obtain ⟨rfl, hF4, hO4⟩ := hv
        have F4 : ∀ e, e ≠ c → N4 e = M e := fun e he => (hF4 e he).trans (F3 e he)
        have f2_4 : N4 (c + 2) = M (c + 2) := F4 _ (by omega)
        refine r_aload_n (i := 0) d_Costs_choose_208 rfl rfl ?_
        refine r_iconst 5 d_Costs_choose_209 ic_5 ?_
        refine r_iload d_Costs_choose_210 rfl ?_
        refine r_iload d_Costs_choose_212 rfl ?_
        refine r_iload d_Costs_choose_214 rfl ?_
        refine r_iadd d_Costs_choose_216 ?_
        refine r_iload d_Costs_choose_217 rfl ?_
        refine r_iadd d_Costs_choose_219 ?_
        refine r_iload d_Costs_choose_220 rfl ?_
        refine r_iadd d_Costs_choose_222 ?_
        refine r_W3 v_Costs_offer w_563 hc.1 (c_Costs_offer hc _ _ _ _ (a := (offr (offr (offr (offr (0, 0) 1 (decide (2 ≤ i)) (C L i + C R (i - 1) + mc 3)) 2 (decide (2 ≤ i) && !(tp L && tp R)) (C R i + C L (i - 1) + mc 3)) 3 (!(tp L && tp R)) (kpt mc lv C R i + C L i + mc 4)) 4 (o_comm (M (t + 2) k)) (kpt mc lv C L i + C R i + mc 4))) (wn := 5) (q := kpt mc lv C L i + C R i + mc 1 + mc 3) (b := decide (2 ≤ i)) hO4 rfl (by decide) (by simp [bI, hi2, hrf]) (fun hb => ⟨by simp only [nI_add], by omega⟩)) (Nat.le_of_ble_eq_true rfl) (Nat.le_of_ble_eq_true rfl) d_Costs_choose_223 (fun v N5 hv => ?_)
        obtain ⟨rfl, hF5, hO5⟩ := hv
        have F5 : ∀ e, e ≠ c → N5 e = M e := fun e he => (hF5 e he).trans (F4 e he)
        have f2_5 : N5 (c + 2) = M (c + 2) := F5 _ (by omega)
        refine r_aload_n (i := 0) d_Costs_choose_226 rfl rfl ?_
        refine r_bipush 6 d_Costs_choose_227 bp_6 ?_
        refine r_iconst 1 d_Costs_choose_229 ic_1 ?_
        refine r_iload d_Costs_choose_230 rfl ?_
        refine r_iload d_Costs_choose_232 rfl ?_
        refine r_iadd d_Costs_choose_234 ?_
        refine r_iload d_Costs_choose_235 rfl ?_
        refine r_iadd d_Costs_choose_237 ?_
        refine r_iload d_Costs_choose_238 rfl ?_
        refine r_iadd d_Costs_choose_240 ?_
        refine r_W3 v_Costs_offer w_563 hc.1 (c_Costs_offer hc _ _ _ _ (a := (offr (offr (offr (offr (offr (0, 0) 1 (decide (2 ≤ i)) (C L i + C R (i - 1) + mc 3)) 2 (decide (2 ≤ i) && !(tp L && tp R)) (C R i + C L (i - 1) + mc 3)) 3 (!(tp L && tp R)) (kpt mc lv C R i + C L i + mc 4)) 4 (o_comm (M (t + 2) k)) (kpt mc lv C L i + C R i + mc 4)) 5 (decide (2 ≤ i)) (kpt mc lv C L i + C R i + mc 1 + mc 3))) (wn := 6) (q := kpt mc lv C L i + kpt mc lv C R i + mc 1 + mc 4) (b := true) hO5 rfl (by decide) (rfl) (fun hb => ⟨by simp only [nI_add], by omega⟩)) (Nat.le_of_ble_eq_true rfl) (Nat.le_of_ble_eq_true rfl) d_Costs_choose_241 (fun v N6 hv => ?_)
        obtain ⟨rfl, hF6, hO6⟩ := hv
        have F6 : ∀ e, e ≠ c → N6 e = M e := fun e he => (hF6 e he).trans (F5 e he)
        have f2_6 : N6 (c + 2) = M (c + 2) := F6 _ (by omega)
        refine r_aload_n (i := 0) d_Costs_choose_244 rfl rfl ?_
        refine r_iload_n (i := 3) d_Costs_choose_245 rfl rfl ?_
        refine r_iload d_Costs_choose_246 rfl ?_
        refine r_aload_n (i := 0) d_Costs_choose_248 rfl rfl ?_
        refine r_geti nf_Costs_89 hc.1 rfl d_Costs_choose_249 ?_
        refine r_aload_n (i := 0) d_Costs_choose_252 rfl rfl ?_
        refine r_geti nf_Costs_79 hc.1 rfl d_Costs_choose_253 ?_
        refine r_V4 v_Costs_put w_542 hc.1 (c_Costs_put hc k i _ _ _ (by omega)) (Nat.le_of_ble_eq_true rfl) (Nat.le_of_ble_eq_true rfl) d_Costs_choose_256 ?_
        refine r_vret rfl d_Costs_choose_259 ?_
        have hb : OfR (best mc lv C L R i (!(tp L && tp R)) (o_comm (M (t + 2) k))) (N6 c 3) (N6 c 4) := hO6
        have f4_6 : N6 (c + 4) = M (c + 4) := F6 _ (by omega)
        have e4 := hb.2.1.resolve_left (best_pos _ _ _ _ _ _ _ _)
        refine ⟨rfl, fun e e1 e2 e3 => ?_, ?_, ?_⟩
        · simp (disch := omega) only [ms_ne]
          exact F6 e e1
        · simp (disch := omega) only [ms_same, ms_ne]
          rw [f2_6, e4]
        · simp (disch := omega) only [ms_same, ms_ne]
          rw [f4_6, hb.1]
      · exact absurd h_143 (by decide)
    · skip
      rw [bI_f] at h_101
      have hrf : (!(tp L && tp R)) = true := by simp only [h_101]; rfl
      refine r_iconst 1 d_Costs_choose_104 ic_1 ?_
      refine r_goto 109 d_Costs_choose_105 (by decide) ?_
      refine r_istore d_Costs_choose_109 (Nat.le_of_ble_eq_true rfl) rfl ?_
      dsimp only [List.set]
      refine r_aload_n (i := 0) d_Costs_choose_111 rfl rfl ?_
      refine r_iconst 0 d_Costs_choose_112 ic_0 ?_
      refine r_puti nf_Costs_79 nfin_Costs_3 hc.1 rfl d_Costs_choose_113 ?_
      have hO0 : OfR (0, 0) ((ms M c (upd (M c) 3 0)) c 3) ((ms M c (upd (M c) 3 0)) c 4) := ⟨by simp [ms, upd]; rfl, Or.inl rfl, by decide, by decide⟩
      refine r_aload_n (i := 0) d_Costs_choose_116 rfl rfl ?_
      refine r_iconst 1 d_Costs_choose_117 ic_1 ?_
      refine r_iload d_Costs_choose_118 rfl ?_
      refine r_iload d_Costs_choose_120 rfl ?_
      refine r_aload_n (i := 0) d_Costs_choose_122 rfl rfl ?_
      refine r_iload d_Costs_choose_123 rfl ?_
      refine r_iload d_Costs_choose_125 rfl ?_
      refine r_iconst 1 d_Costs_choose_127 ic_1 ?_
      refine r_isub d_Costs_choose_128 ?_
      refine r_V2 v_Costs_costOf w_551 hc.1 (c_Costs_costOf hc _ _ _ ) (Nat.le_of_ble_eq_true rfl) (Nat.le_of_ble_eq_true rfl) d_Costs_choose_129 ?_
      refine r_iadd d_Costs_choose_132 ?_
      refine r_iload d_Costs_choose_133 rfl ?_
      refine r_iadd d_Costs_choose_135 ?_
      refine r_W3 v_Costs_offer w_563 hc.1 (c_Costs_offer hc _ _ _ _ (a := (0, 0)) (wn := 1) (q := C L i + C R (i - 1) + mc 3) (b := decide (2 ≤ i)) hO0 rfl (by decide) (by simp [bI, hi2, hrf]) (fun hb => ⟨by rw [pm _ R hR (by simp (disch := omega) only [ms_ne]) (by simpa using hb)]; simp only [nI_add], by omega⟩)) (Nat.le_of_ble_eq_true rfl) (Nat.le_of_ble_eq_true rfl) d_Costs_choose_136 (fun v N1 hv => ?_)
      obtain ⟨rfl, hF1, hO1⟩ := hv
      have F1 : ∀ e, e ≠ c → N1 e = M e := fun e he => by rw [hF1 e he]; simp (disch := omega) only [ms_ne]
      have f2_1 : N1 (c + 2) = M (c + 2) := F1 _ (by omega)
      refine r_aload_n (i := 0) d_Costs_choose_139 rfl rfl ?_
      refine r_iconst 2 d_Costs_choose_140 ic_2 ?_
      refine r_iload d_Costs_choose_141 rfl ?_
      refine r_if_eq 155 d_Costs_choose_143 (by decide) (fun h_143 => ?_) (fun h_143 => ?_)
      · skip
        refine r_iconst 0 d_Costs_choose_155 ic_0 ?_
        refine r_iload d_Costs_choose_156 rfl ?_
        refine r_aload_n (i := 0) d_Costs_choose_158 rfl rfl ?_
        refine r_iload d_Costs_choose_159 rfl ?_
        refine r_iload d_Costs_choose_161 rfl ?_
        refine r_iconst 1 d_Costs_choose_163 ic_1 ?_
        refine r_isub d_Costs_choose_164 ?_
        refine r_V2 v_Costs_costOf w_551 hc.1 (c_Costs_costOf hc _ _ _ ) (Nat.le_of_ble_eq_true rfl) (Nat.le_of_ble_eq_true rfl) d_Costs_choose_165 ?_
        refine r_iadd d_Costs_choose_168 ?_
        refine r_iload d_Costs_choose_169 rfl ?_
        refine r_iadd d_Costs_choose_171 ?_
        refine r_W3 v_Costs_offer w_563 hc.1 (c_Costs_offer hc _ _ _ _ (a := (offr (0, 0) 1 (decide (2 ≤ i)) (C L i + C R (i - 1) + mc 3))) (wn := 2) (q := C R i + C L (i - 1) + mc 3) (b := decide (2 ≤ i) && !(tp L && tp R)) hO1 rfl (by decide) (by simp [bI, hi2, hrf]) (fun hb => ⟨by rw [pm _ L hL f2_1 (by simp only [Bool.and_eq_true, decide_eq_true_eq] at hb; exact hb.1)]; simp only [nI_add], by omega⟩)) (Nat.le_of_ble_eq_true rfl) (Nat.le_of_ble_eq_true rfl) d_Costs_choose_172 (fun v N2 hv => ?_)
        obtain ⟨rfl, hF2, hO2⟩ := hv
        have F2 : ∀ e, e ≠ c → N2 e = M e := fun e he => (hF2 e he).trans (F1 e he)
        have f2_2 : N2 (c + 2) = M (c + 2) := F2 _ (by omega)
        refine r_aload_n (i := 0) d_Costs_choose_175 rfl rfl ?_
        refine r_iconst 3 d_Costs_choose_176 ic_3 ?_
        refine r_iload d_Costs_choose_177 rfl ?_
        refine r_iload d_Costs_choose_179 rfl ?_
        refine r_iload d_Costs_choose_181 rfl ?_
        refine r_iadd d_Costs_choose_183 ?_
        refine r_iload d_Costs_choose_184 rfl ?_
        refine r_iadd d_Costs_choose_186 ?_
        refine r_W3 v_Costs_offer w_563 hc.1 (c_Costs_offer hc _ _ _ _ (a := (offr (offr (0, 0) 1 (decide (2 ≤ i)) (C L i + C R (i - 1) + mc 3)) 2 (decide (2 ≤ i) && !(tp L && tp R)) (C R i + C L (i - 1) + mc 3))) (wn := 3) (q := kpt mc lv C R i + C L i + mc 4) (b := !(tp L && tp R)) hO2 rfl (by decide) (by simp [bI, hi2, hrf]) (fun hb => ⟨by simp only [nI_add], by omega⟩)) (Nat.le_of_ble_eq_true rfl) (Nat.le_of_ble_eq_true rfl) d_Costs_choose_187 (fun v N3 hv => ?_)
        obtain ⟨rfl, hF3, hO3⟩ := hv
        have F3 : ∀ e, e ≠ c → N3 e = M e := fun e he => (hF3 e he).trans (F2 e he)
        have f2_3 : N3 (c + 2) = M (c + 2) := F3 _ (by omega)
        refine r_aload_n (i := 0) d_Costs_choose_190 rfl rfl ?_
        refine r_iconst 4 d_Costs_choose_191 ic_4 ?_
        refine r_aload_n (i := 1) d_Costs_choose_192 rfl rfl ?_
        refine r_iload_n (i := 3) d_Costs_choose_193 rfl rfl ?_
        refine r_V1 v_Tree_isCommuting w_567 ht.1 (c_Tree_isCommuting ht _ _ ) (Nat.le_of_ble_eq_true rfl) (Nat.le_of_ble_eq_true rfl) d_Costs_choose_194 ?_
        refine r_iload d_Costs_choose_197 rfl ?_
        refine r_iload d_Costs_choose_199 rfl ?_
        refine r_iadd d_Costs_choose_201 ?_
        refine r_iload d_Costs_choose_202 rfl ?_
        refine r_iadd d_Costs_choose_204 ?_
        refine r_W3 v_Costs_offer w_563 hc.1 (c_Costs_offer hc _ _ _ _ (a := (offr (offr (offr (0, 0) 1 (decide (2 ≤ i)) (C L i + C R (i - 1) + mc 3)) 2 (decide (2 ≤ i) && !(tp L && tp R)) (C R i + C L (i - 1) + mc 3)) 3 (!(tp L && tp R)) (kpt mc lv C R i + C L i + mc 4))) (wn := 4) (q := kpt mc lv C L i + C R i + mc 4) (b := o_comm (M (t + 2) k)) hO3 rfl (by decide) (by rw [rg_nI _ (by omega) (by omega), F3 (t + 2) (by omega)]) (fun hb => ⟨by simp only [nI_add], by omega⟩)) (Nat.le_of_ble_eq_true rfl) (Nat.le_of_ble_eq_true rfl) d_Costs_choose_205 (fun v N4 hv => ?_)
        obtain ⟨rfl, hF4, hO4⟩ := hv
        have F4 : ∀ e, e ≠ c → N4 e = M e := fun e he => (hF4 e he).trans (F3 e he)
        have f2_4 : N4 (c + 2) = M (c + 2) := F4 _ (by omega)
        refine r_aload_n (i := 0) d_Costs_choose_208 rfl rfl ?_
        refine r_iconst 5 d_Costs_choose_209 ic_5 ?_
        refine r_iload d_Costs_choose_210 rfl ?_
        refine r_iload d_Costs_choose_212 rfl ?_
        refine r_iload d_Costs_choose_214 rfl ?_
        refine r_iadd d_Costs_choose_216 ?_
        refine r_iload d_Costs_choose_217 rfl ?_
        refine r_iadd d_Costs_choose_219 ?_
        refine r_iload d_Costs_choose_220 rfl ?_
        refine r_iadd d_Costs_choose_222 ?_
        refine r_W3 v_Costs_offer w_563 hc.1 (c_Costs_offer hc _ _ _ _ (a := (offr (offr (offr (offr (0, 0) 1 (decide (2 ≤ i)) (C L i + C R (i - 1) + mc 3)) 2 (decide (2 ≤ i) && !(tp L && tp R)) (C R i + C L (i - 1) + mc 3)) 3 (!(tp L && tp R)) (kpt mc lv C R i + C L i + mc 4)) 4 (o_comm (M (t + 2) k)) (kpt mc lv C L i + C R i + mc 4))) (wn := 5) (q := kpt mc lv C L i + C R i + mc 1 + mc 3) (b := decide (2 ≤ i)) hO4 rfl (by decide) (by simp [bI, hi2, hrf]) (fun hb => ⟨by simp only [nI_add], by omega⟩)) (Nat.le_of_ble_eq_true rfl) (Nat.le_of_ble_eq_true rfl) d_Costs_choose_223 (fun v N5 hv => ?_)
        obtain ⟨rfl, hF5, hO5⟩ := hv
        have F5 : ∀ e, e ≠ c → N5 e = M e := fun e he => (hF5 e he).trans (F4 e he)
        have f2_5 : N5 (c + 2) = M (c + 2) := F5 _ (by omega)
        refine r_aload_n (i := 0) d_Costs_choose_226 rfl rfl ?_
        refine r_bipush 6 d_Costs_choose_227 bp_6 ?_
        refine r_iconst 1 d_Costs_choose_229 ic_1 ?_
        refine r_iload d_Costs_choose_230 rfl ?_
        refine r_iload d_Costs_choose_232 rfl ?_
        refine r_iadd d_Costs_choose_234 ?_
        refine r_iload d_Costs_choose_235 rfl ?_
        refine r_iadd d_Costs_choose_237 ?_
        refine r_iload d_Costs_choose_238 rfl ?_
        refine r_iadd d_Costs_choose_240 ?_
        refine r_W3 v_Costs_offer w_563 hc.1 (c_Costs_offer hc _ _ _ _ (a := (offr (offr (offr (offr (offr (0, 0) 1 (decide (2 ≤ i)) (C L i + C R (i - 1) + mc 3)) 2 (decide (2 ≤ i) && !(tp L && tp R)) (C R i + C L (i - 1) + mc 3)) 3 (!(tp L && tp R)) (kpt mc lv C R i + C L i + mc 4)) 4 (o_comm (M (t + 2) k)) (kpt mc lv C L i + C R i + mc 4)) 5 (decide (2 ≤ i)) (kpt mc lv C L i + C R i + mc 1 + mc 3))) (wn := 6) (q := kpt mc lv C L i + kpt mc lv C R i + mc 1 + mc 4) (b := true) hO5 rfl (by decide) (rfl) (fun hb => ⟨by simp only [nI_add], by omega⟩)) (Nat.le_of_ble_eq_true rfl) (Nat.le_of_ble_eq_true rfl) d_Costs_choose_241 (fun v N6 hv => ?_)
        obtain ⟨rfl, hF6, hO6⟩ := hv
        have F6 : ∀ e, e ≠ c → N6 e = M e := fun e he => (hF6 e he).trans (F5 e he)
        have f2_6 : N6 (c + 2) = M (c + 2) := F6 _ (by omega)
        refine r_aload_n (i := 0) d_Costs_choose_244 rfl rfl ?_
        refine r_iload_n (i := 3) d_Costs_choose_245 rfl rfl ?_
        refine r_iload d_Costs_choose_246 rfl ?_
        refine r_aload_n (i := 0) d_Costs_choose_248 rfl rfl ?_
        refine r_geti nf_Costs_89 hc.1 rfl d_Costs_choose_249 ?_
        refine r_aload_n (i := 0) d_Costs_choose_252 rfl rfl ?_
        refine r_geti nf_Costs_79 hc.1 rfl d_Costs_choose_253 ?_
        refine r_V4 v_Costs_put w_542 hc.1 (c_Costs_put hc k i _ _ _ (by omega)) (Nat.le_of_ble_eq_true rfl) (Nat.le_of_ble_eq_true rfl) d_Costs_choose_256 ?_
        refine r_vret rfl d_Costs_choose_259 ?_
        have hb : OfR (best mc lv C L R i (!(tp L && tp R)) (o_comm (M (t + 2) k))) (N6 c 3) (N6 c 4) := hO6
        have f4_6 : N6 (c + 4) = M (c + 4) := F6 _ (by omega)
        have e4 := hb.2.1.resolve_left (best_pos _ _ _ _ _ _ _ _)
        refine ⟨rfl, fun e e1 e2 e3 => ?_, ?_, ?_⟩
        · simp (disch := omega) only [ms_ne]
          exact F6 e e1
        · simp (disch := omega) only [ms_same, ms_ne]
          rw [f2_6, e4]
        · simp (disch := omega) only [ms_same, ms_ne]
          rw [f4_6, hb.1]
      · exact absurd h_143 (by decide)
  · skip
    have hi2 : 2 ≤ i := by
      rcases Nat.lt_or_ge i 2 with q | q
      · exact absurd (show nI i < nI 2 from nI_lt q (by omega)) h_86
      · exact q
    refine r_iconst 1 d_Costs_choose_89 ic_1 ?_
    refine r_goto 94 d_Costs_choose_90 (by decide) ?_
    refine r_istore d_Costs_choose_94 (Nat.le_of_ble_eq_true rfl) rfl ?_
    dsimp only [List.set]
    refine r_aload_n (i := 1) d_Costs_choose_96 rfl rfl ?_
    refine r_iload_n (i := 3) d_Costs_choose_97 rfl rfl ?_
    refine r_V1 v_Tree_bothMayTrap w_559 ht.1 (c_Tree_bothMayTrap ht _ _ ) (Nat.le_of_ble_eq_true rfl) (Nat.le_of_ble_eq_true rfl) d_Costs_choose_98 ?_
    rw [rg_nI _ (by omega) (by omega), eL, rg_nI _ (by omega) (by omega), rg_nI _ (by omega) (by omega), eR, rg_nI _ (by omega) (by omega), tL, tR, w1, w1]
    refine r_if_ne 108 d_Costs_choose_101 (by decide) (fun h_101 => ?_) (fun h_101 => ?_)
    · skip
      rw [bI_t] at h_101
      have hrf : (!(tp L && tp R)) = false := by simp only [h_101]; rfl
      refine r_iconst 0 d_Costs_choose_108 ic_0 ?_
      refine r_istore d_Costs_choose_109 (Nat.le_of_ble_eq_true rfl) rfl ?_
      dsimp only [List.set]
      refine r_aload_n (i := 0) d_Costs_choose_111 rfl rfl ?_
      refine r_iconst 0 d_Costs_choose_112 ic_0 ?_
      refine r_puti nf_Costs_79 nfin_Costs_3 hc.1 rfl d_Costs_choose_113 ?_
      have hO0 : OfR (0, 0) ((ms M c (upd (M c) 3 0)) c 3) ((ms M c (upd (M c) 3 0)) c 4) := ⟨by simp [ms, upd]; rfl, Or.inl rfl, by decide, by decide⟩
      refine r_aload_n (i := 0) d_Costs_choose_116 rfl rfl ?_
      refine r_iconst 1 d_Costs_choose_117 ic_1 ?_
      refine r_iload d_Costs_choose_118 rfl ?_
      refine r_iload d_Costs_choose_120 rfl ?_
      refine r_aload_n (i := 0) d_Costs_choose_122 rfl rfl ?_
      refine r_iload d_Costs_choose_123 rfl ?_
      refine r_iload d_Costs_choose_125 rfl ?_
      refine r_iconst 1 d_Costs_choose_127 ic_1 ?_
      refine r_isub d_Costs_choose_128 ?_
      refine r_V2 v_Costs_costOf w_551 hc.1 (c_Costs_costOf hc _ _ _ ) (Nat.le_of_ble_eq_true rfl) (Nat.le_of_ble_eq_true rfl) d_Costs_choose_129 ?_
      refine r_iadd d_Costs_choose_132 ?_
      refine r_iload d_Costs_choose_133 rfl ?_
      refine r_iadd d_Costs_choose_135 ?_
      refine r_W3 v_Costs_offer w_563 hc.1 (c_Costs_offer hc _ _ _ _ (a := (0, 0)) (wn := 1) (q := C L i + C R (i - 1) + mc 3) (b := decide (2 ≤ i)) hO0 rfl (by decide) (by simp [bI, hi2, hrf]) (fun hb => ⟨by rw [pm _ R hR (by simp (disch := omega) only [ms_ne]) (by simpa using hb)]; simp only [nI_add], by omega⟩)) (Nat.le_of_ble_eq_true rfl) (Nat.le_of_ble_eq_true rfl) d_Costs_choose_136 (fun v N1 hv => ?_)
      obtain ⟨rfl, hF1, hO1⟩ := hv
      have F1 : ∀ e, e ≠ c → N1 e = M e := fun e he => by rw [hF1 e he]; simp (disch := omega) only [ms_ne]
      have f2_1 : N1 (c + 2) = M (c + 2) := F1 _ (by omega)
      refine r_aload_n (i := 0) d_Costs_choose_139 rfl rfl ?_
      refine r_iconst 2 d_Costs_choose_140 ic_2 ?_
      refine r_iload d_Costs_choose_141 rfl ?_
      refine r_if_eq 155 d_Costs_choose_143 (by decide) (fun h_143 => ?_) (fun h_143 => ?_)
      · exact absurd h_143 (by decide)
      · skip
        refine r_iload d_Costs_choose_146 rfl ?_
        refine r_if_eq 155 d_Costs_choose_148 (by decide) (fun h_148 => ?_) (fun h_148 => ?_)
        · skip
          refine r_iconst 0 d_Costs_choose_155 ic_0 ?_
          refine r_iload d_Costs_choose_156 rfl ?_
          refine r_aload_n (i := 0) d_Costs_choose_158 rfl rfl ?_
          refine r_iload d_Costs_choose_159 rfl ?_
          refine r_iload d_Costs_choose_161 rfl ?_
          refine r_iconst 1 d_Costs_choose_163 ic_1 ?_
          refine r_isub d_Costs_choose_164 ?_
          refine r_V2 v_Costs_costOf w_551 hc.1 (c_Costs_costOf hc _ _ _ ) (Nat.le_of_ble_eq_true rfl) (Nat.le_of_ble_eq_true rfl) d_Costs_choose_165 ?_
          refine r_iadd d_Costs_choose_168 ?_
          refine r_iload d_Costs_choose_169 rfl ?_
          refine r_iadd d_Costs_choose_171 ?_
          refine r_W3 v_Costs_offer w_563 hc.1 (c_Costs_offer hc _ _ _ _ (a := (offr (0, 0) 1 (decide (2 ≤ i)) (C L i + C R (i - 1) + mc 3))) (wn := 2) (q := C R i + C L (i - 1) + mc 3) (b := decide (2 ≤ i) && !(tp L && tp R)) hO1 rfl (by decide) (by simp [bI, hi2, hrf]) (fun hb => ⟨by rw [pm _ L hL f2_1 (by simp only [Bool.and_eq_true, decide_eq_true_eq] at hb; exact hb.1)]; simp only [nI_add], by omega⟩)) (Nat.le_of_ble_eq_true rfl) (Nat.le_of_ble_eq_true rfl) d_Costs_choose_172 (fun v N2 hv => ?_)
          obtain ⟨rfl, hF2, hO2⟩ := hv
          have F2 : ∀ e, e ≠ c → N2 e = M e := fun e he => (hF2 e he).trans (F1 e he)
          have f2_2 : N2 (c + 2) = M (c + 2) := F2 _ (by omega)
          refine r_aload_n (i := 0) d_Costs_choose_175 rfl rfl ?_
          refine r_iconst 3 d_Costs_choose_176 ic_3 ?_
          refine r_iload d_Costs_choose_177 rfl ?_
          refine r_iload d_Costs_choose_179 rfl ?_
          refine r_iload d_Costs_choose_181 rfl ?_
          refine r_iadd d_Costs_choose_183 ?_
          refine r_iload d_Costs_choose_184 rfl ?_
          refine r_iadd d_Costs_choose_186 ?_
          refine r_W3 v_Costs_offer w_563 hc.1 (c_Costs_offer hc _ _ _ _ (a := (offr (offr (0, 0) 1 (decide (2 ≤ i)) (C L i + C R (i - 1) + mc 3)) 2 (decide (2 ≤ i) && !(tp L && tp R)) (C R i + C L (i - 1) + mc 3))) (wn := 3) (q := kpt mc lv C R i + C L i + mc 4) (b := !(tp L && tp R)) hO2 rfl (by decide) (by simp [bI, hi2, hrf]) (fun hb => ⟨by simp only [nI_add], by omega⟩)) (Nat.le_of_ble_eq_true rfl) (Nat.le_of_ble_eq_true rfl) d_Costs_choose_187 (fun v N3 hv => ?_)
          obtain ⟨rfl, hF3, hO3⟩ := hv
          have F3 : ∀ e, e ≠ c → N3 e = M e := fun e he => (hF3 e he).trans (F2 e he)
          have f2_3 : N3 (c + 2) = M (c + 2) := F3 _ (by omega)
          refine r_aload_n (i := 0) d_Costs_choose_190 rfl rfl ?_
          refine r_iconst 4 d_Costs_choose_191 ic_4 ?_
          refine r_aload_n (i := 1) d_Costs_choose_192 rfl rfl ?_
          refine r_iload_n (i := 3) d_Costs_choose_193 rfl rfl ?_
          refine r_V1 v_Tree_isCommuting w_567 ht.1 (c_Tree_isCommuting ht _ _ ) (Nat.le_of_ble_eq_true rfl) (Nat.le_of_ble_eq_true rfl) d_Costs_choose_194 ?_
          refine r_iload d_Costs_choose_197 rfl ?_
          refine r_iload d_Costs_choose_199 rfl ?_
          refine r_iadd d_Costs_choose_201 ?_
          refine r_iload d_Costs_choose_202 rfl ?_
          refine r_iadd d_Costs_choose_204 ?_
          refine r_W3 v_Costs_offer w_563 hc.1 (c_Costs_offer hc _ _ _ _ (a := (offr (offr (offr (0, 0) 1 (decide (2 ≤ i)) (C L i + C R (i - 1) + mc 3)) 2 (decide (2 ≤ i) && !(tp L && tp R)) (C R i + C L (i - 1) + mc 3)) 3 (!(tp L && tp R)) (kpt mc lv C R i + C L i + mc 4))) (wn := 4) (q := kpt mc lv C L i + C R i + mc 4) (b := o_comm (M (t + 2) k)) hO3 rfl (by decide) (by rw [rg_nI _ (by omega) (by omega), F3 (t + 2) (by omega)]) (fun hb => ⟨by simp only [nI_add], by omega⟩)) (Nat.le_of_ble_eq_true rfl) (Nat.le_of_ble_eq_true rfl) d_Costs_choose_205 (fun v N4 hv => ?_)
          obtain ⟨rfl, hF4, hO4⟩ := hv
          have F4 : ∀ e, e ≠ c → N4 e = M e := fun e he => (hF4 e he).trans (F3 e he)
          have f2_4 : N4 (c + 2) = M (c + 2) := F4 _ (by omega)
          refine r_aload_n (i := 0) d_Costs_choose_208 rfl rfl ?_
          refine r_iconst 5 d_Costs_choose_209 ic_5 ?_
          refine r_iload d_Costs_choose_210 rfl ?_
          refine r_iload d_Costs_choose_212 rfl ?_
          refine r_iload d_Costs_choose_214 rfl ?_
          refine r_iadd d_Costs_choose_216 ?_
          refine r_iload d_Costs_choose_217 rfl ?_
          refine r_iadd d_Costs_choose_219 ?_
          refine r_iload d_Costs_choose_220 rfl ?_
          refine r_iadd d_Costs_choose_222 ?_
          refine r_W3 v_Costs_offer w_563 hc.1 (c_Costs_offer hc _ _ _ _ (a := (offr (offr (offr (offr (0, 0) 1 (decide (2 ≤ i)) (C L i + C R (i - 1) + mc 3)) 2 (decide (2 ≤ i) && !(tp L && tp R)) (C R i + C L (i - 1) + mc 3)) 3 (!(tp L && tp R)) (kpt mc lv C R i + C L i + mc 4)) 4 (o_comm (M (t + 2) k)) (kpt mc lv C L i + C R i + mc 4))) (wn := 5) (q := kpt mc lv C L i + C R i + mc 1 + mc 3) (b := decide (2 ≤ i)) hO4 rfl (by decide) (by simp [bI, hi2, hrf]) (fun hb => ⟨by simp only [nI_add], by omega⟩)) (Nat.le_of_ble_eq_true rfl) (Nat.le_of_ble_eq_true rfl) d_Costs_choose_223 (fun v N5 hv => ?_)
          obtain ⟨rfl, hF5, hO5⟩ := hv
          have F5 : ∀ e, e ≠ c → N5 e = M e := fun e he => (hF5 e he).trans (F4 e he)
          have f2_5 : N5 (c + 2) = M (c + 2) := F5 _ (by omega)
          refine r_aload_n (i := 0) d_Costs_choose_226 rfl rfl ?_
          refine r_bipush 6 d_Costs_choose_227 bp_6 ?_
          refine r_iconst 1 d_Costs_choose_229 ic_1 ?_
          refine r_iload d_Costs_choose_230 rfl ?_
          refine r_iload d_Costs_choose_232 rfl ?_
          refine r_iadd d_Costs_choose_234 ?_
          refine r_iload d_Costs_choose_235 rfl ?_
          refine r_iadd d_Costs_choose_237 ?_
          refine r_iload d_Costs_choose_238 rfl ?_
          refine r_iadd d_Costs_choose_240 ?_
          refine r_W3 v_Costs_offer w_563 hc.1 (c_Costs_offer hc _ _ _ _ (a := (offr (offr (offr (offr (offr (0, 0) 1 (decide (2 ≤ i)) (C L i + C R (i - 1) + mc 3)) 2 (decide (2 ≤ i) && !(tp L && tp R)) (C R i + C L (i - 1) + mc 3)) 3 (!(tp L && tp R)) (kpt mc lv C R i + C L i + mc 4)) 4 (o_comm (M (t + 2) k)) (kpt mc lv C L i + C R i + mc 4)) 5 (decide (2 ≤ i)) (kpt mc lv C L i + C R i + mc 1 + mc 3))) (wn := 6) (q := kpt mc lv C L i + kpt mc lv C R i + mc 1 + mc 4) (b := true) hO5 rfl (by decide) (rfl) (fun hb => ⟨by simp only [nI_add], by omega⟩)) (Nat.le_of_ble_eq_true rfl) (Nat.le_of_ble_eq_true rfl) d_Costs_choose_241 (fun v N6 hv => ?_)
          obtain ⟨rfl, hF6, hO6⟩ := hv
          have F6 : ∀ e, e ≠ c → N6 e = M e := fun e he => (hF6 e he).trans (F5 e he)
          have f2_6 : N6 (c + 2) = M (c + 2) := F6 _ (by omega)
          refine r_aload_n (i := 0) d_Costs_choose_244 rfl rfl ?_
          refine r_iload_n (i := 3) d_Costs_choose_245 rfl rfl ?_
          refine r_iload d_Costs_choose_246 rfl ?_
          refine r_aload_n (i := 0) d_Costs_choose_248 rfl rfl ?_
          refine r_geti nf_Costs_89 hc.1 rfl d_Costs_choose_249 ?_
          refine r_aload_n (i := 0) d_Costs_choose_252 rfl rfl ?_
          refine r_geti nf_Costs_79 hc.1 rfl d_Costs_choose_253 ?_
          refine r_V4 v_Costs_put w_542 hc.1 (c_Costs_put hc k i _ _ _ (by omega)) (Nat.le_of_ble_eq_true rfl) (Nat.le_of_ble_eq_true rfl) d_Costs_choose_256 ?_
          refine r_vret rfl d_Costs_choose_259 ?_
          have hb : OfR (best mc lv C L R i (!(tp L && tp R)) (o_comm (M (t + 2) k))) (N6 c 3) (N6 c 4) := hO6
          have f4_6 : N6 (c + 4) = M (c + 4) := F6 _ (by omega)
          have e4 := hb.2.1.resolve_left (best_pos _ _ _ _ _ _ _ _)
          refine ⟨rfl, fun e e1 e2 e3 => ?_, ?_, ?_⟩
          · simp (disch := omega) only [ms_ne]
            exact F6 e e1
          · simp (disch := omega) only [ms_same, ms_ne]
            rw [f2_6, e4]
          · simp (disch := omega) only [ms_same, ms_ne]
            rw [f4_6, hb.1]
        · exact absurd h_148 (by decide)
    · skip
      rw [bI_f] at h_101
      have hrf : (!(tp L && tp R)) = true := by simp only [h_101]; rfl
      refine r_iconst 1 d_Costs_choose_104 ic_1 ?_
      refine r_goto 109 d_Costs_choose_105 (by decide) ?_
      refine r_istore d_Costs_choose_109 (Nat.le_of_ble_eq_true rfl) rfl ?_
      dsimp only [List.set]
      refine r_aload_n (i := 0) d_Costs_choose_111 rfl rfl ?_
      refine r_iconst 0 d_Costs_choose_112 ic_0 ?_
      refine r_puti nf_Costs_79 nfin_Costs_3 hc.1 rfl d_Costs_choose_113 ?_
      have hO0 : OfR (0, 0) ((ms M c (upd (M c) 3 0)) c 3) ((ms M c (upd (M c) 3 0)) c 4) := ⟨by simp [ms, upd]; rfl, Or.inl rfl, by decide, by decide⟩
      refine r_aload_n (i := 0) d_Costs_choose_116 rfl rfl ?_
      refine r_iconst 1 d_Costs_choose_117 ic_1 ?_
      refine r_iload d_Costs_choose_118 rfl ?_
      refine r_iload d_Costs_choose_120 rfl ?_
      refine r_aload_n (i := 0) d_Costs_choose_122 rfl rfl ?_
      refine r_iload d_Costs_choose_123 rfl ?_
      refine r_iload d_Costs_choose_125 rfl ?_
      refine r_iconst 1 d_Costs_choose_127 ic_1 ?_
      refine r_isub d_Costs_choose_128 ?_
      refine r_V2 v_Costs_costOf w_551 hc.1 (c_Costs_costOf hc _ _ _ ) (Nat.le_of_ble_eq_true rfl) (Nat.le_of_ble_eq_true rfl) d_Costs_choose_129 ?_
      refine r_iadd d_Costs_choose_132 ?_
      refine r_iload d_Costs_choose_133 rfl ?_
      refine r_iadd d_Costs_choose_135 ?_
      refine r_W3 v_Costs_offer w_563 hc.1 (c_Costs_offer hc _ _ _ _ (a := (0, 0)) (wn := 1) (q := C L i + C R (i - 1) + mc 3) (b := decide (2 ≤ i)) hO0 rfl (by decide) (by simp [bI, hi2, hrf]) (fun hb => ⟨by rw [pm _ R hR (by simp (disch := omega) only [ms_ne]) (by simpa using hb)]; simp only [nI_add], by omega⟩)) (Nat.le_of_ble_eq_true rfl) (Nat.le_of_ble_eq_true rfl) d_Costs_choose_136 (fun v N1 hv => ?_)
      obtain ⟨rfl, hF1, hO1⟩ := hv
      have F1 : ∀ e, e ≠ c → N1 e = M e := fun e he => by rw [hF1 e he]; simp (disch := omega) only [ms_ne]
      have f2_1 : N1 (c + 2) = M (c + 2) := F1 _ (by omega)
      refine r_aload_n (i := 0) d_Costs_choose_139 rfl rfl ?_
      refine r_iconst 2 d_Costs_choose_140 ic_2 ?_
      refine r_iload d_Costs_choose_141 rfl ?_
      refine r_if_eq 155 d_Costs_choose_143 (by decide) (fun h_143 => ?_) (fun h_143 => ?_)
      · exact absurd h_143 (by decide)
      · skip
        refine r_iload d_Costs_choose_146 rfl ?_
        refine r_if_eq 155 d_Costs_choose_148 (by decide) (fun h_148 => ?_) (fun h_148 => ?_)
        · exact absurd h_148 (by decide)
        · skip
          refine r_iconst 1 d_Costs_choose_151 ic_1 ?_
          refine r_goto 156 d_Costs_choose_152 (by decide) ?_
          refine r_iload d_Costs_choose_156 rfl ?_
          refine r_aload_n (i := 0) d_Costs_choose_158 rfl rfl ?_
          refine r_iload d_Costs_choose_159 rfl ?_
          refine r_iload d_Costs_choose_161 rfl ?_
          refine r_iconst 1 d_Costs_choose_163 ic_1 ?_
          refine r_isub d_Costs_choose_164 ?_
          refine r_V2 v_Costs_costOf w_551 hc.1 (c_Costs_costOf hc _ _ _ ) (Nat.le_of_ble_eq_true rfl) (Nat.le_of_ble_eq_true rfl) d_Costs_choose_165 ?_
          refine r_iadd d_Costs_choose_168 ?_
          refine r_iload d_Costs_choose_169 rfl ?_
          refine r_iadd d_Costs_choose_171 ?_
          refine r_W3 v_Costs_offer w_563 hc.1 (c_Costs_offer hc _ _ _ _ (a := (offr (0, 0) 1 (decide (2 ≤ i)) (C L i + C R (i - 1) + mc 3))) (wn := 2) (q := C R i + C L (i - 1) + mc 3) (b := decide (2 ≤ i) && !(tp L && tp R)) hO1 rfl (by decide) (by simp [bI, hi2, hrf]) (fun hb => ⟨by rw [pm _ L hL f2_1 (by simp only [Bool.and_eq_true, decide_eq_true_eq] at hb; exact hb.1)]; simp only [nI_add], by omega⟩)) (Nat.le_of_ble_eq_true rfl) (Nat.le_of_ble_eq_true rfl) d_Costs_choose_172 (fun v N2 hv => ?_)
          obtain ⟨rfl, hF2, hO2⟩ := hv
          have F2 : ∀ e, e ≠ c → N2 e = M e := fun e he => (hF2 e he).trans (F1 e he)
          have f2_2 : N2 (c + 2) = M (c + 2) := F2 _ (by omega)
          refine r_aload_n (i := 0) d_Costs_choose_175 rfl rfl ?_
          refine r_iconst 3 d_Costs_choose_176 ic_3 ?_
          refine r_iload d_Costs_choose_177 rfl ?_
          refine r_iload d_Costs_choose_179 rfl ?_
          refine r_iload d_Costs_choose_181 rfl ?_
          refine r_iadd d_Costs_choose_183 ?_
          refine r_iload d_Costs_choose_184 rfl ?_
          refine r_iadd d_Costs_choose_186 ?_
          refine r_W3 v_Costs_offer w_563 hc.1 (c_Costs_offer hc _ _ _ _ (a := (offr (offr (0, 0) 1 (decide (2 ≤ i)) (C L i + C R (i - 1) + mc 3)) 2 (decide (2 ≤ i) && !(tp L && tp R)) (C R i + C L (i - 1) + mc 3))) (wn := 3) (q := kpt mc lv C R i + C L i + mc 4) (b := !(tp L && tp R)) hO2 rfl (by decide) (by simp [bI, hi2, hrf]) (fun hb => ⟨by simp only [nI_add], by omega⟩)) (Nat.le_of_ble_eq_true rfl) (Nat.le_of_ble_eq_true rfl) d_Costs_choose_187 (fun v N3 hv => ?_)
          obtain ⟨rfl, hF3, hO3⟩ := hv
          have F3 : ∀ e, e ≠ c → N3 e = M e := fun e he => (hF3 e he).trans (F2 e he)
          have f2_3 : N3 (c + 2) = M (c + 2) := F3 _ (by omega)
          refine r_aload_n (i := 0) d_Costs_choose_190 rfl rfl ?_
          refine r_iconst 4 d_Costs_choose_191 ic_4 ?_
          refine r_aload_n (i := 1) d_Costs_choose_192 rfl rfl ?_
          refine r_iload_n (i := 3) d_Costs_choose_193 rfl rfl ?_
          refine r_V1 v_Tree_isCommuting w_567 ht.1 (c_Tree_isCommuting ht _ _ ) (Nat.le_of_ble_eq_true rfl) (Nat.le_of_ble_eq_true rfl) d_Costs_choose_194 ?_
          refine r_iload d_Costs_choose_197 rfl ?_
          refine r_iload d_Costs_choose_199 rfl ?_
          refine r_iadd d_Costs_choose_201 ?_
          refine r_iload d_Costs_choose_202 rfl ?_
          refine r_iadd d_Costs_choose_204 ?_
          refine r_W3 v_Costs_offer w_563 hc.1 (c_Costs_offer hc _ _ _ _ (a := (offr (offr (offr (0, 0) 1 (decide (2 ≤ i)) (C L i + C R (i - 1) + mc 3)) 2 (decide (2 ≤ i) && !(tp L && tp R)) (C R i + C L (i - 1) + mc 3)) 3 (!(tp L && tp R)) (kpt mc lv C R i + C L i + mc 4))) (wn := 4) (q := kpt mc lv C L i + C R i + mc 4) (b := o_comm (M (t + 2) k)) hO3 rfl (by decide) (by rw [rg_nI _ (by omega) (by omega), F3 (t + 2) (by omega)]) (fun hb => ⟨by simp only [nI_add], by omega⟩)) (Nat.le_of_ble_eq_true rfl) (Nat.le_of_ble_eq_true rfl) d_Costs_choose_205 (fun v N4 hv => ?_)
          obtain ⟨rfl, hF4, hO4⟩ := hv
          have F4 : ∀ e, e ≠ c → N4 e = M e := fun e he => (hF4 e he).trans (F3 e he)
          have f2_4 : N4 (c + 2) = M (c + 2) := F4 _ (by omega)
          refine r_aload_n (i := 0) d_Costs_choose_208 rfl rfl ?_
          refine r_iconst 5 d_Costs_choose_209 ic_5 ?_
          refine r_iload d_Costs_choose_210 rfl ?_
          refine r_iload d_Costs_choose_212 rfl ?_
          refine r_iload d_Costs_choose_214 rfl ?_
          refine r_iadd d_Costs_choose_216 ?_
          refine r_iload d_Costs_choose_217 rfl ?_
          refine r_iadd d_Costs_choose_219 ?_
          refine r_iload d_Costs_choose_220 rfl ?_
          refine r_iadd d_Costs_choose_222 ?_
          refine r_W3 v_Costs_offer w_563 hc.1 (c_Costs_offer hc _ _ _ _ (a := (offr (offr (offr (offr (0, 0) 1 (decide (2 ≤ i)) (C L i + C R (i - 1) + mc 3)) 2 (decide (2 ≤ i) && !(tp L && tp R)) (C R i + C L (i - 1) + mc 3)) 3 (!(tp L && tp R)) (kpt mc lv C R i + C L i + mc 4)) 4 (o_comm (M (t + 2) k)) (kpt mc lv C L i + C R i + mc 4))) (wn := 5) (q := kpt mc lv C L i + C R i + mc 1 + mc 3) (b := decide (2 ≤ i)) hO4 rfl (by decide) (by simp [bI, hi2, hrf]) (fun hb => ⟨by simp only [nI_add], by omega⟩)) (Nat.le_of_ble_eq_true rfl) (Nat.le_of_ble_eq_true rfl) d_Costs_choose_223 (fun v N5 hv => ?_)
          obtain ⟨rfl, hF5, hO5⟩ := hv
          have F5 : ∀ e, e ≠ c → N5 e = M e := fun e he => (hF5 e he).trans (F4 e he)
          have f2_5 : N5 (c + 2) = M (c + 2) := F5 _ (by omega)
          refine r_aload_n (i := 0) d_Costs_choose_226 rfl rfl ?_
          refine r_bipush 6 d_Costs_choose_227 bp_6 ?_
          refine r_iconst 1 d_Costs_choose_229 ic_1 ?_
          refine r_iload d_Costs_choose_230 rfl ?_
          refine r_iload d_Costs_choose_232 rfl ?_
          refine r_iadd d_Costs_choose_234 ?_
          refine r_iload d_Costs_choose_235 rfl ?_
          refine r_iadd d_Costs_choose_237 ?_
          refine r_iload d_Costs_choose_238 rfl ?_
          refine r_iadd d_Costs_choose_240 ?_
          refine r_W3 v_Costs_offer w_563 hc.1 (c_Costs_offer hc _ _ _ _ (a := (offr (offr (offr (offr (offr (0, 0) 1 (decide (2 ≤ i)) (C L i + C R (i - 1) + mc 3)) 2 (decide (2 ≤ i) && !(tp L && tp R)) (C R i + C L (i - 1) + mc 3)) 3 (!(tp L && tp R)) (kpt mc lv C R i + C L i + mc 4)) 4 (o_comm (M (t + 2) k)) (kpt mc lv C L i + C R i + mc 4)) 5 (decide (2 ≤ i)) (kpt mc lv C L i + C R i + mc 1 + mc 3))) (wn := 6) (q := kpt mc lv C L i + kpt mc lv C R i + mc 1 + mc 4) (b := true) hO5 rfl (by decide) (rfl) (fun hb => ⟨by simp only [nI_add], by omega⟩)) (Nat.le_of_ble_eq_true rfl) (Nat.le_of_ble_eq_true rfl) d_Costs_choose_241 (fun v N6 hv => ?_)
          obtain ⟨rfl, hF6, hO6⟩ := hv
          have F6 : ∀ e, e ≠ c → N6 e = M e := fun e he => (hF6 e he).trans (F5 e he)
          have f2_6 : N6 (c + 2) = M (c + 2) := F6 _ (by omega)
          refine r_aload_n (i := 0) d_Costs_choose_244 rfl rfl ?_
          refine r_iload_n (i := 3) d_Costs_choose_245 rfl rfl ?_
          refine r_iload d_Costs_choose_246 rfl ?_
          refine r_aload_n (i := 0) d_Costs_choose_248 rfl rfl ?_
          refine r_geti nf_Costs_89 hc.1 rfl d_Costs_choose_249 ?_
          refine r_aload_n (i := 0) d_Costs_choose_252 rfl rfl ?_
          refine r_geti nf_Costs_79 hc.1 rfl d_Costs_choose_253 ?_
          refine r_V4 v_Costs_put w_542 hc.1 (c_Costs_put hc k i _ _ _ (by omega)) (Nat.le_of_ble_eq_true rfl) (Nat.le_of_ble_eq_true rfl) d_Costs_choose_256 ?_
          refine r_vret rfl d_Costs_choose_259 ?_
          have hb : OfR (best mc lv C L R i (!(tp L && tp R)) (o_comm (M (t + 2) k))) (N6 c 3) (N6 c 4) := hO6
          have f4_6 : N6 (c + 4) = M (c + 4) := F6 _ (by omega)
          have e4 := hb.2.1.resolve_left (best_pos _ _ _ _ _ _ _ _)
          refine ⟨rfl, fun e e1 e2 e3 => ?_, ?_, ?_⟩
          · simp (disch := omega) only [ms_ne]
            exact F6 e e1
          · simp (disch := omega) only [ms_same, ms_ne]
            rw [f2_6, e4]
          · simp (disch := omega) only [ms_same, ms_ne]
            rw [f4_6, hb.1]

end MCosts2
