-- Program: have
section MProg2
variable {G : nw_G}
theorem c2_Row_get {c b n k : Nat} {v : Int32} {M : nw_M} (h : isRow c b n) (hk : k < n) (hv : M b k = v) : CF G LC m_Row_get 0 [.ref (G.2.2 c), .int (nI k)] M (some (.int v)) M := CF_eq (c_Row_get h _ M) (by rw [rg_nI _ hk h.2.2, hv]) rfl
theorem c2_isLeaf {lf : Nat → Int32} {x : Nat} {M : nw_M} (hx : x < 31) (h : M 17 = lf) : CF G LC m_Tree_isLeaf 1 [.ref (G.2.2 11), .int (nI x)] M (some (.int (bI (lf x == -9)))) M := CF_eq (c_Tree_isLeaf tree_11 _ M) (by rw [rg_nI _ hx (by omega)]; subst h; rfl) rfl
theorem c2_isPair {rt : Nat → Int32} {x : Nat} {M : nw_M} (hx : x < 31) (h : M 19 = rt) : CF G LC m_Tree_isPair 1 [.ref (G.2.2 11), .int (nI x)] M (some (.int (bI (rt x != -9)))) M := CF_eq (c_Tree_isPair tree_11 _ M) (by rw [rg_nI _ hx (by omega)]; subst h; rfl) rfl
theorem c2_sourceKind {le lf : Nat → Int32} {x : Nat} {M : nw_M} (hx : x < 31) (h : M 13 = le) (h2 : M 17 = lf) : CF G LC m_Program_sourceKind 2 [.ref (G.2.2 11), .int (nI x)] M (some (.int (srK le lf x))) M := by subst h; subst h2; exact c_Program_sourceKind tree_11 hx M
theorem c2_sourceNumber {nu lf : Nat → Int32} {x cc : Nat} {M : nw_M} (hx : x < 31) (h : M 15 = nu) (h2 : M 17 = lf) (hc : lf x ≠ -9 → M 121 x = nI cc) : CF G LC m_Program_sourceNumber 2 [.ref (G.2.2 117), .ref (G.2.2 11), .int (nI x)] M (some (.int (srN nu lf x cc))) M := by subst h; subst h2; exact c_Program_sourceNumber tree_11 hx M hc
def PSt (n Rg : Nat) (z : Nat → Nat) (Wy : Nat → Nat → Nat) (Q : nP) (M0 : nw_M) : Prop := WF n (M0 13) (M0 15) (M0 17) (M0 19) z ∧ Rg ≤ 6 ∧ (∀ k i, k < n → 1 ≤ i → i ≤ Rg → M0 114 (7 * k + i) = nI (Wy k i)) ∧ (∀ k i, k < n → M0 19 k ≠ -9 → 1 ≤ Wy k i ∧ Wy k i < 7 ∧ ((Wy k i = 1 ∨ Wy k i = 2 ∨ Wy k i = 5) → 2 ≤ i)) ∧ (∀ k b i c, k < n → Q k b i c = pX (M0 13) (M0 15) (M0 17) (M0 19) z Wy Q k b i c)
def HPost (M0 M : nw_M) (z : Nat → Nat) (x : Nat) (ls : List Ln) (c : Nat) (N : nw_M) : Prop := HI M0 N ∧ PM N ls c ∧ ∀ y, (x < y ∨ y + z x ≤ x) → N 121 y = M 121 y
def HV (G : nw_G) (Rg : Nat) (z : Nat → Nat) (Q : nP) (M0 : nw_M) (x : Nat) : Prop := ∀ (b i c dp : Nat) (ls : List Ln) (M : nw_M), HI M0 M → PM M ls c → 1 ≤ i → b + i ≤ Rg → dp + z x ≤ 31 → ls.length + 3 * z x ≤ 95 → CJ G LC m_Program_have (3 * z x + 5) [.ref (G.2.2 117), .ref (G.2.2 11), .ref (G.2.2 110), .int (nI x), .int (nI b), .int (nI i), .int (nI dp)] M (fun v N => v = none ∧ HPost M0 M z x (ls ++ (Q x b i c).1) (Q x b i c).2 N)
def HK (G : nw_G) (Rg : Nat) (z : Nat → Nat) (Q : nP) (M0 : nw_M) (x : Nat) : Prop := ∀ (b i c dp : Nat) (ls : List Ln) (M : nw_M), HI M0 M → PM M ls c → 1 ≤ i → b + i ≤ Rg → dp + z x ≤ 31 → ls.length + 3 * z x ≤ 94 → CJ G LC m_Program_haveKept (3 * z x + 6) [.ref (G.2.2 117), .ref (G.2.2 11), .ref (G.2.2 110), .int (nI x), .int (nI b), .int (nI i), .int (nI dp)] M (fun v N => v = none ∧ HPost M0 M z x (ls ++ kpL (M0 17) Q x b i c) (kpC (M0 17) Q x b i c) N ∧ (M0 17 x ≠ -9 → N 121 x = nI (Q x b i c).2))
def HW (G : nw_G) (Rg : Nat) (z : Nat → Nat) (Q : nP) (M0 : nw_M) (x : Nat) : Prop := ∀ (b i c dp : Nat) (ls : List Ln) (M : nw_M), HI M0 M → PM M ls c → 1 ≤ i → b + i ≤ Rg → dp + z x ≤ 31 → ls.length + 3 * z x ≤ 95 → CJ G LC m_Program_haveByWay (3 * z x + 4) [.ref (G.2.2 117), .ref (G.2.2 11), .ref (G.2.2 110), .int (nI x), .int (nI b), .int (nI i), .int (nI dp)] M (fun v N => v = none ∧ HPost M0 M z x (ls ++ (Q x b i c).1) (Q x b i c).2 N)
set_option maxHeartbeats 4000000 in
theorem hk_kept {n Rg : Nat} {z : Nat → Nat} {Wy : Nat → Nat → Nat} {Q : nP} {M0 : nw_M} (hS : PSt n Rg z Wy Q M0) {x : Nat} (hx : x < n) (hv : HV G Rg z Q M0 x) : HK G Rg z Q M0 x := by
  intro b i c dp ls M hI hPM hi1 hbi hdp hls
  have hn := hS.1.1
  have zb := hS.1.zb x hx
  have k13 : M 13 = M0 13 := hI.1 _ (by omega) (by omega) (by omega)
  have k15 : M 15 = M0 15 := hI.1 _ (by omega) (by omega) (by omega)
  have k17 : M 17 = M0 17 := hI.1 _ (by omega) (by omega) (by omega)
  have k19 : M 19 = M0 19 := hI.1 _ (by omega) (by omega) (by omega)
  have k114 : M 114 = M0 114 := hI.1 _ (by omega) (by omega) (by omega)
  refine CJ_of2 (n0 := 0) (by decide) rfl rfl ?_
  simp only [List.map_cons, List.map_nil, List.cons_append, List.nil_append, List.reduceReplicate]
  refine r_aload_n (i := 1) d_Program_haveKept_0 rfl rfl ?_
  refine r_iload_n (i := 3) d_Program_haveKept_1 rfl rfl ?_
  refine r_V1 v_Tree_isLeaf w_645 tree_11.1 (c2_isLeaf (by omega) k17) (by omega) (Nat.le_of_ble_eq_true rfl) d_Program_haveKept_2 ?_
  refine r_if_eq 9 d_Program_haveKept_5 (by decide) (fun h_5 => ?_) (fun h_5 => ?_)
  · skip
    rw [bI_f, beq_eq_false_iff_ne] at h_5
    refine r_aload_n (i := 0) d_Program_haveKept_9 rfl rfl ?_
    refine r_aload_n (i := 1) d_Program_haveKept_10 rfl rfl ?_
    refine r_aload_n (i := 2) d_Program_haveKept_11 rfl rfl ?_
    refine r_iload_n (i := 3) d_Program_haveKept_12 rfl rfl ?_
    refine r_iload d_Program_haveKept_13 rfl ?_
    refine r_iload d_Program_haveKept_15 rfl ?_
    refine r_iload d_Program_haveKept_17 rfl ?_
    refine r_W6 v_Program_have w_641 lc_117 (hv b i c dp ls M hI hPM hi1 hbi hdp (by omega)) (by omega) (Nat.le_of_ble_eq_true rfl) d_Program_haveKept_19 (fun v N hv1 => ?_)
    obtain ⟨rfl, h1, h2, h3⟩ := hv1
    have hlen := (pX_le hS.1 hS.2.2.2.2 x hx b i c)
    have hPM2 : PM (ms N 121 (rp 31 (N 121) (nI x) (N 117 3))) (ls ++ (Q x b i c).1) (Q x b i c).2 := by
      refine ⟨by simp (disch := omega) only [ms_ne]; exact h2.1, by simp (disch := omega) only [ms_ne]; exact h2.2.1, ?_⟩
      simp (disch := omega) only [ms_ne]
      exact h2.2.2
    refine r_aload_n (i := 0) d_Program_haveKept_22 rfl rfl ?_
    refine r_getr nf_Program_20 lc_117 rfl d_Program_haveKept_23 ?_
    refine r_iload_n (i := 3) d_Program_haveKept_26 rfl rfl ?_
    refine r_aload_n (i := 0) d_Program_haveKept_27 rfl rfl ?_
    refine r_geti nf_Program_34 lc_117 rfl d_Program_haveKept_28 ?_
    refine r_V2 v_Row_put w_658 row_120.1 (c_Row_put row_120 _ _ _ ) (by omega) (Nat.le_of_ble_eq_true rfl) d_Program_haveKept_31 ?_
    refine r_aload_n (i := 0) d_Program_haveKept_34 rfl rfl ?_
    refine r_iconst 3 d_Program_haveKept_35 ic_3 ?_
    refine r_iload d_Program_haveKept_36 rfl ?_
    refine r_iload_n (i := 3) d_Program_haveKept_38 rfl rfl ?_
    refine r_iconst 2 d_Program_haveKept_39 ic_2 ?_
    refine r_aload_n (i := 0) d_Program_haveKept_40 rfl rfl ?_
    refine r_geti nf_Program_34 lc_117 rfl d_Program_haveKept_41 ?_
    refine r_W5 v_Program_add w_654 lc_117 (c_Program_add _ _ _ _ _ (ls ++ (Q x b i c).1) (Q x b i c).2 _ hPM2 (by simp only [List.length_append]; omega)) (by omega) (Nat.le_of_ble_eq_true rfl) d_Program_haveKept_44 (fun v N2 hv2 => ?_)
    obtain ⟨rfl, g1, g2, g3⟩ := hv2
    refine r_aload_n (i := 0) d_Program_haveKept_47 rfl rfl ?_
    refine r_dup d_Program_haveKept_48 rfl ?_
    refine r_geti nf_Program_34 lc_117 rfl d_Program_haveKept_49 ?_
    refine r_iconst 1 d_Program_haveKept_52 ic_1 ?_
    refine r_iadd d_Program_haveKept_53 ?_
    refine r_puti nf_Program_34 nfin_Program_3 lc_117 rfl d_Program_haveKept_54 ?_
    refine r_vret rfl d_Program_haveKept_57 ?_
    have e3 : N 117 3 = nI (Q x b i c).2 := h2.2.1
    have c117 : (ms N 121 (rp 31 (N 121) (nI x) (N 117 3))) 117 = N 117 := by simp (disch := omega) only [ms_ne]
    refine ⟨rfl, ⟨⟨fun q q1 q2 q3 => ?_, ?_⟩, ?_, ?_⟩, ?_⟩
    · simp (disch := omega) only [ms_ne]
      rw [g1 q q1 q2]
      simp (disch := omega) only [ms_ne]
      exact h1.1 q q1 q2 q3
    · simp (disch := omega) only [ms_same, upd_ne]
      rw [g2, c117]
      exact h1.2
    · unfold kpL kpC
      rw [if_neg h_5, if_neg h_5, ← List.append_assoc]
      refine ⟨?_, ?_, ?_⟩
      · simp (disch := omega) only [ms_same, upd_ne]
        rw [g3.1, c117, e3]
      · simp (disch := omega) only [ms_same, upd_at]
        rw [g3.2.1, nI_1]
      · simp (disch := omega) only [ms_ne]
        have g4 := g3.2.2
        rw [c117, e3] at g4
        exact g4
    · intro y hy
      simp (disch := omega) only [ms_ne]
      rw [g1 121 (by omega) (by omega)]
      simp (disch := omega) only [ms_same]
      rw [rp_nI _ _ (by omega) (by omega), upd_ne _ _ (by omega)]
      exact h3 y hy
    · intro _
      simp (disch := omega) only [ms_ne]
      rw [g1 121 (by omega) (by omega)]
      simp (disch := omega) only [ms_same]
      rw [rp_nI _ _ (by omega) (by omega), upd_at, e3]
  · skip
    rw [bI_t, beq_iff_eq] at h_5
    refine r_vret rfl d_Program_haveKept_8 ?_
    refine ⟨rfl, ⟨hI, ?_, fun y _ => rfl⟩, fun q => absurd h_5 q⟩
    unfold kpL kpC
    rw [if_pos h_5, if_pos h_5, List.append_nil]
    exact hPM

end MProg2
