-- Reader
def stk (f : Nat → Int32) : List Int32 → Prop
  | [] => True
  | x :: r => f r.length = x ∧ stk f r
theorem stk_hi {f : Nat → Int32} {k : Nat} {x : Int32} : ∀ (l : List Int32), l.length ≤ k → stk f l → stk (upd f k x) l
  | [], _, _ => trivial
  | y :: r, h, hs => by
    simp only [List.length_cons] at h
    exact ⟨by rw [upd_ne _ _ (by omega)]; exact hs.1, stk_hi r (by omega) hs.2⟩
theorem stk_push {f : Nat → Int32} {x : Int32} {l : List Int32} (h : stk f l) : stk (upd f l.length x) (x :: l) := ⟨upd_at _ _ _, stk_hi l (Nat.le_refl _) h⟩
/-- a tree's rows hold NODES -/
def TR (t : Nat) (T : AT) (M : nw_M) : Prop := M t 9 = nI T.1 ∧ ∀ j, j < T.1 → M (t + 2) j = T.2.1 j ∧ M (t + 4) j = T.2.2.1 j ∧ M (t + 6) j = T.2.2.2.1 j ∧ M (t + 8) j = T.2.2.2.2.1 j
/-- the reader's piles and the NODES so far, in a memory -/
def RP (mk : MK) (pr : List Nat) (T : AT) (M : nw_M) : Prop := M 3 3 = nI mk.length ∧ M 3 4 = nI pr.length ∧ stk (M 5) (mk.map (·.1)) ∧ stk (M 7) (mk.map (fun m => nI m.2)) ∧ stk (M 9) (pr.map nI) ∧ TR 82 T M
/-- nothing else than the reader's own and the tree's -/
def RF (M0 M : nw_M) : Prop := ∀ e, e ≠ 3 → e ≠ 5 → e ≠ 7 → e ≠ 9 → e ≠ 82 → e ≠ 84 → e ≠ 86 → e ≠ 88 → e ≠ 90 → M e = M0 e
theorem RF.tr {A B C : nw_M} (h : RF A B) (h2 : RF B C) : RF A C := fun e a b c d f g i j k => (h2 e a b c d f g i j k).trans (h e a b c d f g i j k)
def RK (M N : nw_M) : Prop := N 3 5 = M 3 5 ∧ N 3 7 = M 3 7 ∧ N 3 8 = M 3 8
section MRdr
variable {G : nw_G}
theorem c_Reader_isDigit {L : nw_L} (c : Int32) (M : nw_M) : CF G L m_Reader_isDigit 0 [.int c] M (some (.int (bI (isDg c)))) M := by
  refine CJ_of (by decide) rfl (Nat.le_of_ble_eq_true rfl) ?_
  refine r_iload_n (i := 0) d_Reader_isDigit_0 rfl rfl ?_
  refine r_bipush 48 d_Reader_isDigit_1 bp_48 ?_
  refine r_icmp_lt 16 d_Reader_isDigit_3 (by decide) (fun h_3 => ?_) (fun h_3 => ?_)
  · skip
    refine r_iconst 0 d_Reader_isDigit_16 ic_0 ?_
    refine r_zret rfl (by decide) d_Reader_isDigit_17 ?_
    exact ⟨by simp [isDg, bI, *], rfl⟩
  · skip
    refine r_iload_n (i := 0) d_Reader_isDigit_6 rfl rfl ?_
    refine r_bipush 57 d_Reader_isDigit_7 bp_57 ?_
    refine r_icmp_gt 16 d_Reader_isDigit_9 (by decide) (fun h_9 => ?_) (fun h_9 => ?_)
    · skip
      refine r_iconst 0 d_Reader_isDigit_16 ic_0 ?_
      refine r_zret rfl (by decide) d_Reader_isDigit_17 ?_
      exact ⟨by simp [isDg, bI, *], rfl⟩
    · skip
      refine r_iconst 1 d_Reader_isDigit_12 ic_1 ?_
      refine r_goto 17 d_Reader_isDigit_13 (by decide) ?_
      refine r_zret rfl (by decide) d_Reader_isDigit_17 ?_
      exact ⟨by simp [isDg, bI, *], rfl⟩

theorem c_Reader_addNode (a b c d : Int32) (zz p : Nat) {mk : MK} {pr : List Nat} {T : AT} {M : nw_M} (hP : RP mk pr T M) (hn : T.1 ≤ 31) (hl : pr.length ≤ T.1) (hf : M 3 6 = -9) : CJ G LC m_Reader_addNode 2 [.ref (G.2.2 3), .ref (G.2.2 82), .int a, .int b, .int c, .int d, .int (nI p)] M (fun v N => v = none ∧ RF M N ∧ RK M N ∧ ((adn pr T a b c d zz p = .inl p ∧ N 3 6 = nI p) ∨ ∃ w, adn pr T a b c d zz p = .inr w ∧ N 3 6 = -9 ∧ RP mk w.1 w.2 N)) := by
  refine CJ_of2 (n0 := 0) (by decide) rfl rfl ?_
  simp only [List.map_cons, List.map_nil, List.cons_append, List.nil_append, List.reduceReplicate]
  refine r_aload_n (i := 1) d_Reader_addNode_0 rfl rfl ?_
  refine r_V0 v_Tree_isFull w_398 tree_82.1 (c_Tree_isFull tree_82 _ ) (Nat.le_of_ble_eq_true rfl) (Nat.le_of_ble_eq_true rfl) d_Reader_addNode_1 ?_
  refine r_if_eq 14 d_Reader_addNode_4 (by decide) (fun h_4 => ?_) (fun h_4 => ?_)
  · skip
    rw [bI_f, decide_eq_false_iff_not, Decidable.not_not] at h_4
    have hn2 : T.1 < 31 := by
      rw [hP.2.2.2.2.2.1] at h_4
      exact (nI_ltI (b := 31) (by omega) (by omega)).mp h_4
    refine r_aload_n (i := 1) d_Reader_addNode_14 rfl rfl ?_
    refine r_iload_n (i := 2) d_Reader_addNode_15 rfl rfl ?_
    refine r_iload_n (i := 3) d_Reader_addNode_16 rfl rfl ?_
    refine r_iload d_Reader_addNode_17 rfl ?_
    refine r_iload d_Reader_addNode_19 rfl ?_
    refine r_V4 v_Tree_add w_402 tree_82.1 (c_Tree_add tree_82 T.1 hn2 _ _ _ _ _ hP.2.2.2.2.2.1) (Nat.le_of_ble_eq_true rfl) (Nat.le_of_ble_eq_true rfl) d_Reader_addNode_21 ?_
    refine r_aload_n (i := 0) d_Reader_addNode_24 rfl rfl ?_
    refine r_getr nf_Reader_23 lc_3 rfl d_Reader_addNode_25 ?_
    refine r_aload_n (i := 0) d_Reader_addNode_28 rfl rfl ?_
    refine r_geti nf_Reader_30 lc_3 rfl d_Reader_addNode_29 ?_
    refine r_aload_n (i := 1) d_Reader_addNode_32 rfl rfl ?_
    refine r_V0 v_Tree_root w_407 tree_82.1 (c_Tree_root tree_82 _ ) (Nat.le_of_ble_eq_true rfl) (Nat.le_of_ble_eq_true rfl) d_Reader_addNode_33 ?_
    refine r_V2 v_Row_put w_389 row_8.1 (c_Row_put row_8 _ _ _ ) (Nat.le_of_ble_eq_true rfl) (Nat.le_of_ble_eq_true rfl) d_Reader_addNode_36 ?_
    refine r_aload_n (i := 0) d_Reader_addNode_39 rfl rfl ?_
    refine r_dup d_Reader_addNode_40 rfl ?_
    refine r_geti nf_Reader_30 lc_3 rfl d_Reader_addNode_41 ?_
    refine r_iconst 1 d_Reader_addNode_44 ic_1 ?_
    refine r_iadd d_Reader_addNode_45 ?_
    refine r_puti nf_Reader_30 nfin_Reader_4 lc_3 rfl d_Reader_addNode_46 ?_
    refine r_vret rfl d_Reader_addNode_49 ?_
    obtain ⟨a1, a2, a3, a4, a5, a6⟩ := hP
    have e13 : (tadd M 82 T.1 a b c d) 3 = M 3 := by unfold tadd; simp (disch := omega) only [ms_ne]
    have e9 : (tadd M 82 T.1 a b c d) 9 = M 9 := by unfold tadd; simp (disch := omega) only [ms_ne]
    have e82 : (tadd M 82 T.1 a b c d) 82 9 = nI (T.1 + 1) := by unfold tadd; simp (disch := omega) only [ms_same, upd_at]
    rw [e82, nI_pred]
    simp (disch := omega) only [ms_same, ms_ne, e13, e9, a2, rp_nI, nI_1]
    refine ⟨trivial, fun e e1 e2 e3 e4 e5 e6 e7 e8 e9 => ?_, ⟨?_, ?_, ?_⟩, Or.inr ⟨_, by unfold adn; rw [if_neg (by omega)], ?_, ?_⟩⟩
    · simp (disch := omega) only [ms_ne]; unfold tadd; simp (disch := omega) only [ms_ne]
    · simp (disch := omega) only [ms_same, ms_ne, upd_ne, e13]
    · simp (disch := omega) only [ms_same, ms_ne, upd_ne, e13]
    · simp (disch := omega) only [ms_same, ms_ne, upd_ne, e13]
    · simp (disch := omega) only [ms_same, ms_ne, upd_ne, e13]; exact hf
    · refine ⟨?_, ?_, ?_, ?_, ?_, ?_, fun j hj => ?_⟩
      · simp (disch := omega) only [ms_same, ms_ne, upd_ne, e13]; exact a1
      · simp (disch := omega) only [ms_same, ms_ne, upd_at]; rfl
      · simp (disch := omega) only [ms_ne]; unfold tadd; simp (disch := omega) only [ms_ne]; exact a3
      · simp (disch := omega) only [ms_ne]; unfold tadd; simp (disch := omega) only [ms_ne]; exact a4
      · simp (disch := omega) only [ms_same, ms_ne]
        have := stk_push (x := nI T.1) a5
        rw [List.length_map] at this
        exact this
      · simp (disch := omega) only [ms_ne]; exact e82
      · simp (disch := omega) only [ms_ne]
        unfold tadd
        simp (disch := omega) only [ms_same, ms_ne, Nat.reduceAdd]
        simp only [tpush] at hj ⊢
        by_cases e : j = T.1
        · subst e; simp only [upd_at]; exact ⟨trivial, trivial, trivial, trivial⟩
        · rw [upd_ne _ _ e, upd_ne _ _ e, upd_ne _ _ e, upd_ne _ _ e, upd_ne _ _ e, upd_ne _ _ e, upd_ne _ _ e, upd_ne _ _ e]
          exact a6.2 j (by omega)
  · skip
    rw [bI_t, decide_eq_true_eq] at h_4
    refine r_aload_n (i := 0) d_Reader_addNode_7 rfl rfl ?_
    refine r_iload d_Reader_addNode_8 rfl ?_
    refine r_puti nf_Reader_36 nfin_Reader_6 lc_3 rfl d_Reader_addNode_10 ?_
    refine r_vret rfl d_Reader_addNode_13 ?_
    have e31 : T.1 = 31 := by
      rw [hP.2.2.2.2.2.1] at h_4
      rcases Nat.lt_or_ge T.1 31 with q | q
      · exact absurd (show nI T.1 < nI 31 from nI_lt q (by omega)) h_4
      · omega
    refine ⟨rfl, fun e e1 e2 e3 e4 e5 e6 e7 e8 e9 => by simp (disch := omega) only [ms_ne], ⟨?_, ?_, ?_⟩, Or.inl ⟨by unfold adn; rw [if_pos e31], ?_⟩⟩
    all_goals simp (disch := omega) only [ms_same, upd_ne, upd_at]

theorem c_Reader_takeOff {mk : MK} {x : Nat} {pr : List Nat} {T : AT} {M : nw_M} (hP : RP mk (x :: pr) T M) (hl : pr.length < 31) : CJ G LC m_Reader_takeOff 1 [.ref (G.2.2 3)] M (fun v N => v = some (.int (nI x)) ∧ N = ms M 3 (upd (M 3) 4 (nI pr.length))) := by
  refine CJ_of (by decide) rfl (Nat.le_of_ble_eq_true rfl) ?_
  refine r_aload_n (i := 0) d_Reader_takeOff_0 rfl rfl ?_
  refine r_dup d_Reader_takeOff_1 rfl ?_
  refine r_geti nf_Reader_30 lc_3 rfl d_Reader_takeOff_2 ?_
  refine r_iconst 1 d_Reader_takeOff_5 ic_1 ?_
  refine r_isub d_Reader_takeOff_6 ?_
  refine r_puti nf_Reader_30 nfin_Reader_4 lc_3 rfl d_Reader_takeOff_7 ?_
  refine r_aload_n (i := 0) d_Reader_takeOff_10 rfl rfl ?_
  refine r_getr nf_Reader_23 lc_3 rfl d_Reader_takeOff_11 ?_
  refine r_aload_n (i := 0) d_Reader_takeOff_14 rfl rfl ?_
  refine r_geti nf_Reader_30 lc_3 rfl d_Reader_takeOff_15 ?_
  refine r_V1 v_Row_get w_370 row_8.1 (c_Row_get row_8 _ _ ) (Nat.le_of_ble_eq_true rfl) (Nat.le_of_ble_eq_true rfl) d_Reader_takeOff_18 ?_
  refine r_iret rfl d_Reader_takeOff_21 ?_
  have e4 := hP.2.1
  simp only [List.length_cons] at e4
  refine ⟨?_, ?_⟩
  · simp (disch := omega) only [ms_same, ms_ne, upd_at, e4, nI_pred]
    rw [rg_nI _ hl (by omega)]
    have := hP.2.2.2.2.1.1
    rw [List.length_map] at this
    rw [show M (8 + 1) = M 9 from rfl, this]
  · rw [e4, nI_pred]

end MRdr
