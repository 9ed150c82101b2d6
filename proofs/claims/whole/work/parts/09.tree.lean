-- Tree: what is asked of NODES
section MTree
variable {G : nw_G}
theorem c_Tree_isEmpty {t : Nat} (h : isTree t)  (M : nw_M) : CF G LC m_Tree_isEmpty 0 [.ref (G.2.2 t)] M (some (.int (bI (M t 9 == 0)))) M := by
  refine CJ_of (by decide) rfl (Nat.le_of_ble_eq_true rfl) ?_
  refine r_aload_n (i := 0) d_Tree_isEmpty_0 rfl rfl ?_
  refine r_geti nf_Tree_44 h.1 rfl d_Tree_isEmpty_1 ?_
  refine r_if_ne 11 d_Tree_isEmpty_4 (by decide) (fun h_4 => ?_) (fun h_4 => ?_)
  · skip
    refine r_iconst 0 d_Tree_isEmpty_11 ic_0 ?_
    refine r_zret rfl (by decide) d_Tree_isEmpty_12 ?_
    exact ⟨by simp_all [bI], rfl⟩
  · skip
    refine r_iconst 1 d_Tree_isEmpty_7 ic_1 ?_
    refine r_goto 12 d_Tree_isEmpty_8 (by decide) ?_
    refine r_zret rfl (by decide) d_Tree_isEmpty_12 ?_
    exact ⟨by simp_all [bI], rfl⟩

theorem c_Tree_isFull {t : Nat} (h : isTree t)  (M : nw_M) : CF G LC m_Tree_isFull 0 [.ref (G.2.2 t)] M (some (.int (bI (decide (¬ M t 9 < 31))))) M := by
  refine CJ_of (by decide) rfl (Nat.le_of_ble_eq_true rfl) ?_
  refine r_aload_n (i := 0) d_Tree_isFull_0 rfl rfl ?_
  refine r_geti nf_Tree_44 h.1 rfl d_Tree_isFull_1 ?_
  refine r_bipush 31 d_Tree_isFull_4 bp_31 ?_
  refine r_icmp_lt 13 d_Tree_isFull_6 (by decide) (fun h_6 => ?_) (fun h_6 => ?_)
  · skip
    refine r_iconst 0 d_Tree_isFull_13 ic_0 ?_
    refine r_zret rfl (by decide) d_Tree_isFull_14 ?_
    exact ⟨by simp_all [bI], rfl⟩
  · skip
    refine r_iconst 1 d_Tree_isFull_9 ic_1 ?_
    refine r_goto 14 d_Tree_isFull_10 (by decide) ?_
    refine r_zret rfl (by decide) d_Tree_isFull_14 ?_
    exact ⟨by simp_all [bI], rfl⟩

theorem c_Tree_has {t : Nat} (h : isTree t) (k : Int32) (M : nw_M) : CF G LC m_Tree_has 0 [.ref (G.2.2 t), .int k] M (some (.int (bI (decide (¬ k < 0 ∧ ¬ M t 9 ≤ k))))) M := by
  refine CJ_of (by decide) rfl (Nat.le_of_ble_eq_true rfl) ?_
  refine r_iload_n (i := 1) d_Tree_has_0 rfl rfl ?_
  refine r_if_lt 16 d_Tree_has_1 (by decide) (fun h_1 => ?_) (fun h_1 => ?_)
  · skip
    refine r_iconst 0 d_Tree_has_16 ic_0 ?_
    refine r_zret rfl (by decide) d_Tree_has_17 ?_
    exact ⟨by simp_all [bI], rfl⟩
  · skip
    refine r_iload_n (i := 1) d_Tree_has_4 rfl rfl ?_
    refine r_aload_n (i := 0) d_Tree_has_5 rfl rfl ?_
    refine r_geti nf_Tree_44 h.1 rfl d_Tree_has_6 ?_
    refine r_icmp_ge 16 d_Tree_has_9 (by decide) (fun h_9 => ?_) (fun h_9 => ?_)
    · skip
      refine r_iconst 0 d_Tree_has_16 ic_0 ?_
      refine r_zret rfl (by decide) d_Tree_has_17 ?_
      exact ⟨by simp_all [bI], rfl⟩
    · skip
      refine r_iconst 1 d_Tree_has_12 ic_1 ?_
      refine r_goto 17 d_Tree_has_13 (by decide) ?_
      refine r_zret rfl (by decide) d_Tree_has_17 ?_
      exact ⟨by simp_all [bI], rfl⟩

theorem c_Tree_root {t : Nat} (h : isTree t)  (M : nw_M) : CF G LC m_Tree_root 0 [.ref (G.2.2 t)] M (some (.int (M t 9 - 1))) M := by
  refine CJ_of (by decide) rfl (Nat.le_of_ble_eq_true rfl) ?_
  refine r_aload_n (i := 0) d_Tree_root_0 rfl rfl ?_
  refine r_geti nf_Tree_44 h.1 rfl d_Tree_root_1 ?_
  refine r_iconst 1 d_Tree_root_4 ic_1 ?_
  refine r_isub d_Tree_root_5 ?_
  refine r_iret rfl d_Tree_root_6 ?_
  exact ⟨rfl, rfl⟩

theorem c_Tree_isLeaf {t : Nat} (h : isTree t) (k : Int32) (M : nw_M) : CF G LC m_Tree_isLeaf 1 [.ref (G.2.2 t), .int k] M (some (.int (bI (rg 31 (M (t + 6)) k == -9)))) M := by
  refine CJ_of (by decide) rfl (Nat.le_of_ble_eq_true rfl) ?_
  refine r_aload_n (i := 0) d_Tree_isLeaf_0 rfl rfl ?_
  refine r_getr nf_Tree_23 h.1 rfl d_Tree_isLeaf_1 ?_
  refine r_iload_n (i := 1) d_Tree_isLeaf_4 rfl rfl ?_
  refine r_V1 v_Row_get w_442 (isTree.lefts h).1 (c_Row_get (isTree.lefts h) _ _ ) (Nat.le_of_ble_eq_true rfl) (Nat.le_of_ble_eq_true rfl) d_Tree_isLeaf_5 ?_
  refine r_bipush (-9) d_Tree_isLeaf_8 bp_m9 ?_
  refine r_icmp_ne 17 d_Tree_isLeaf_10 (by decide) (fun h_10 => ?_) (fun h_10 => ?_)
  · skip
    refine r_iconst 0 d_Tree_isLeaf_17 ic_0 ?_
    refine r_zret rfl (by decide) d_Tree_isLeaf_18 ?_
    exact ⟨by simp_all [bI], rfl⟩
  · skip
    refine r_iconst 1 d_Tree_isLeaf_13 ic_1 ?_
    refine r_goto 18 d_Tree_isLeaf_14 (by decide) ?_
    refine r_zret rfl (by decide) d_Tree_isLeaf_18 ?_
    exact ⟨by simp_all [bI], rfl⟩

theorem c_Tree_isPair {t : Nat} (h : isTree t) (k : Int32) (M : nw_M) : CF G LC m_Tree_isPair 1 [.ref (G.2.2 t), .int k] M (some (.int (bI (rg 31 (M (t + 8)) k != -9)))) M := by
  refine CJ_of (by decide) rfl (Nat.le_of_ble_eq_true rfl) ?_
  refine r_aload_n (i := 0) d_Tree_isPair_0 rfl rfl ?_
  refine r_getr nf_Tree_26 h.1 rfl d_Tree_isPair_1 ?_
  refine r_iload_n (i := 1) d_Tree_isPair_4 rfl rfl ?_
  refine r_V1 v_Row_get w_442 (isTree.rights h).1 (c_Row_get (isTree.rights h) _ _ ) (Nat.le_of_ble_eq_true rfl) (Nat.le_of_ble_eq_true rfl) d_Tree_isPair_5 ?_
  refine r_bipush (-9) d_Tree_isPair_8 bp_m9 ?_
  refine r_icmp_eq 17 d_Tree_isPair_10 (by decide) (fun h_10 => ?_) (fun h_10 => ?_)
  · skip
    refine r_iconst 0 d_Tree_isPair_17 ic_0 ?_
    refine r_zret rfl (by decide) d_Tree_isPair_18 ?_
    exact ⟨by simp_all [bI], rfl⟩
  · skip
    refine r_iconst 1 d_Tree_isPair_13 ic_1 ?_
    refine r_goto 18 d_Tree_isPair_14 (by decide) ?_
    refine r_zret rfl (by decide) d_Tree_isPair_18 ?_
    exact ⟨by simp_all [bI], rfl⟩

theorem c_Tree_isCommuting {t : Nat} (h : isTree t) (k : Int32) (M : nw_M) : CF G LC m_Tree_isCommuting 1 [.ref (G.2.2 t), .int k] M (some (.int (bI (o_comm (rg 31 (M (t + 2)) k))))) M := by
  refine CJ_of (by decide) rfl (Nat.le_of_ble_eq_true rfl) ?_
  refine r_aload_n (i := 0) d_Tree_isCommuting_0 rfl rfl ?_
  refine r_getr nf_Tree_14 h.1 rfl d_Tree_isCommuting_1 ?_
  refine r_iload_n (i := 1) d_Tree_isCommuting_4 rfl rfl ?_
  refine r_V1 v_Row_get w_442 (isTree.letters h).1 (c_Row_get (isTree.letters h) _ _ ) (Nat.le_of_ble_eq_true rfl) (Nat.le_of_ble_eq_true rfl) d_Tree_isCommuting_5 ?_
  refine r_S1 f_Ops_isCommuting w_467 (c_Ops_isCommuting _ _ ) (Nat.le_of_ble_eq_true rfl) (Nat.le_of_ble_eq_true rfl) d_Tree_isCommuting_8 ?_
  refine r_zret rfl (bI_01 _) d_Tree_isCommuting_11 ?_
  exact ⟨rfl, rfl⟩

theorem c_Tree_mayTrap {t : Nat} (h : isTree t) (k : Int32) (M : nw_M) : CF G LC m_Tree_mayTrap 1 [.ref (G.2.2 t), .int k] M (some (.int (bI (rg 31 (M (t + 14)) k == 1)))) M := by
  refine CJ_of (by decide) rfl (Nat.le_of_ble_eq_true rfl) ?_
  refine r_aload_n (i := 0) d_Tree_mayTrap_0 rfl rfl ?_
  refine r_getr nf_Tree_35 h.1 rfl d_Tree_mayTrap_1 ?_
  refine r_iload_n (i := 1) d_Tree_mayTrap_4 rfl rfl ?_
  refine r_V1 v_Row_get w_442 (isTree.traps h).1 (c_Row_get (isTree.traps h) _ _ ) (Nat.le_of_ble_eq_true rfl) (Nat.le_of_ble_eq_true rfl) d_Tree_mayTrap_5 ?_
  refine r_iconst 1 d_Tree_mayTrap_8 ic_1 ?_
  refine r_icmp_ne 16 d_Tree_mayTrap_9 (by decide) (fun h_9 => ?_) (fun h_9 => ?_)
  · skip
    refine r_iconst 0 d_Tree_mayTrap_16 ic_0 ?_
    refine r_zret rfl (by decide) d_Tree_mayTrap_17 ?_
    exact ⟨by simp_all [bI], rfl⟩
  · skip
    refine r_iconst 1 d_Tree_mayTrap_12 ic_1 ?_
    refine r_goto 17 d_Tree_mayTrap_13 (by decide) ?_
    refine r_zret rfl (by decide) d_Tree_mayTrap_17 ?_
    exact ⟨by simp_all [bI], rfl⟩

theorem c_Tree_bothMayTrap {t : Nat} (h : isTree t) (k : Int32) (M : nw_M) : CF G LC m_Tree_bothMayTrap 1 [.ref (G.2.2 t), .int k] M (some (.int (bI (rg 31 (M (t + 14)) (rg 31 (M (t + 6)) k) == 1 && rg 31 (M (t + 14)) (rg 31 (M (t + 8)) k) == 1)))) M := by
  refine CJ_of (by decide) rfl (Nat.le_of_ble_eq_true rfl) ?_
  refine r_aload_n (i := 0) d_Tree_bothMayTrap_0 rfl rfl ?_
  refine r_getr nf_Tree_35 h.1 rfl d_Tree_bothMayTrap_1 ?_
  refine r_aload_n (i := 0) d_Tree_bothMayTrap_4 rfl rfl ?_
  refine r_getr nf_Tree_23 h.1 rfl d_Tree_bothMayTrap_5 ?_
  refine r_iload_n (i := 1) d_Tree_bothMayTrap_8 rfl rfl ?_
  refine r_V1 v_Row_get w_442 (isTree.lefts h).1 (c_Row_get (isTree.lefts h) _ _ ) (Nat.le_of_ble_eq_true rfl) (Nat.le_of_ble_eq_true rfl) d_Tree_bothMayTrap_9 ?_
  refine r_V1 v_Row_get w_442 (isTree.traps h).1 (c_Row_get (isTree.traps h) _ _ ) (Nat.le_of_ble_eq_true rfl) (Nat.le_of_ble_eq_true rfl) d_Tree_bothMayTrap_12 ?_
  refine r_iconst 1 d_Tree_bothMayTrap_15 ic_1 ?_
  refine r_icmp_ne 42 d_Tree_bothMayTrap_16 (by decide) (fun h_16 => ?_) (fun h_16 => ?_)
  · skip
    refine r_iconst 0 d_Tree_bothMayTrap_42 ic_0 ?_
    refine r_zret rfl (by decide) d_Tree_bothMayTrap_43 ?_
    exact ⟨by simp_all [bI], rfl⟩
  · skip
    refine r_aload_n (i := 0) d_Tree_bothMayTrap_19 rfl rfl ?_
    refine r_getr nf_Tree_35 h.1 rfl d_Tree_bothMayTrap_20 ?_
    refine r_aload_n (i := 0) d_Tree_bothMayTrap_23 rfl rfl ?_
    refine r_getr nf_Tree_26 h.1 rfl d_Tree_bothMayTrap_24 ?_
    refine r_iload_n (i := 1) d_Tree_bothMayTrap_27 rfl rfl ?_
    refine r_V1 v_Row_get w_442 (isTree.rights h).1 (c_Row_get (isTree.rights h) _ _ ) (Nat.le_of_ble_eq_true rfl) (Nat.le_of_ble_eq_true rfl) d_Tree_bothMayTrap_28 ?_
    refine r_V1 v_Row_get w_442 (isTree.traps h).1 (c_Row_get (isTree.traps h) _ _ ) (Nat.le_of_ble_eq_true rfl) (Nat.le_of_ble_eq_true rfl) d_Tree_bothMayTrap_31 ?_
    refine r_iconst 1 d_Tree_bothMayTrap_34 ic_1 ?_
    refine r_icmp_ne 42 d_Tree_bothMayTrap_35 (by decide) (fun h_35 => ?_) (fun h_35 => ?_)
    · skip
      refine r_iconst 0 d_Tree_bothMayTrap_42 ic_0 ?_
      refine r_zret rfl (by decide) d_Tree_bothMayTrap_43 ?_
      exact ⟨by simp_all [bI], rfl⟩
    · skip
      refine r_iconst 1 d_Tree_bothMayTrap_38 ic_1 ?_
      refine r_goto 43 d_Tree_bothMayTrap_39 (by decide) ?_
      refine r_zret rfl (by decide) d_Tree_bothMayTrap_43 ?_
      exact ⟨by simp_all [bI], rfl⟩

theorem c_Tree_isExchangeable {t : Nat} (h : isTree t) (k : Int32) (M : nw_M) : CF G LC m_Tree_isExchangeable 2 [.ref (G.2.2 t), .int k] M (some (.int (bI (o_comm (rg 31 (M (t + 2)) k) && !(rg 31 (M (t + 14)) (rg 31 (M (t + 6)) k) == 1 && rg 31 (M (t + 14)) (rg 31 (M (t + 8)) k) == 1))))) M := by
  refine CJ_of (by decide) rfl (Nat.le_of_ble_eq_true rfl) ?_
  refine r_aload_n (i := 0) d_Tree_isExchangeable_0 rfl rfl ?_
  refine r_iload_n (i := 1) d_Tree_isExchangeable_1 rfl rfl ?_
  refine r_V1 v_Tree_isCommuting w_463 h.1 (c_Tree_isCommuting h _ _ ) (Nat.le_of_ble_eq_true rfl) (Nat.le_of_ble_eq_true rfl) d_Tree_isExchangeable_2 ?_
  refine r_if_eq 20 d_Tree_isExchangeable_5 (by decide) (fun h_5 => ?_) (fun h_5 => ?_)
  · skip
    refine r_iconst 0 d_Tree_isExchangeable_20 ic_0 ?_
    refine r_zret rfl (by decide) d_Tree_isExchangeable_21 ?_
    exact ⟨by simp_all [bI_t, bI_f, -Bool.and_eq_true, -Bool.and_eq_false_imp]; simp [bI], rfl⟩
  · skip
    refine r_aload_n (i := 0) d_Tree_isExchangeable_8 rfl rfl ?_
    refine r_iload_n (i := 1) d_Tree_isExchangeable_9 rfl rfl ?_
    refine r_V1 v_Tree_bothMayTrap w_710 h.1 (c_Tree_bothMayTrap h _ _ ) (Nat.le_of_ble_eq_true rfl) (Nat.le_of_ble_eq_true rfl) d_Tree_isExchangeable_10 ?_
    refine r_if_ne 20 d_Tree_isExchangeable_13 (by decide) (fun h_13 => ?_) (fun h_13 => ?_)
    · skip
      refine r_iconst 0 d_Tree_isExchangeable_20 ic_0 ?_
      refine r_zret rfl (by decide) d_Tree_isExchangeable_21 ?_
      exact ⟨by simp_all [bI_t, bI_f, -Bool.and_eq_true, -Bool.and_eq_false_imp]; simp [bI], rfl⟩
    · skip
      refine r_iconst 1 d_Tree_isExchangeable_16 ic_1 ?_
      refine r_goto 21 d_Tree_isExchangeable_17 (by decide) ?_
      refine r_zret rfl (by decide) d_Tree_isExchangeable_21 ?_
      exact ⟨by simp_all [bI_t, bI_f, -Bool.and_eq_true, -Bool.and_eq_false_imp]; simp [bI], rfl⟩

theorem c_Tree_kindOf {t : Nat} (h : isTree t) (x : Int32) (M : nw_M) : CF G LC m_Tree_kindOf 1 [.ref (G.2.2 t), .int x] M (some (.int (if x = -9 then -9 else rg 31 (M (t + 18)) x))) M := by
  refine CJ_of (by decide) rfl (Nat.le_of_ble_eq_true rfl) ?_
  refine r_iload_n (i := 1) d_Tree_kindOf_0 rfl rfl ?_
  refine r_bipush (-9) d_Tree_kindOf_1 bp_m9 ?_
  refine r_icmp_ne 11 d_Tree_kindOf_3 (by decide) (fun h_3 => ?_) (fun h_3 => ?_)
  · skip
    refine r_aload_n (i := 0) d_Tree_kindOf_11 rfl rfl ?_
    refine r_getr nf_Tree_41 h.1 rfl d_Tree_kindOf_12 ?_
    refine r_iload_n (i := 1) d_Tree_kindOf_15 rfl rfl ?_
    refine r_V1 v_Row_get w_442 (isTree.alikes h).1 (c_Row_get (isTree.alikes h) _ _ ) (Nat.le_of_ble_eq_true rfl) (Nat.le_of_ble_eq_true rfl) d_Tree_kindOf_16 ?_
    refine r_iret rfl d_Tree_kindOf_19 ?_
    exact ⟨by simp_all, rfl⟩
  · skip
    refine r_bipush (-9) d_Tree_kindOf_6 bp_m9 ?_
    refine r_goto 19 d_Tree_kindOf_8 (by decide) ?_
    refine r_iret rfl d_Tree_kindOf_19 ?_
    exact ⟨by simp_all, rfl⟩

theorem c_Tree_joint {L : nw_L} (a b : Int32) (M : nw_M) : CF G L m_Tree_joint 1 [.int a, .int b] M (some (.int (if a = b then a + 1 else if a < b then b else a))) M := by
  refine CJ_of (by decide) rfl (Nat.le_of_ble_eq_true rfl) ?_
  refine r_iload_n (i := 0) d_Tree_joint_0 rfl rfl ?_
  refine r_iload_n (i := 1) d_Tree_joint_1 rfl rfl ?_
  refine r_icmp_ne 11 d_Tree_joint_2 (by decide) (fun h_2 => ?_) (fun h_2 => ?_)
  · skip
    refine r_iload_n (i := 0) d_Tree_joint_11 rfl rfl ?_
    refine r_iload_n (i := 1) d_Tree_joint_12 rfl rfl ?_
    refine r_mmax w_458 (Nat.le_of_ble_eq_true rfl) (Nat.le_of_ble_eq_true rfl) d_Tree_joint_13 ?_
    refine r_iret rfl d_Tree_joint_16 ?_
    exact ⟨by simp_all, rfl⟩
  · skip
    refine r_iload_n (i := 0) d_Tree_joint_5 rfl rfl ?_
    refine r_iconst 1 d_Tree_joint_6 ic_1 ?_
    refine r_iadd d_Tree_joint_7 ?_
    refine r_goto 16 d_Tree_joint_8 (by decide) ?_
    refine r_iret rfl d_Tree_joint_16 ?_
    exact ⟨by simp_all, rfl⟩

theorem c_Tree_empty {t : Nat} (h : isTree t) (M : nw_M) : CF G LC m_Tree_empty 0 [.ref (G.2.2 t)] M none (ms M t (upd (M t) 9 0)) := by
  refine CJ_of (by decide) rfl (Nat.le_of_ble_eq_true rfl) ?_
  refine r_aload_n (i := 0) d_Tree_empty_0 rfl rfl ?_
  refine r_iconst 0 d_Tree_empty_1 ic_0 ?_
  refine r_puti nf_Tree_44 nfin_Tree_9 h.1 rfl d_Tree_empty_2 ?_
  refine r_vret rfl d_Tree_empty_5 ?_
  exact ⟨rfl, rfl⟩

theorem c_Tree_areAlike {t : Nat} (h : isTree t) (j k : Int32) (M : nw_M) : CF G LC m_Tree_areAlike 2 [.ref (G.2.2 t), .int j, .int k] M (some (.int (bI (decide (rg 31 (M (t + 2)) j = rg 31 (M (t + 2)) k ∧ rg 31 (M (t + 4)) j = rg 31 (M (t + 4)) k ∧ (if rg 31 (M (t + 6)) j = -9 then -9 else rg 31 (M (t + 18)) (rg 31 (M (t + 6)) j)) = (if rg 31 (M (t + 6)) k = -9 then -9 else rg 31 (M (t + 18)) (rg 31 (M (t + 6)) k)) ∧ (if rg 31 (M (t + 8)) j = -9 then -9 else rg 31 (M (t + 18)) (rg 31 (M (t + 8)) j)) = (if rg 31 (M (t + 8)) k = -9 then -9 else rg 31 (M (t + 18)) (rg 31 (M (t + 8)) k))))))) M := by
  refine CJ_of (by decide) rfl (Nat.le_of_ble_eq_true rfl) ?_
  refine r_aload_n (i := 0) d_Tree_areAlike_0 rfl rfl ?_
  refine r_getr nf_Tree_14 h.1 rfl d_Tree_areAlike_1 ?_
  refine r_iload_n (i := 1) d_Tree_areAlike_4 rfl rfl ?_
  refine r_V1 v_Row_get w_442 (isTree.letters h).1 (c_Row_get (isTree.letters h) _ _ ) (Nat.le_of_ble_eq_true rfl) (Nat.le_of_ble_eq_true rfl) d_Tree_areAlike_5 ?_
  refine r_aload_n (i := 0) d_Tree_areAlike_8 rfl rfl ?_
  refine r_getr nf_Tree_14 h.1 rfl d_Tree_areAlike_9 ?_
  refine r_iload_n (i := 2) d_Tree_areAlike_12 rfl rfl ?_
  refine r_V1 v_Row_get w_442 (isTree.letters h).1 (c_Row_get (isTree.letters h) _ _ ) (Nat.le_of_ble_eq_true rfl) (Nat.le_of_ble_eq_true rfl) d_Tree_areAlike_13 ?_
  refine r_icmp_ne 96 d_Tree_areAlike_16 (by decide) (fun h_16 => ?_) (fun h_16 => ?_)
  · skip
    refine r_iconst 0 d_Tree_areAlike_96 ic_0 ?_
    refine r_zret rfl (by decide) d_Tree_areAlike_97 ?_
    exact ⟨by simp [bI, h_16], rfl⟩
  · skip
    refine r_aload_n (i := 0) d_Tree_areAlike_19 rfl rfl ?_
    refine r_getr nf_Tree_20 h.1 rfl d_Tree_areAlike_20 ?_
    refine r_iload_n (i := 1) d_Tree_areAlike_23 rfl rfl ?_
    refine r_V1 v_Row_get w_442 (isTree.numbers h).1 (c_Row_get (isTree.numbers h) _ _ ) (Nat.le_of_ble_eq_true rfl) (Nat.le_of_ble_eq_true rfl) d_Tree_areAlike_24 ?_
    refine r_aload_n (i := 0) d_Tree_areAlike_27 rfl rfl ?_
    refine r_getr nf_Tree_20 h.1 rfl d_Tree_areAlike_28 ?_
    refine r_iload_n (i := 2) d_Tree_areAlike_31 rfl rfl ?_
    refine r_V1 v_Row_get w_442 (isTree.numbers h).1 (c_Row_get (isTree.numbers h) _ _ ) (Nat.le_of_ble_eq_true rfl) (Nat.le_of_ble_eq_true rfl) d_Tree_areAlike_32 ?_
    refine r_icmp_ne 96 d_Tree_areAlike_35 (by decide) (fun h_35 => ?_) (fun h_35 => ?_)
    · skip
      refine r_iconst 0 d_Tree_areAlike_96 ic_0 ?_
      refine r_zret rfl (by decide) d_Tree_areAlike_97 ?_
      exact ⟨by simp [bI, h_35], rfl⟩
    · skip
      refine r_aload_n (i := 0) d_Tree_areAlike_38 rfl rfl ?_
      refine r_aload_n (i := 0) d_Tree_areAlike_39 rfl rfl ?_
      refine r_getr nf_Tree_23 h.1 rfl d_Tree_areAlike_40 ?_
      refine r_iload_n (i := 1) d_Tree_areAlike_43 rfl rfl ?_
      refine r_V1 v_Row_get w_442 (isTree.lefts h).1 (c_Row_get (isTree.lefts h) _ _ ) (Nat.le_of_ble_eq_true rfl) (Nat.le_of_ble_eq_true rfl) d_Tree_areAlike_44 ?_
      refine r_V1 v_Tree_kindOf w_492 h.1 (c_Tree_kindOf h _ _ ) (Nat.le_of_ble_eq_true rfl) (Nat.le_of_ble_eq_true rfl) d_Tree_areAlike_47 ?_
      refine r_aload_n (i := 0) d_Tree_areAlike_50 rfl rfl ?_
      refine r_aload_n (i := 0) d_Tree_areAlike_51 rfl rfl ?_
      refine r_getr nf_Tree_23 h.1 rfl d_Tree_areAlike_52 ?_
      refine r_iload_n (i := 2) d_Tree_areAlike_55 rfl rfl ?_
      refine r_V1 v_Row_get w_442 (isTree.lefts h).1 (c_Row_get (isTree.lefts h) _ _ ) (Nat.le_of_ble_eq_true rfl) (Nat.le_of_ble_eq_true rfl) d_Tree_areAlike_56 ?_
      refine r_V1 v_Tree_kindOf w_492 h.1 (c_Tree_kindOf h _ _ ) (Nat.le_of_ble_eq_true rfl) (Nat.le_of_ble_eq_true rfl) d_Tree_areAlike_59 ?_
      refine r_icmp_ne 96 d_Tree_areAlike_62 (by decide) (fun h_62 => ?_) (fun h_62 => ?_)
      · skip
        refine r_iconst 0 d_Tree_areAlike_96 ic_0 ?_
        refine r_zret rfl (by decide) d_Tree_areAlike_97 ?_
        exact ⟨by simp [bI, h_62], rfl⟩
      · skip
        refine r_aload_n (i := 0) d_Tree_areAlike_65 rfl rfl ?_
        refine r_aload_n (i := 0) d_Tree_areAlike_66 rfl rfl ?_
        refine r_getr nf_Tree_26 h.1 rfl d_Tree_areAlike_67 ?_
        refine r_iload_n (i := 1) d_Tree_areAlike_70 rfl rfl ?_
        refine r_V1 v_Row_get w_442 (isTree.rights h).1 (c_Row_get (isTree.rights h) _ _ ) (Nat.le_of_ble_eq_true rfl) (Nat.le_of_ble_eq_true rfl) d_Tree_areAlike_71 ?_
        refine r_V1 v_Tree_kindOf w_492 h.1 (c_Tree_kindOf h _ _ ) (Nat.le_of_ble_eq_true rfl) (Nat.le_of_ble_eq_true rfl) d_Tree_areAlike_74 ?_
        refine r_aload_n (i := 0) d_Tree_areAlike_77 rfl rfl ?_
        refine r_aload_n (i := 0) d_Tree_areAlike_78 rfl rfl ?_
        refine r_getr nf_Tree_26 h.1 rfl d_Tree_areAlike_79 ?_
        refine r_iload_n (i := 2) d_Tree_areAlike_82 rfl rfl ?_
        refine r_V1 v_Row_get w_442 (isTree.rights h).1 (c_Row_get (isTree.rights h) _ _ ) (Nat.le_of_ble_eq_true rfl) (Nat.le_of_ble_eq_true rfl) d_Tree_areAlike_83 ?_
        refine r_V1 v_Tree_kindOf w_492 h.1 (c_Tree_kindOf h _ _ ) (Nat.le_of_ble_eq_true rfl) (Nat.le_of_ble_eq_true rfl) d_Tree_areAlike_86 ?_
        refine r_icmp_ne 96 d_Tree_areAlike_89 (by decide) (fun h_89 => ?_) (fun h_89 => ?_)
        · skip
          refine r_iconst 0 d_Tree_areAlike_96 ic_0 ?_
          refine r_zret rfl (by decide) d_Tree_areAlike_97 ?_
          exact ⟨by simp [bI, h_89], rfl⟩
        · skip
          refine r_iconst 1 d_Tree_areAlike_92 ic_1 ?_
          refine r_goto 97 d_Tree_areAlike_93 (by decide) ?_
          refine r_zret rfl (by decide) d_Tree_areAlike_97 ?_
          exact ⟨by simp [bI, h_16, h_35, h_62, h_89], rfl⟩

theorem upd_at (f : Nat → Int32) (k : Nat) (x : Int32) : upd f k x k = x := by simp [upd]
theorem upd_ne (f : Nat → Int32) {k j : Nat} (x : Int32) (h : j ≠ k) : upd f k x j = f j := by simp [upd, h]
def tadd (M : nw_M) (t n : Nat) (a b c d : Int32) : nw_M := ms (ms (ms (ms (ms M (t + 2) (upd (M (t + 2)) n a)) (t + 4) (upd (M (t + 4)) n b)) (t + 6) (upd (M (t + 6)) n c)) (t + 8) (upd (M (t + 8)) n d)) t (upd (M t) 9 (nI (n + 1)))
theorem c_Tree_add {t : Nat} (h : isTree t) (n : Nat) (hn : n < 31) (a b c d : Int32) (M : nw_M) (hs : M t 9 = nI n) : CF G LC m_Tree_add 1 [.ref (G.2.2 t), .int a, .int b, .int c, .int d] M none (tadd M t n a b c d) := by
  refine CJ_of (by decide) rfl (Nat.le_of_ble_eq_true rfl) ?_
  refine r_aload_n (i := 0) d_Tree_add_0 rfl rfl ?_
  refine r_getr nf_Tree_14 h.1 rfl d_Tree_add_1 ?_
  refine r_aload_n (i := 0) d_Tree_add_4 rfl rfl ?_
  refine r_geti nf_Tree_44 h.1 rfl d_Tree_add_5 ?_
  refine r_iload_n (i := 1) d_Tree_add_8 rfl rfl ?_
  refine r_V2 v_Row_put w_406 (isTree.letters h).1 (c_Row_put (isTree.letters h) _ _ _ ) (Nat.le_of_ble_eq_true rfl) (Nat.le_of_ble_eq_true rfl) d_Tree_add_9 ?_
  refine r_aload_n (i := 0) d_Tree_add_12 rfl rfl ?_
  refine r_getr nf_Tree_20 h.1 rfl d_Tree_add_13 ?_
  refine r_aload_n (i := 0) d_Tree_add_16 rfl rfl ?_
  refine r_geti nf_Tree_44 h.1 rfl d_Tree_add_17 ?_
  refine r_iload_n (i := 2) d_Tree_add_20 rfl rfl ?_
  refine r_V2 v_Row_put w_406 (isTree.numbers h).1 (c_Row_put (isTree.numbers h) _ _ _ ) (Nat.le_of_ble_eq_true rfl) (Nat.le_of_ble_eq_true rfl) d_Tree_add_21 ?_
  refine r_aload_n (i := 0) d_Tree_add_24 rfl rfl ?_
  refine r_getr nf_Tree_23 h.1 rfl d_Tree_add_25 ?_
  refine r_aload_n (i := 0) d_Tree_add_28 rfl rfl ?_
  refine r_geti nf_Tree_44 h.1 rfl d_Tree_add_29 ?_
  refine r_iload_n (i := 3) d_Tree_add_32 rfl rfl ?_
  refine r_V2 v_Row_put w_406 (isTree.lefts h).1 (c_Row_put (isTree.lefts h) _ _ _ ) (Nat.le_of_ble_eq_true rfl) (Nat.le_of_ble_eq_true rfl) d_Tree_add_33 ?_
  refine r_aload_n (i := 0) d_Tree_add_36 rfl rfl ?_
  refine r_getr nf_Tree_26 h.1 rfl d_Tree_add_37 ?_
  refine r_aload_n (i := 0) d_Tree_add_40 rfl rfl ?_
  refine r_geti nf_Tree_44 h.1 rfl d_Tree_add_41 ?_
  refine r_iload d_Tree_add_44 rfl ?_
  refine r_V2 v_Row_put w_406 (isTree.rights h).1 (c_Row_put (isTree.rights h) _ _ _ ) (Nat.le_of_ble_eq_true rfl) (Nat.le_of_ble_eq_true rfl) d_Tree_add_46 ?_
  refine r_aload_n (i := 0) d_Tree_add_49 rfl rfl ?_
  refine r_dup d_Tree_add_50 rfl ?_
  refine r_geti nf_Tree_44 h.1 rfl d_Tree_add_51 ?_
  refine r_iconst 1 d_Tree_add_54 ic_1 ?_
  refine r_iadd d_Tree_add_55 ?_
  refine r_puti nf_Tree_44 nfin_Tree_9 h.1 rfl d_Tree_add_56 ?_
  refine r_vret rfl d_Tree_add_59 ?_
  refine ⟨rfl, ?_⟩
  unfold tadd
  simp (disch := omega) only [ms_same, ms_ne, hs, rp_nI, nI_1]

theorem c_Tree_deriveLeaf {t : Nat} (h : isTree t) (k : Nat) (hk : k < 31) (M : nw_M) : CF G LC m_Tree_deriveLeaf 1 [.ref (G.2.2 t), .int (nI k)] M none (ms (ms (ms (ms M (t + 10) (upd (M (t + 10)) k 1)) (t + 12) (upd (M (t + 12)) k 1)) (t + 14) (upd (M (t + 14)) k 0)) (t + 16) (upd (M (t + 16)) k 1)) := by
  refine CJ_of (by decide) rfl (Nat.le_of_ble_eq_true rfl) ?_
  refine r_aload_n (i := 0) d_Tree_deriveLeaf_0 rfl rfl ?_
  refine r_getr nf_Tree_29 h.1 rfl d_Tree_deriveLeaf_1 ?_
  refine r_iload_n (i := 1) d_Tree_deriveLeaf_4 rfl rfl ?_
  refine r_iconst 1 d_Tree_deriveLeaf_5 ic_1 ?_
  refine r_V2 v_Row_put w_406 (isTree.needs h).1 (c_Row_put (isTree.needs h) _ _ _ ) (Nat.le_of_ble_eq_true rfl) (Nat.le_of_ble_eq_true rfl) d_Tree_deriveLeaf_6 ?_
  refine r_aload_n (i := 0) d_Tree_deriveLeaf_9 rfl rfl ?_
  refine r_getr nf_Tree_32 h.1 rfl d_Tree_deriveLeaf_10 ?_
  refine r_iload_n (i := 1) d_Tree_deriveLeaf_13 rfl rfl ?_
  refine r_iconst 1 d_Tree_deriveLeaf_14 ic_1 ?_
  refine r_V2 v_Row_put w_406 (isTree.leasts h).1 (c_Row_put (isTree.leasts h) _ _ _ ) (Nat.le_of_ble_eq_true rfl) (Nat.le_of_ble_eq_true rfl) d_Tree_deriveLeaf_15 ?_
  refine r_aload_n (i := 0) d_Tree_deriveLeaf_18 rfl rfl ?_
  refine r_getr nf_Tree_35 h.1 rfl d_Tree_deriveLeaf_19 ?_
  refine r_iload_n (i := 1) d_Tree_deriveLeaf_22 rfl rfl ?_
  refine r_iconst 0 d_Tree_deriveLeaf_23 ic_0 ?_
  refine r_V2 v_Row_put w_406 (isTree.traps h).1 (c_Row_put (isTree.traps h) _ _ _ ) (Nat.le_of_ble_eq_true rfl) (Nat.le_of_ble_eq_true rfl) d_Tree_deriveLeaf_24 ?_
  refine r_aload_n (i := 0) d_Tree_deriveLeaf_27 rfl rfl ?_
  refine r_getr nf_Tree_38 h.1 rfl d_Tree_deriveLeaf_28 ?_
  refine r_iload_n (i := 1) d_Tree_deriveLeaf_31 rfl rfl ?_
  refine r_iconst 1 d_Tree_deriveLeaf_32 ic_1 ?_
  refine r_V2 v_Row_put w_406 (isTree.spans h).1 (c_Row_put (isTree.spans h) _ _ _ ) (Nat.le_of_ble_eq_true rfl) (Nat.le_of_ble_eq_true rfl) d_Tree_deriveLeaf_33 ?_
  refine r_vret rfl d_Tree_deriveLeaf_36 ?_
  refine ⟨rfl, ?_⟩
  simp (disch := omega) only [ms_same, ms_ne, rp_nI]

theorem c_Tree_deriveSingle {t : Nat} (h : isTree t) (k l : Nat) (hk : k < 31) (hl : l < 31) (M : nw_M) (hM : M (t + 6) k = nI l) : CF G LC m_Tree_deriveSingle 1 [.ref (G.2.2 t), .int (nI k)] M none (ms (ms (ms (ms M (t + 10) (upd (M (t + 10)) k (M (t + 10) l))) (t + 12) (upd (M (t + 12)) k (M (t + 12) l))) (t + 14) (upd (M (t + 14)) k (M (t + 14) l))) (t + 16) (upd (M (t + 16)) k (M (t + 16) l + 1))) := by
  refine CJ_of (by decide) rfl (Nat.le_of_ble_eq_true rfl) ?_
  refine r_aload_n (i := 0) d_Tree_deriveSingle_0 rfl rfl ?_
  refine r_getr nf_Tree_23 h.1 rfl d_Tree_deriveSingle_1 ?_
  refine r_iload_n (i := 1) d_Tree_deriveSingle_4 rfl rfl ?_
  refine r_V1 v_Row_get w_442 (isTree.lefts h).1 (c_Row_get (isTree.lefts h) _ _ ) (Nat.le_of_ble_eq_true rfl) (Nat.le_of_ble_eq_true rfl) d_Tree_deriveSingle_5 ?_
  refine r_istore_n (i := 2) d_Tree_deriveSingle_8 rfl (Nat.le_of_ble_eq_true rfl) rfl ?_
  refine r_aload_n (i := 0) d_Tree_deriveSingle_9 rfl rfl ?_
  refine r_getr nf_Tree_29 h.1 rfl d_Tree_deriveSingle_10 ?_
  refine r_iload_n (i := 1) d_Tree_deriveSingle_13 rfl rfl ?_
  refine r_aload_n (i := 0) d_Tree_deriveSingle_14 rfl rfl ?_
  refine r_getr nf_Tree_29 h.1 rfl d_Tree_deriveSingle_15 ?_
  refine r_iload_n (i := 2) d_Tree_deriveSingle_18 rfl rfl ?_
  refine r_V1 v_Row_get w_442 (isTree.needs h).1 (c_Row_get (isTree.needs h) _ _ ) (Nat.le_of_ble_eq_true rfl) (Nat.le_of_ble_eq_true rfl) d_Tree_deriveSingle_19 ?_
  refine r_V2 v_Row_put w_406 (isTree.needs h).1 (c_Row_put (isTree.needs h) _ _ _ ) (Nat.le_of_ble_eq_true rfl) (Nat.le_of_ble_eq_true rfl) d_Tree_deriveSingle_22 ?_
  refine r_aload_n (i := 0) d_Tree_deriveSingle_25 rfl rfl ?_
  refine r_getr nf_Tree_32 h.1 rfl d_Tree_deriveSingle_26 ?_
  refine r_iload_n (i := 1) d_Tree_deriveSingle_29 rfl rfl ?_
  refine r_aload_n (i := 0) d_Tree_deriveSingle_30 rfl rfl ?_
  refine r_getr nf_Tree_32 h.1 rfl d_Tree_deriveSingle_31 ?_
  refine r_iload_n (i := 2) d_Tree_deriveSingle_34 rfl rfl ?_
  refine r_V1 v_Row_get w_442 (isTree.leasts h).1 (c_Row_get (isTree.leasts h) _ _ ) (Nat.le_of_ble_eq_true rfl) (Nat.le_of_ble_eq_true rfl) d_Tree_deriveSingle_35 ?_
  refine r_V2 v_Row_put w_406 (isTree.leasts h).1 (c_Row_put (isTree.leasts h) _ _ _ ) (Nat.le_of_ble_eq_true rfl) (Nat.le_of_ble_eq_true rfl) d_Tree_deriveSingle_38 ?_
  refine r_aload_n (i := 0) d_Tree_deriveSingle_41 rfl rfl ?_
  refine r_getr nf_Tree_35 h.1 rfl d_Tree_deriveSingle_42 ?_
  refine r_iload_n (i := 1) d_Tree_deriveSingle_45 rfl rfl ?_
  refine r_aload_n (i := 0) d_Tree_deriveSingle_46 rfl rfl ?_
  refine r_getr nf_Tree_35 h.1 rfl d_Tree_deriveSingle_47 ?_
  refine r_iload_n (i := 2) d_Tree_deriveSingle_50 rfl rfl ?_
  refine r_V1 v_Row_get w_442 (isTree.traps h).1 (c_Row_get (isTree.traps h) _ _ ) (Nat.le_of_ble_eq_true rfl) (Nat.le_of_ble_eq_true rfl) d_Tree_deriveSingle_51 ?_
  refine r_V2 v_Row_put w_406 (isTree.traps h).1 (c_Row_put (isTree.traps h) _ _ _ ) (Nat.le_of_ble_eq_true rfl) (Nat.le_of_ble_eq_true rfl) d_Tree_deriveSingle_54 ?_
  refine r_aload_n (i := 0) d_Tree_deriveSingle_57 rfl rfl ?_
  refine r_getr nf_Tree_38 h.1 rfl d_Tree_deriveSingle_58 ?_
  refine r_iload_n (i := 1) d_Tree_deriveSingle_61 rfl rfl ?_
  refine r_aload_n (i := 0) d_Tree_deriveSingle_62 rfl rfl ?_
  refine r_getr nf_Tree_38 h.1 rfl d_Tree_deriveSingle_63 ?_
  refine r_iload_n (i := 2) d_Tree_deriveSingle_66 rfl rfl ?_
  refine r_V1 v_Row_get w_442 (isTree.spans h).1 (c_Row_get (isTree.spans h) _ _ ) (Nat.le_of_ble_eq_true rfl) (Nat.le_of_ble_eq_true rfl) d_Tree_deriveSingle_67 ?_
  refine r_iconst 1 d_Tree_deriveSingle_70 ic_1 ?_
  refine r_iadd d_Tree_deriveSingle_71 ?_
  refine r_V2 v_Row_put w_406 (isTree.spans h).1 (c_Row_put (isTree.spans h) _ _ _ ) (Nat.le_of_ble_eq_true rfl) (Nat.le_of_ble_eq_true rfl) d_Tree_deriveSingle_72 ?_
  refine r_vret rfl d_Tree_deriveSingle_75 ?_
  refine ⟨rfl, ?_⟩
  simp (disch := omega) only [ms_same, ms_ne, rp_nI, rg_nI, hM]

end MTree
