-- the model: what it asks of letters and NODES
section MM1
variable {G : nw_G} {L : nw_L}
def o_op (x : Int32) : Bool := o_bin x || x == 126
theorem c_Model_in (v l m : Int32) (M : nw_M) : CF G L m_Model_in 0 [.int v, .int l, .int m] M (some (.int (bI (decide (¬ v < l ∧ ¬ m < v))))) M := by
  refine CJ_of (by decide) rfl (Nat.le_of_ble_eq_true rfl) ?_
  refine r_iload_n (i := 0) d_Model_in_0 rfl rfl ?_
  refine r_iload_n (i := 1) d_Model_in_1 rfl rfl ?_
  refine r_icmp_lt 14 d_Model_in_2 (by decide) (fun h_2 => ?_) (fun h_2 => ?_)
  · skip
    refine r_iconst 0 d_Model_in_14 ic_0 ?_
    refine r_zret rfl (by decide) d_Model_in_15 ?_
    exact ⟨by simp_all [bI], rfl⟩
  · skip
    refine r_iload_n (i := 0) d_Model_in_5 rfl rfl ?_
    refine r_iload_n (i := 2) d_Model_in_6 rfl rfl ?_
    refine r_icmp_gt 14 d_Model_in_7 (by decide) (fun h_7 => ?_) (fun h_7 => ?_)
    · skip
      refine r_iconst 0 d_Model_in_14 ic_0 ?_
      refine r_zret rfl (by decide) d_Model_in_15 ?_
      exact ⟨by simp_all [bI], rfl⟩
    · skip
      refine r_iconst 1 d_Model_in_10 ic_1 ?_
      refine r_goto 15 d_Model_in_11 (by decide) ?_
      refine r_zret rfl (by decide) d_Model_in_15 ?_
      exact ⟨by simp_all [bI], rfl⟩

theorem c_Model_has (v l : Int32) (M : nw_M) : CF G L m_Model_has 0 [.int v, .int l] M (some (.int (bI ((v >>> (l &&& 31)) &&& 1 == 1)))) M := by
  refine CJ_of (by decide) rfl (Nat.le_of_ble_eq_true rfl) ?_
  refine r_iload_n (i := 0) d_Model_has_0 rfl rfl ?_
  refine r_iload_n (i := 1) d_Model_has_1 rfl rfl ?_
  refine r_ishr d_Model_has_2 ?_
  refine r_iconst 1 d_Model_has_3 ic_1 ?_
  refine r_iand d_Model_has_4 ?_
  refine r_iconst 1 d_Model_has_5 ic_1 ?_
  refine r_icmp_ne 13 d_Model_has_6 (by decide) (fun h_6 => ?_) (fun h_6 => ?_)
  · skip
    refine r_iconst 0 d_Model_has_13 ic_0 ?_
    refine r_zret rfl (by decide) d_Model_has_14 ?_
    exact ⟨by simp_all [bI], rfl⟩
  · skip
    refine r_iconst 1 d_Model_has_9 ic_1 ?_
    refine r_goto 14 d_Model_has_10 (by decide) ?_
    refine r_zret rfl (by decide) d_Model_has_14 ?_
    exact ⟨by simp_all [bI], rfl⟩

theorem c_Model_isOperator (x : Int32) (M : nw_M) : CF G L m_Model_isOperator 0 [.int x] M (some (.int (bI (o_op x)))) M := by
  refine CJ_of (by decide) rfl (Nat.le_of_ble_eq_true rfl) ?_
  refine r_iload_n (i := 0) d_Model_isOperator_0 rfl rfl ?_
  refine r_bipush 43 d_Model_isOperator_1 bp_43 ?_
  refine r_icmp_eq 36 d_Model_isOperator_3 (by decide) (fun h_3 => ?_) (fun h_3 => ?_)
  · skip
    refine r_iconst 1 d_Model_isOperator_36 ic_1 ?_
    refine r_goto 41 d_Model_isOperator_37 (by decide) ?_
    refine r_zret rfl (by decide) d_Model_isOperator_41 ?_
    exact ⟨by simp_all [bI, o_op, o_bin, o_sum, o_prod, o_comm], rfl⟩
  · skip
    refine r_iload_n (i := 0) d_Model_isOperator_6 rfl rfl ?_
    refine r_bipush 45 d_Model_isOperator_7 bp_45 ?_
    refine r_icmp_eq 36 d_Model_isOperator_9 (by decide) (fun h_9 => ?_) (fun h_9 => ?_)
    · skip
      refine r_iconst 1 d_Model_isOperator_36 ic_1 ?_
      refine r_goto 41 d_Model_isOperator_37 (by decide) ?_
      refine r_zret rfl (by decide) d_Model_isOperator_41 ?_
      exact ⟨by simp_all [bI, o_op, o_bin, o_sum, o_prod, o_comm], rfl⟩
    · skip
      refine r_iload_n (i := 0) d_Model_isOperator_12 rfl rfl ?_
      refine r_bipush 35 d_Model_isOperator_13 bp_35 ?_
      refine r_icmp_eq 36 d_Model_isOperator_15 (by decide) (fun h_15 => ?_) (fun h_15 => ?_)
      · skip
        refine r_iconst 1 d_Model_isOperator_36 ic_1 ?_
        refine r_goto 41 d_Model_isOperator_37 (by decide) ?_
        refine r_zret rfl (by decide) d_Model_isOperator_41 ?_
        exact ⟨by simp_all [bI, o_op, o_bin, o_sum, o_prod, o_comm], rfl⟩
      · skip
        refine r_iload_n (i := 0) d_Model_isOperator_18 rfl rfl ?_
        refine r_bipush 42 d_Model_isOperator_19 bp_42 ?_
        refine r_icmp_eq 36 d_Model_isOperator_21 (by decide) (fun h_21 => ?_) (fun h_21 => ?_)
        · skip
          refine r_iconst 1 d_Model_isOperator_36 ic_1 ?_
          refine r_goto 41 d_Model_isOperator_37 (by decide) ?_
          refine r_zret rfl (by decide) d_Model_isOperator_41 ?_
          exact ⟨by simp_all [bI, o_op, o_bin, o_sum, o_prod, o_comm], rfl⟩
        · skip
          refine r_iload_n (i := 0) d_Model_isOperator_24 rfl rfl ?_
          refine r_bipush 47 d_Model_isOperator_25 bp_47 ?_
          refine r_icmp_eq 36 d_Model_isOperator_27 (by decide) (fun h_27 => ?_) (fun h_27 => ?_)
          · skip
            refine r_iconst 1 d_Model_isOperator_36 ic_1 ?_
            refine r_goto 41 d_Model_isOperator_37 (by decide) ?_
            refine r_zret rfl (by decide) d_Model_isOperator_41 ?_
            exact ⟨by simp_all [bI, o_op, o_bin, o_sum, o_prod, o_comm], rfl⟩
          · skip
            refine r_iload_n (i := 0) d_Model_isOperator_30 rfl rfl ?_
            refine r_bipush 126 d_Model_isOperator_31 bp_126 ?_
            refine r_icmp_ne 40 d_Model_isOperator_33 (by decide) (fun h_33 => ?_) (fun h_33 => ?_)
            · skip
              refine r_iconst 0 d_Model_isOperator_40 ic_0 ?_
              refine r_zret rfl (by decide) d_Model_isOperator_41 ?_
              exact ⟨by simp_all [bI, o_op, o_bin, o_sum, o_prod, o_comm], rfl⟩
            · skip
              refine r_iconst 1 d_Model_isOperator_36 ic_1 ?_
              refine r_goto 41 d_Model_isOperator_37 (by decide) ?_
              refine r_zret rfl (by decide) d_Model_isOperator_41 ?_
              exact ⟨by simp_all [bI, o_op, o_bin, o_sum, o_prod, o_comm], rfl⟩

theorem c_Model_commutes (x : Int32) (M : nw_M) : CF G L m_Model_commutes 0 [.int x] M (some (.int (bI (o_comm x)))) M := by
  refine CJ_of (by decide) rfl (Nat.le_of_ble_eq_true rfl) ?_
  refine r_iload_n (i := 0) d_Model_commutes_0 rfl rfl ?_
  refine r_bipush 43 d_Model_commutes_1 bp_43 ?_
  refine r_icmp_eq 18 d_Model_commutes_3 (by decide) (fun h_3 => ?_) (fun h_3 => ?_)
  · skip
    refine r_iconst 1 d_Model_commutes_18 ic_1 ?_
    refine r_goto 23 d_Model_commutes_19 (by decide) ?_
    refine r_zret rfl (by decide) d_Model_commutes_23 ?_
    exact ⟨by simp_all [bI, o_op, o_bin, o_sum, o_prod, o_comm], rfl⟩
  · skip
    refine r_iload_n (i := 0) d_Model_commutes_6 rfl rfl ?_
    refine r_bipush 42 d_Model_commutes_7 bp_42 ?_
    refine r_icmp_eq 18 d_Model_commutes_9 (by decide) (fun h_9 => ?_) (fun h_9 => ?_)
    · skip
      refine r_iconst 1 d_Model_commutes_18 ic_1 ?_
      refine r_goto 23 d_Model_commutes_19 (by decide) ?_
      refine r_zret rfl (by decide) d_Model_commutes_23 ?_
      exact ⟨by simp_all [bI, o_op, o_bin, o_sum, o_prod, o_comm], rfl⟩
    · skip
      refine r_iload_n (i := 0) d_Model_commutes_12 rfl rfl ?_
      refine r_bipush 35 d_Model_commutes_13 bp_35 ?_
      refine r_icmp_ne 22 d_Model_commutes_15 (by decide) (fun h_15 => ?_) (fun h_15 => ?_)
      · skip
        refine r_iconst 0 d_Model_commutes_22 ic_0 ?_
        refine r_zret rfl (by decide) d_Model_commutes_23 ?_
        exact ⟨by simp_all [bI, o_op, o_bin, o_sum, o_prod, o_comm], rfl⟩
      · skip
        refine r_iconst 1 d_Model_commutes_18 ic_1 ?_
        refine r_goto 23 d_Model_commutes_19 (by decide) ?_
        refine r_zret rfl (by decide) d_Model_commutes_23 ?_
        exact ⟨by simp_all [bI, o_op, o_bin, o_sum, o_prod, o_comm], rfl⟩

theorem c_Model_isProduct (x : Int32) (M : nw_M) : CF G L m_Model_isProduct 0 [.int x] M (some (.int (bI (o_prod x)))) M := by
  refine CJ_of (by decide) rfl (Nat.le_of_ble_eq_true rfl) ?_
  refine r_iload_n (i := 0) d_Model_isProduct_0 rfl rfl ?_
  refine r_bipush 42 d_Model_isProduct_1 bp_42 ?_
  refine r_icmp_eq 12 d_Model_isProduct_3 (by decide) (fun h_3 => ?_) (fun h_3 => ?_)
  · skip
    refine r_iconst 1 d_Model_isProduct_12 ic_1 ?_
    refine r_goto 17 d_Model_isProduct_13 (by decide) ?_
    refine r_zret rfl (by decide) d_Model_isProduct_17 ?_
    exact ⟨by simp_all [bI, o_op, o_bin, o_sum, o_prod, o_comm], rfl⟩
  · skip
    refine r_iload_n (i := 0) d_Model_isProduct_6 rfl rfl ?_
    refine r_bipush 47 d_Model_isProduct_7 bp_47 ?_
    refine r_icmp_ne 16 d_Model_isProduct_9 (by decide) (fun h_9 => ?_) (fun h_9 => ?_)
    · skip
      refine r_iconst 0 d_Model_isProduct_16 ic_0 ?_
      refine r_zret rfl (by decide) d_Model_isProduct_17 ?_
      exact ⟨by simp_all [bI, o_op, o_bin, o_sum, o_prod, o_comm], rfl⟩
    · skip
      refine r_iconst 1 d_Model_isProduct_12 ic_1 ?_
      refine r_goto 17 d_Model_isProduct_13 (by decide) ?_
      refine r_zret rfl (by decide) d_Model_isProduct_17 ?_
      exact ⟨by simp_all [bI, o_op, o_bin, o_sum, o_prod, o_comm], rfl⟩

theorem c_Model_isSum (x : Int32) (M : nw_M) : CF G L m_Model_isSum 0 [.int x] M (some (.int (bI (o_sum x)))) M := by
  refine CJ_of (by decide) rfl (Nat.le_of_ble_eq_true rfl) ?_
  refine r_iload_n (i := 0) d_Model_isSum_0 rfl rfl ?_
  refine r_bipush 43 d_Model_isSum_1 bp_43 ?_
  refine r_icmp_eq 18 d_Model_isSum_3 (by decide) (fun h_3 => ?_) (fun h_3 => ?_)
  · skip
    refine r_iconst 1 d_Model_isSum_18 ic_1 ?_
    refine r_goto 23 d_Model_isSum_19 (by decide) ?_
    refine r_zret rfl (by decide) d_Model_isSum_23 ?_
    exact ⟨by simp_all [bI, o_op, o_bin, o_sum, o_prod, o_comm], rfl⟩
  · skip
    refine r_iload_n (i := 0) d_Model_isSum_6 rfl rfl ?_
    refine r_bipush 45 d_Model_isSum_7 bp_45 ?_
    refine r_icmp_eq 18 d_Model_isSum_9 (by decide) (fun h_9 => ?_) (fun h_9 => ?_)
    · skip
      refine r_iconst 1 d_Model_isSum_18 ic_1 ?_
      refine r_goto 23 d_Model_isSum_19 (by decide) ?_
      refine r_zret rfl (by decide) d_Model_isSum_23 ?_
      exact ⟨by simp_all [bI, o_op, o_bin, o_sum, o_prod, o_comm], rfl⟩
    · skip
      refine r_iload_n (i := 0) d_Model_isSum_12 rfl rfl ?_
      refine r_bipush 35 d_Model_isSum_13 bp_35 ?_
      refine r_icmp_ne 22 d_Model_isSum_15 (by decide) (fun h_15 => ?_) (fun h_15 => ?_)
      · skip
        refine r_iconst 0 d_Model_isSum_22 ic_0 ?_
        refine r_zret rfl (by decide) d_Model_isSum_23 ?_
        exact ⟨by simp_all [bI, o_op, o_bin, o_sum, o_prod, o_comm], rfl⟩
      · skip
        refine r_iconst 1 d_Model_isSum_18 ic_1 ?_
        refine r_goto 23 d_Model_isSum_19 (by decide) ?_
        refine r_zret rfl (by decide) d_Model_isSum_23 ?_
        exact ⟨by simp_all [bI, o_op, o_bin, o_sum, o_prod, o_comm], rfl⟩

theorem c_Model_needs (a b : Int32) (M : nw_M) : CF G L m_Model_needs 0 [.int a, .int b] M (some (.int (jI a b))) M := by
  refine CJ_of (by decide) rfl (Nat.le_of_ble_eq_true rfl) ?_
  refine r_iload_n (i := 0) d_Model_needs_0 rfl rfl ?_
  refine r_iload_n (i := 1) d_Model_needs_1 rfl rfl ?_
  refine r_icmp_ne 11 d_Model_needs_2 (by decide) (fun h_2 => ?_) (fun h_2 => ?_)
  · skip
    refine r_iload_n (i := 0) d_Model_needs_11 rfl rfl ?_
    refine r_iload_n (i := 1) d_Model_needs_12 rfl rfl ?_
    refine r_icmp_le 20 d_Model_needs_13 (by decide) (fun h_13 => ?_) (fun h_13 => ?_)
    · skip
      refine r_iload_n (i := 1) d_Model_needs_20 rfl rfl ?_
      refine r_iret rfl d_Model_needs_21 ?_
      refine ⟨?_, rfl⟩
      unfold jI
      first
        | (rw [if_pos h_2])
        | (rw [if_neg h_2]; by_cases q : a < b
           · exact absurd (Int32.le_of_lt q) h_13
           · rw [if_neg q])
        | (rw [if_neg h_2]; by_cases q : a < b
           · rw [if_pos q]
           · exact absurd (Int32.le_antisymm h_13 (Int32.not_lt.mp q)) h_2)
    · skip
      refine r_iload_n (i := 0) d_Model_needs_16 rfl rfl ?_
      refine r_goto 21 d_Model_needs_17 (by decide) ?_
      refine r_iret rfl d_Model_needs_21 ?_
      refine ⟨?_, rfl⟩
      unfold jI
      first
        | (rw [if_pos h_2])
        | (rw [if_neg h_2]; by_cases q : a < b
           · exact absurd (Int32.le_of_lt q) h_13
           · rw [if_neg q])
        | (rw [if_neg h_2]; by_cases q : a < b
           · rw [if_pos q]
           · exact absurd (Int32.le_antisymm h_13 (Int32.not_lt.mp q)) h_2)
  · skip
    refine r_iload_n (i := 0) d_Model_needs_5 rfl rfl ?_
    refine r_iconst 1 d_Model_needs_6 ic_1 ?_
    refine r_iadd d_Model_needs_7 ?_
    refine r_goto 21 d_Model_needs_8 (by decide) ?_
    refine r_iret rfl d_Model_needs_21 ?_
    refine ⟨?_, rfl⟩
    unfold jI
    first
      | (rw [if_pos h_2])
      | (rw [if_neg h_2]; by_cases q : a < b
         · exact absurd (Int32.le_of_lt q) h_13
         · rw [if_neg q])
      | (rw [if_neg h_2]; by_cases q : a < b
         · rw [if_pos q]
         · exact absurd (Int32.le_antisymm h_13 (Int32.not_lt.mp q)) h_2)

end MM1
section MM2
variable {G : nw_G} {n : Nat} {le nu lf rt nm : Nat → Int32} {mc z : Nat → Nat} {M : nw_M}
theorem o_op_lf (hw : WF n le nu lf rt z) {k : Nat} (hk : k < n) : o_op (le k) = decide (lf k ≠ -9) := by
  rcases hw.2 k hk with ⟨h1, -, -, h4⟩ | ⟨h1, -, -, h4, -⟩ | ⟨h1, -, -, h4, -, h6, -⟩
  · rw [h1]
    rcases h4 with ⟨h4, -⟩ | ⟨c, hc, h4, -⟩
    · rw [h4]; rfl
    · rw [h4]
      have : ∀ c, c < 8 → o_op (nI (97 + c)) = false := by decide
      rw [this c hc]; rfl
  · rw [h1, h4]
    have := nI_ne9 (k := k - 1) (by have := hw.1; omega)
    simp [o_op, this]
  · rw [h6]
    have := nI_ne9 (k := k - 1 - z (k - 1)) (by have := hw.1; omega)
    simp [o_op, this, h1]
theorem isN_m1 {k : Int32} (hn : n ≤ 31) : decide (¬ k < 0 ∧ ¬ nI n - 1 < k) = isN n k := by
  unfold isN
  congr 1
  have e : (nI n - 1).toInt = (n : Int) - 1 := by
    rw [show (1 : Int32) = nI 1 from rfl, pk_sub_toInt (by omega) (by omega)]; rfl
  have e2 := nI_toInt (n := n) (by omega)
  simp only [Int32.lt_iff_toInt_lt, Int32.le_iff_toInt_le, e, e2]
  apply propext
  constructor
  · rintro ⟨a, b⟩; exact ⟨a, by omega⟩
  · rintro ⟨a, b⟩; exact ⟨a, by omega⟩
theorem c_Model_isNode (hS : MS n le nu lf rt nm mc (M 3)) (hn : n ≤ 31) (k : Int32) : CF G LM m_Model_isNode 1 [.ref (G.2.2 0), .int k] M (some (.int (bI (isN n k)))) M := by
  refine CJ_of (by decide) rfl (Nat.le_of_ble_eq_true rfl) ?_
  refine r_iload_n (i := 1) d_Model_isNode_0 rfl rfl ?_
  refine r_iconst 0 d_Model_isNode_1 ic_0 ?_
  refine r_aload_n (i := 0) d_Model_isNode_2 rfl rfl ?_
  refine r_getr nf_Model_16 lm_0 rfl d_Model_isNode_3 ?_
  refine r_iconst 0 d_Model_isNode_6 ic_0 ?_
  refine r_ia (q := 0) lm_3 rfl (by omega) (by decide) (hS.1) d_Model_isNode_7 ?_
  refine r_iconst 1 d_Model_isNode_8 ic_1 ?_
  refine r_isub d_Model_isNode_9 ?_
  refine r_S3 f_Model_in w_942 (c_Model_in _ _ _ _ ) (Nat.le_of_ble_eq_true rfl) (Nat.le_of_ble_eq_true rfl) d_Model_isNode_10 ?_
  refine r_zret rfl (bI_01 _) d_Model_isNode_13 ?_
  exact ⟨by rw [isN_m1 hn], rfl⟩

theorem c_Model_isLeaf (hS : MS n le nu lf rt nm mc (M 3)) (hw : WF n le nu lf rt z) {k : Nat} (hk : k < n) : CF G LM m_Model_isLeaf 1 [.ref (G.2.2 0), .int (nI k)] M (some (.int (bI (decide (lf k = -9))))) M := by
  have hn := hw.1
  refine CJ_of (by decide) rfl (Nat.le_of_ble_eq_true rfl) ?_
  refine r_aload_n (i := 0) d_Model_isLeaf_0 rfl rfl ?_
  refine r_getr nf_Model_16 lm_0 rfl d_Model_isLeaf_1 ?_
  refine r_iconst 1 d_Model_isLeaf_4 ic_1 ?_
  refine r_iload_n (i := 1) d_Model_isLeaf_5 rfl rfl ?_
  refine r_iaddN (a := 1) (b := k) d_Model_isLeaf_6 rfl rfl ?_
  refine r_ia (q := (1 + k)) lm_3 rfl (by omega) (by decide) ((hS.gle (j := k) (by omega))) d_Model_isLeaf_7 ?_
  refine r_S1 f_Model_isOperator w_1023 (c_Model_isOperator _ _ ) (Nat.le_of_ble_eq_true rfl) (Nat.le_of_ble_eq_true rfl) d_Model_isLeaf_8 ?_
  refine r_if_ne 18 d_Model_isLeaf_11 (by decide) (fun h_11 => ?_) (fun h_11 => ?_)
  · skip
    refine r_iconst 0 d_Model_isLeaf_18 ic_0 ?_
    refine r_zret rfl (by decide) d_Model_isLeaf_19 ?_
    rw [o_op_lf hw hk] at h_11
    exact ⟨by simp_all [bI], rfl⟩
  · skip
    refine r_iconst 1 d_Model_isLeaf_14 ic_1 ?_
    refine r_goto 19 d_Model_isLeaf_15 (by decide) ?_
    refine r_zret rfl (by decide) d_Model_isLeaf_19 ?_
    rw [o_op_lf hw hk] at h_11
    exact ⟨by simp_all [bI], rfl⟩

theorem down_left (hw : WF n le nu lf rt z) {k q : Nat} (hk : k < n) (hq : q ≤ k) (he : k + 1 - z k = q + 1 - z q) (hl : lf q ≠ -9) : ∃ c, c < q ∧ lf q = nI c ∧ k + 1 - z k = c + 1 - z c := by
  by_cases hr : rt q = -9
  · have s := hw.single (by omega) hl hr
    have zb := hw.zb (q - 1) (by omega)
    exact ⟨q - 1, by omega, s.2.2.2.1, by omega⟩
  · have s := hw.pair (k := q) (by omega) hr
    have zb := hw.zb (q - 1) (by omega)
    have zc := hw.zb (q - 1 - z (q - 1)) (by omega)
    exact ⟨q - 1 - z (q - 1), by omega, s.2.2.2.2.2.1, by omega⟩
theorem l_Model_sizeOf (hS : MS n le nu lf rt nm mc (M 3)) (hw : WF n le nu lf rt z) {k : Nat} (hk : k < n) : ∀ (q : Nat), q ≤ k → k + 1 - z k = q + 1 - z q → RJ G LM m_Model_sizeOf 0 (fun v N => v = some (.int (nI (z k))) ∧ N = M) 2 [some (.ref (G.2.2 0)), some (.int (nI k)), some (.int (nI q))] [] M := by
  have hn := hw.1
  intro q
  induction q using Nat.strongRecOn with
  | _ q ih =>
    intro hq he
    refine r_aload_n (i := 0) d_Model_sizeOf_2 rfl rfl ?_
    refine r_getr nf_Model_16 lm_0 rfl d_Model_sizeOf_3 ?_
    refine r_bipush 63 d_Model_sizeOf_6 bp_63 ?_
    refine r_iload_n (i := 2) d_Model_sizeOf_8 rfl rfl ?_
    refine r_iaddN (a := 63) (b := q) d_Model_sizeOf_9 rfl rfl ?_
    refine r_ia (q := (63 + q)) lm_3 rfl (by omega) (by decide) ((hS.glf (j := q) (by omega))) d_Model_sizeOf_10 ?_
    refine r_bipush (-9) d_Model_sizeOf_11 bp_m9 ?_
    refine r_icmp_eq 29 d_Model_sizeOf_13 (by decide) (fun h_13 => ?_) (fun h_13 => ?_)
    · skip
      have z1 := hw.leaf_rt (k := q) (by omega) h_13
      have zb := hw.zb k hk
      refine r_iload_n (i := 1) d_Model_sizeOf_29 rfl rfl ?_
      refine r_iload_n (i := 2) d_Model_sizeOf_30 rfl rfl ?_
      refine r_isub d_Model_sizeOf_31 ?_
      refine r_iconst 1 d_Model_sizeOf_32 ic_1 ?_
      refine r_iadd d_Model_sizeOf_33 ?_
      refine r_iret rfl d_Model_sizeOf_34 ?_
      refine ⟨?_, rfl⟩
      rw [nI_sub1 (by omega), show k + 1 - q = z k by omega]
    · skip
      obtain ⟨c, hc1, hc2, hc3⟩ := down_left hw hk hq he h_13
      refine r_aload_n (i := 0) d_Model_sizeOf_16 rfl rfl ?_
      refine r_getr nf_Model_16 lm_0 rfl d_Model_sizeOf_17 ?_
      refine r_bipush 63 d_Model_sizeOf_20 bp_63 ?_
      refine r_iload_n (i := 2) d_Model_sizeOf_22 rfl rfl ?_
      refine r_iaddN (a := 63) (b := q) d_Model_sizeOf_23 rfl rfl ?_
      refine r_ia (q := (63 + q)) lm_3 rfl (by omega) (by decide) ((hS.glf (j := q) (by omega)).trans hc2) d_Model_sizeOf_24 ?_
      refine r_istore_n (i := 2) d_Model_sizeOf_25 rfl (Nat.le_of_ble_eq_true rfl) rfl ?_
      dsimp only [List.set]
      refine r_goto 2 d_Model_sizeOf_26 (by decide) ?_
      exact ih c hc1 (by omega) hc3

theorem c_Model_sizeOf (hS : MS n le nu lf rt nm mc (M 3)) (hw : WF n le nu lf rt z) {k : Nat} (hk : k < n) : CF G LM m_Model_sizeOf 0 [.ref (G.2.2 0), .int (nI k)] M (some (.int (nI (z k)))) M := by
  refine CJ_of2 (n0 := 1) (by decide) rfl rfl ?_
  simp only [List.map_cons, List.map_nil, List.cons_append, List.nil_append, List.reduceReplicate]
  refine r_iload_n (i := 1) d_Model_sizeOf_0 rfl rfl ?_
  refine r_istore_n (i := 2) d_Model_sizeOf_1 rfl (Nat.le_of_ble_eq_true rfl) rfl ?_
  dsimp only [List.set]
  exact l_Model_sizeOf hS hw hk k (Nat.le_refl _) rfl

/-- whether one of the letters of a tree can trap -/
def anyT (le : Nat → Int32) (f0 : Nat) : Nat → Bool
  | 0 => false
  | m + 1 => anyT le f0 m || o_trap (le (f0 + m))
theorem anyT_add (le : Nat → Int32) (f0 a : Nat) : ∀ b, anyT le f0 (a + b) = (anyT le f0 a || anyT le (f0 + a) b)
  | 0 => by simp [anyT]
  | b + 1 => by rw [show a + (b + 1) = a + b + 1 by omega, anyT, anyT_add le f0 a b, anyT, Bool.or_assoc, show f0 + (a + b) = f0 + a + b by omega]
theorem anyT_tp {tp : Nat → Bool} (hw : WF n le nu lf rt z) (ht : ∀ k, k < n → TPk le lf rt z tp k) : ∀ k, k < n → anyT le (k + 1 - z k) (z k) = tp k := by
  intro k
  induction k using Nat.strongRecOn with
  | _ k ih =>
    intro hk
    have t := ht k hk
    unfold TPk at t
    have zb := hw.zb k hk
    by_cases hl : lf k = -9
    · have s := hw.leaf_rt hk hl
      rw [t, if_pos hl, s.2.1]
      show (false || o_trap (le (k + 1 - 1 + 0))) = false
      rw [show k + 1 - 1 + 0 = k by omega]
      rcases s.2.2 with ⟨h4, -⟩ | ⟨c, hc, h4, -⟩
      · rw [h4]; rfl
      · rw [h4]
        have : ∀ c, c < 8 → o_trap (nI (97 + c)) = false := by decide
        rw [this c hc]; rfl
    · rw [if_neg hl] at t
      by_cases hr : rt k = -9
      · have s := hw.single hk hl hr
        have zc := hw.zb (k - 1) (by omega)
        rw [if_pos hr] at t
        rw [t, s.2.2.2.2, anyT, show k + 1 - (z (k - 1) + 1) = k - 1 + 1 - z (k - 1) by omega, ih (k - 1) (by omega) (by omega), show k - 1 + 1 - z (k - 1) + z (k - 1) = k by omega, s.1]
        cases tp (k - 1) <;> rfl
      · have s := hw.pair hk hr
        have zc := hw.zb (k - 1) (by omega)
        have zd := hw.zb (k - 1 - z (k - 1)) (by omega)
        rw [if_neg hr] at t
        have e := s.2.2.2.2.2.2
        rw [t, e, anyT, show k + 1 - (z (k - 1) + z (k - 1 - z (k - 1)) + 1) + (z (k - 1) + z (k - 1 - z (k - 1))) = k by omega, Nat.add_comm (z (k - 1)), anyT_add]
        have a := ih (k - 1) (by omega) (by omega)
        have b := ih (k - 1 - z (k - 1)) (by omega) (by omega)
        rw [show k + 1 - (z (k - 1 - z (k - 1)) + z (k - 1) + 1) = k - 1 - z (k - 1) + 1 - z (k - 1 - z (k - 1)) by omega, b, show k - 1 - z (k - 1) + 1 - z (k - 1 - z (k - 1)) + z (k - 1 - z (k - 1)) = k - 1 + 1 - z (k - 1) by omega, a]
        cases tp (k - 1) <;> cases tp (k - 1 - z (k - 1)) <;> cases o_trap (le k) <;> rfl
theorem l_Model_mayTrap (hS : MS n le nu lf rt nm mc (M 3)) (hw : WF n le nu lf rt z) {k f0 : Nat} (hk : k < n) (ef : f0 + z k = k + 1) : ∀ (d m : Nat), m + d = z k → RJ G LM m_Model_mayTrap 1 (fun v N => v = some (.int (bI (anyT le f0 (z k)))) ∧ N = M) 12 [some (.ref (G.2.2 0)), some (.int (nI k)), some (.int (bI (anyT le f0 m))), some (.int (nI (f0 + m)))] [] M := by
  have hn := hw.1
  intro d
  induction d with
  | zero =>
    intro m hm
    simp only [Nat.add_zero] at hm
    subst hm
    refine r_iload_n (i := 3) d_Model_mayTrap_12 rfl rfl ?_
    refine r_iload_n (i := 1) d_Model_mayTrap_13 rfl rfl ?_
    refine r_icmp_gt 59 d_Model_mayTrap_14 (by decide) (fun _ => ?_) (fun h9 => absurd (nI_lt (by omega) (by omega)) h9)
    refine r_iload_n (i := 2) d_Model_mayTrap_59 rfl rfl ?_
    exact r_zret rfl (bI_01 _) d_Model_mayTrap_60 ⟨rfl, rfl⟩
  | succ d ih =>
    intro m hm
    refine r_iload_n (i := 3) d_Model_mayTrap_12 rfl rfl ?_
    refine r_iload_n (i := 1) d_Model_mayTrap_13 rfl rfl ?_
    refine r_icmp_gt 59 d_Model_mayTrap_14 (by decide) (fun h_14 => ?_) (fun h_14 => ?_)
    · skip
      exact absurd (show nI (f0 + m) ≤ nI k from nI_le (by omega) (by omega)) (Int32.not_le.mpr h_14)
    · skip
      refine r_iload_n (i := 2) d_Model_mayTrap_17 rfl rfl ?_
      refine r_if_ne 47 d_Model_mayTrap_18 (by decide) (fun h_18 => ?_) (fun h_18 => ?_)
      · skip
        refine r_iconst 1 d_Model_mayTrap_47 ic_1 ?_
        refine r_goto 52 d_Model_mayTrap_48 (by decide) ?_
        refine r_istore_n (i := 2) d_Model_mayTrap_52 rfl (Nat.le_of_ble_eq_true rfl) rfl ?_
        dsimp only [List.set]
        refine r_iinc d_Model_mayTrap_53 rfl (nI_inc _) (Nat.le_of_ble_eq_true rfl) rfl ?_
        dsimp only [List.set]
        refine r_goto 12 d_Model_mayTrap_56 (by decide) ?_
        have := ih (m + 1) (by omega)
        rw [show anyT le f0 (m + 1) = true by rw [anyT, (bI_t _).mp h_18]; rfl] at this
        exact this
      · skip
        refine r_aload_n (i := 0) d_Model_mayTrap_21 rfl rfl ?_
        refine r_getr nf_Model_16 lm_0 rfl d_Model_mayTrap_22 ?_
        refine r_iconst 1 d_Model_mayTrap_25 ic_1 ?_
        refine r_iload_n (i := 3) d_Model_mayTrap_26 rfl rfl ?_
        refine r_iaddN (a := 1) (b := (f0 + m)) d_Model_mayTrap_27 rfl rfl ?_
        refine r_ia (q := (1 + (f0 + m))) lm_3 rfl (by omega) (by decide) ((hS.gle (j := (f0 + m)) (by omega))) d_Model_mayTrap_28 ?_
        refine r_bipush 47 d_Model_mayTrap_29 bp_47 ?_
        refine r_icmp_eq 47 d_Model_mayTrap_31 (by decide) (fun h_31 => ?_) (fun h_31 => ?_)
        · skip
          refine r_iconst 1 d_Model_mayTrap_47 ic_1 ?_
          refine r_goto 52 d_Model_mayTrap_48 (by decide) ?_
          refine r_istore_n (i := 2) d_Model_mayTrap_52 rfl (Nat.le_of_ble_eq_true rfl) rfl ?_
          dsimp only [List.set]
          refine r_iinc d_Model_mayTrap_53 rfl (nI_inc _) (Nat.le_of_ble_eq_true rfl) rfl ?_
          dsimp only [List.set]
          refine r_goto 12 d_Model_mayTrap_56 (by decide) ?_
          have := ih (m + 1) (by omega)
          rw [show anyT le f0 (m + 1) = true by rw [anyT, o_trap, h_31]; cases anyT le f0 m <;> rfl] at this
          exact this
        · skip
          refine r_aload_n (i := 0) d_Model_mayTrap_34 rfl rfl ?_
          refine r_getr nf_Model_16 lm_0 rfl d_Model_mayTrap_35 ?_
          refine r_iconst 1 d_Model_mayTrap_38 ic_1 ?_
          refine r_iload_n (i := 3) d_Model_mayTrap_39 rfl rfl ?_
          refine r_iaddN (a := 1) (b := (f0 + m)) d_Model_mayTrap_40 rfl rfl ?_
          refine r_ia (q := (1 + (f0 + m))) lm_3 rfl (by omega) (by decide) ((hS.gle (j := (f0 + m)) (by omega))) d_Model_mayTrap_41 ?_
          refine r_bipush 35 d_Model_mayTrap_42 bp_35 ?_
          refine r_icmp_ne 51 d_Model_mayTrap_44 (by decide) (fun h_44 => ?_) (fun h_44 => ?_)
          · skip
            refine r_iconst 0 d_Model_mayTrap_51 ic_0 ?_
            refine r_istore_n (i := 2) d_Model_mayTrap_52 rfl (Nat.le_of_ble_eq_true rfl) rfl ?_
            dsimp only [List.set]
            refine r_iinc d_Model_mayTrap_53 rfl (nI_inc _) (Nat.le_of_ble_eq_true rfl) rfl ?_
            dsimp only [List.set]
            refine r_goto 12 d_Model_mayTrap_56 (by decide) ?_
            have := ih (m + 1) (by omega)
            rw [show anyT le f0 (m + 1) = false by rw [anyT, (bI_f _).mp h_18, o_trap]; simp [h_31, h_44]] at this
            exact this
          · skip
            refine r_iconst 1 d_Model_mayTrap_47 ic_1 ?_
            refine r_goto 52 d_Model_mayTrap_48 (by decide) ?_
            refine r_istore_n (i := 2) d_Model_mayTrap_52 rfl (Nat.le_of_ble_eq_true rfl) rfl ?_
            dsimp only [List.set]
            refine r_iinc d_Model_mayTrap_53 rfl (nI_inc _) (Nat.le_of_ble_eq_true rfl) rfl ?_
            dsimp only [List.set]
            refine r_goto 12 d_Model_mayTrap_56 (by decide) ?_
            have := ih (m + 1) (by omega)
            rw [show anyT le f0 (m + 1) = true by rw [anyT, o_trap, h_44]; cases anyT le f0 m <;> rfl] at this
            exact this

theorem c_Model_mayTrap (hS : MS n le nu lf rt nm mc (M 3)) {tp : Nat → Bool} (hw : WF n le nu lf rt z) (ht : ∀ k, k < n → TPk le lf rt z tp k) {k : Nat} (hk : k < n) : CF G LM m_Model_mayTrap 1 [.ref (G.2.2 0), .int (nI k)] M (some (.int (bI (tp k)))) M := by
  refine CJ_of2 (n0 := 2) (by decide) rfl rfl ?_
  simp only [List.map_cons, List.map_nil, List.cons_append, List.nil_append, List.reduceReplicate]
  refine r_iconst 0 d_Model_mayTrap_0 ic_0 ?_
  refine r_istore_n (i := 2) d_Model_mayTrap_1 rfl (Nat.le_of_ble_eq_true rfl) rfl ?_
  dsimp only [List.set]
  refine r_iload_n (i := 1) d_Model_mayTrap_2 rfl rfl ?_
  refine r_aload_n (i := 0) d_Model_mayTrap_3 rfl rfl ?_
  refine r_iload_n (i := 1) d_Model_mayTrap_4 rfl rfl ?_
  refine r_V1 v_Model_sizeOf w_1040 lm_0 (c_Model_sizeOf hS hw hk) (Nat.le_of_ble_eq_true rfl) (Nat.le_of_ble_eq_true rfl) d_Model_mayTrap_5 ?_
  have zb := hw.zb k hk
  have hn := hw.1
  refine r_isub d_Model_mayTrap_8 ?_
  refine r_iconst 1 d_Model_mayTrap_9 ic_1 ?_
  refine r_iadd d_Model_mayTrap_10 ?_
  rw [nI_sub1 (by omega)]
  refine r_istore_n (i := 3) d_Model_mayTrap_11 rfl (Nat.le_of_ble_eq_true rfl) rfl ?_
  dsimp only [List.set]
  have := l_Model_mayTrap (G := G) hS hw hk (f0 := k + 1 - z k) (by omega) (z k) 0 (by omega)
  rw [anyT_tp hw ht k hk] at this
  exact this

theorem right_of (hw : WF n le nu lf rt z) {k e : Nat} (hk : k < n) (he : e < n) : rt e = nI k ↔ (e = k + 1 ∧ rt e ≠ -9) := by
  have hn := hw.1
  constructor
  · intro h
    have hr : rt e ≠ -9 := by rw [h]; exact nI_ne9 (by omega)
    have s := hw.pair he hr
    have := (nI_eq (by omega) (by omega)).mp (s.2.2.2.1.symm.trans h)
    exact ⟨by omega, hr⟩
  · rintro ⟨rfl, hr⟩
    have s := hw.pair he hr
    rw [s.2.2.2.1, show k + 1 - 1 = k by omega]
theorem l_Model_isRight (hS : MS n le nu lf rt nm mc (M 3)) (hw : WF n le nu lf rt z) {k : Nat} (hk : k < n) : ∀ (d j : Nat), j + d = n → RJ G LM m_Model_isRight 0 (fun v N => v = some (.int (bI (decide (k + 1 < n ∧ rt (k + 1) ≠ -9)))) ∧ N = M) 4 [some (.ref (G.2.2 0)), some (.int (nI k)), some (.int (bI (decide (k + 1 < j ∧ rt (k + 1) ≠ -9)))), some (.int (nI j))] [] M := by
  have hn := hw.1
  intro d
  induction d with
  | zero =>
    intro j hj
    simp only [Nat.add_zero] at hj
    subst hj
    refine r_iload_n (i := 3) d_Model_isRight_4 rfl rfl ?_
    refine r_aload_n (i := 0) d_Model_isRight_5 rfl rfl ?_
    refine r_getr nf_Model_16 lm_0 rfl d_Model_isRight_6 ?_
    refine r_iconst 0 d_Model_isRight_9 ic_0 ?_
    refine r_ia (q := 0) lm_3 rfl (by omega) (by decide) hS.1 d_Model_isRight_10 ?_
    refine r_icmp_ge 43 d_Model_isRight_11 (by decide) (fun _ => ?_) (fun h9 => absurd (nI_le (Nat.le_refl _) (by omega)) h9)
    refine r_iload_n (i := 2) d_Model_isRight_43 rfl rfl ?_
    exact r_zret rfl (bI_01 _) d_Model_isRight_44 ⟨rfl, rfl⟩
  | succ d ih =>
    intro j hj
    refine r_iload_n (i := 3) d_Model_isRight_4 rfl rfl ?_
    refine r_aload_n (i := 0) d_Model_isRight_5 rfl rfl ?_
    refine r_getr nf_Model_16 lm_0 rfl d_Model_isRight_6 ?_
    refine r_iconst 0 d_Model_isRight_9 ic_0 ?_
    refine r_ia (q := 0) lm_3 rfl (by omega) (by decide) (hS.1) d_Model_isRight_10 ?_
    refine r_icmp_ge 43 d_Model_isRight_11 (by decide) (fun h_11 => ?_) (fun h_11 => ?_)
    · skip
      exact absurd h_11 (nI_ge (by omega) (by omega))
    · skip
      refine r_iload_n (i := 2) d_Model_isRight_14 rfl rfl ?_
      refine r_if_ne 31 d_Model_isRight_15 (by decide) (fun h_15 => ?_) (fun h_15 => ?_)
      · skip
        refine r_iconst 1 d_Model_isRight_31 ic_1 ?_
        refine r_goto 36 d_Model_isRight_32 (by decide) ?_
        refine r_istore_n (i := 2) d_Model_isRight_36 rfl (Nat.le_of_ble_eq_true rfl) rfl ?_
        dsimp only [List.set]
        refine r_iinc d_Model_isRight_37 rfl (nI_inc _) (Nat.le_of_ble_eq_true rfl) rfl ?_
        dsimp only [List.set]
        refine r_goto 4 d_Model_isRight_40 (by decide) ?_
        have := ih (j + 1) (by omega)
        have e2 : decide (k + 1 < j + 1 ∧ rt (k + 1) ≠ -9) = true := by
          have q := of_decide_eq_true ((bI_t _).mp h_15); exact decide_eq_true ⟨by omega, q.2⟩
        rw [e2] at this
        exact this
      · skip
        refine r_aload_n (i := 0) d_Model_isRight_18 rfl rfl ?_
        refine r_getr nf_Model_16 lm_0 rfl d_Model_isRight_19 ?_
        refine r_bipush 94 d_Model_isRight_22 bp_94 ?_
        refine r_iload_n (i := 3) d_Model_isRight_24 rfl rfl ?_
        refine r_iaddN (a := 94) (b := j) d_Model_isRight_25 rfl rfl ?_
        refine r_ia (q := (94 + j)) lm_3 rfl (by omega) (by decide) ((hS.grt (j := j) (by omega))) d_Model_isRight_26 ?_
        refine r_iload_n (i := 1) d_Model_isRight_27 rfl rfl ?_
        refine r_icmp_ne 35 d_Model_isRight_28 (by decide) (fun h_28 => ?_) (fun h_28 => ?_)
        · skip
          refine r_iconst 0 d_Model_isRight_35 ic_0 ?_
          refine r_istore_n (i := 2) d_Model_isRight_36 rfl (Nat.le_of_ble_eq_true rfl) rfl ?_
          dsimp only [List.set]
          refine r_iinc d_Model_isRight_37 rfl (nI_inc _) (Nat.le_of_ble_eq_true rfl) rfl ?_
          dsimp only [List.set]
          refine r_goto 4 d_Model_isRight_40 (by decide) ?_
          have := ih (j + 1) (by omega)
          have e2 : decide (k + 1 < j + 1 ∧ rt (k + 1) ≠ -9) = false := by
            have q := of_decide_eq_false ((bI_f _).mp h_15); apply decide_eq_false; rintro ⟨a, b⟩; rcases Nat.lt_or_ge (k + 1) j with c | c; exact q ⟨c, b⟩; have e4 : j = k + 1 := by omega
            exact h_28 ((right_of hw hk (show j < n by omega)).mpr ⟨e4, by rw [e4]; exact b⟩)
          rw [e2] at this
          exact this
        · skip
          refine r_iconst 1 d_Model_isRight_31 ic_1 ?_
          refine r_goto 36 d_Model_isRight_32 (by decide) ?_
          refine r_istore_n (i := 2) d_Model_isRight_36 rfl (Nat.le_of_ble_eq_true rfl) rfl ?_
          dsimp only [List.set]
          refine r_iinc d_Model_isRight_37 rfl (nI_inc _) (Nat.le_of_ble_eq_true rfl) rfl ?_
          dsimp only [List.set]
          refine r_goto 4 d_Model_isRight_40 (by decide) ?_
          have := ih (j + 1) (by omega)
          have e2 : decide (k + 1 < j + 1 ∧ rt (k + 1) ≠ -9) = true := by
            have q := (right_of hw hk (show j < n by omega)).mp h_28; obtain ⟨rfl, q2⟩ := q; exact decide_eq_true ⟨by omega, q2⟩
          rw [e2] at this
          exact this

theorem c_Model_isRight (hS : MS n le nu lf rt nm mc (M 3)) (hw : WF n le nu lf rt z) {k : Nat} (hk : k < n) : CF G LM m_Model_isRight 0 [.ref (G.2.2 0), .int (nI k)] M (some (.int (bI (decide (k + 1 < n ∧ rt (k + 1) ≠ -9))))) M := by
  refine CJ_of2 (n0 := 2) (by decide) rfl rfl ?_
  simp only [List.map_cons, List.map_nil, List.cons_append, List.nil_append, List.reduceReplicate]
  refine r_iconst 0 d_Model_isRight_0 ic_0 ?_
  refine r_istore_n (i := 2) d_Model_isRight_1 rfl (Nat.le_of_ble_eq_true rfl) rfl ?_
  dsimp only [List.set]
  refine r_iconst 0 d_Model_isRight_2 ic_0 ?_
  refine r_istore_n (i := 3) d_Model_isRight_3 rfl (Nat.le_of_ble_eq_true rfl) rfl ?_
  dsimp only [List.set]
  exact l_Model_isRight hS hw hk n 0 (by omega)

end MM2
