-- Tree: what is derived
def jI (a b : Int32) : Int32 := if a = b then a + 1 else if a < b then b else a
theorem jI_nI {a b : Nat} (ha : a < 2 ^ 30) (hb : b < 2 ^ 30) : jI (nI a) (nI b) = nI (jn a b) := by
  unfold jI jn
  have h1 := nI_eq (a := a) (b := b) (by omega) (by omega)
  have h2 := nI_ltI (a := a) (b := b) (by omega) (by omega)
  by_cases e1 : a = b
  · rw [if_pos (h1.mpr e1), if_pos e1, nI_1]
  · rw [if_neg (fun q => e1 (h1.mp q)), if_neg e1]
    by_cases e2 : a < b
    · rw [if_pos (h2.mpr e2), if_pos e2]
    · rw [if_neg (fun q => e2 (h2.mp q)), if_neg e2]
def lpI (c ll lr : Bool) (a b : Int32) : Int32 := if c then (if jI (if lr then 1 else b) (if ll then 0 else a) < jI a b then jI (if lr then 1 else b) (if ll then 0 else a) else jI a b) else jI a b
section MTree2
variable {G : nw_G}
theorem c_Tree_leastOfPair {t : Nat} (h : isTree t) (k l r : Nat) (hk : k < 31) (hl : l < 31) (hr : r < 31) (M : nw_M) : CF G LC m_Tree_leastOfPair 2 [.ref (G.2.2 t), .int (nI k), .int (nI l), .int (nI r)] M (some (.int (lpI (o_comm (M (t + 2) k)) (M (t + 6) l == -9) (M (t + 6) r == -9) (M (t + 12) l) (M (t + 12) r)))) M := by
  refine CJ_of (by decide) rfl (Nat.le_of_ble_eq_true rfl) ?_
  refine r_aload_n (i := 0) d_Tree_leastOfPair_0 rfl rfl ?_
  refine r_getr nf_Tree_32 h.1 rfl d_Tree_leastOfPair_1 ?_
  refine r_iload_n (i := 2) d_Tree_leastOfPair_4 rfl rfl ?_
  refine r_V1 v_Row_get w_442 (isTree.leasts h).1 (c_Row_get (isTree.leasts h) _ _ ) (Nat.le_of_ble_eq_true rfl) (Nat.le_of_ble_eq_true rfl) d_Tree_leastOfPair_5 ?_
  refine r_aload_n (i := 0) d_Tree_leastOfPair_8 rfl rfl ?_
  refine r_getr nf_Tree_32 h.1 rfl d_Tree_leastOfPair_9 ?_
  refine r_iload_n (i := 3) d_Tree_leastOfPair_12 rfl rfl ?_
  refine r_V1 v_Row_get w_442 (isTree.leasts h).1 (c_Row_get (isTree.leasts h) _ _ ) (Nat.le_of_ble_eq_true rfl) (Nat.le_of_ble_eq_true rfl) d_Tree_leastOfPair_13 ?_
  refine r_S2 f_Tree_joint w_455 (c_Tree_joint _ _ _ ) (Nat.le_of_ble_eq_true rfl) (Nat.le_of_ble_eq_true rfl) d_Tree_leastOfPair_16 ?_
  refine r_istore d_Tree_leastOfPair_19 (Nat.le_of_ble_eq_true rfl) rfl ?_
  refine r_aload_n (i := 0) d_Tree_leastOfPair_21 rfl rfl ?_
  refine r_iload_n (i := 1) d_Tree_leastOfPair_22 rfl rfl ?_
  refine r_V1 v_Tree_isCommuting w_463 h.1 (c_Tree_isCommuting h _ _ ) (Nat.le_of_ble_eq_true rfl) (Nat.le_of_ble_eq_true rfl) d_Tree_leastOfPair_23 ?_
  refine r_if_ne 32 d_Tree_leastOfPair_26 (by decide) (fun h_26 => ?_) (fun h_26 => ?_)
  · skip
    refine r_aload_n (i := 0) d_Tree_leastOfPair_32 rfl rfl ?_
    refine r_iload_n (i := 3) d_Tree_leastOfPair_33 rfl rfl ?_
    refine r_V1 v_Tree_isLeaf w_438 h.1 (c_Tree_isLeaf h _ _ ) (Nat.le_of_ble_eq_true rfl) (Nat.le_of_ble_eq_true rfl) d_Tree_leastOfPair_34 ?_
    refine r_if_eq 44 d_Tree_leastOfPair_37 (by decide) (fun h_37 => ?_) (fun h_37 => ?_)
    · skip
      refine r_aload_n (i := 0) d_Tree_leastOfPair_44 rfl rfl ?_
      refine r_getr nf_Tree_32 h.1 rfl d_Tree_leastOfPair_45 ?_
      refine r_iload_n (i := 3) d_Tree_leastOfPair_48 rfl rfl ?_
      refine r_V1 v_Row_get w_442 (isTree.leasts h).1 (c_Row_get (isTree.leasts h) _ _ ) (Nat.le_of_ble_eq_true rfl) (Nat.le_of_ble_eq_true rfl) d_Tree_leastOfPair_49 ?_
      refine r_istore d_Tree_leastOfPair_52 (Nat.le_of_ble_eq_true rfl) rfl ?_
      refine r_aload_n (i := 0) d_Tree_leastOfPair_54 rfl rfl ?_
      refine r_iload_n (i := 2) d_Tree_leastOfPair_55 rfl rfl ?_
      refine r_V1 v_Tree_isLeaf w_438 h.1 (c_Tree_isLeaf h _ _ ) (Nat.le_of_ble_eq_true rfl) (Nat.le_of_ble_eq_true rfl) d_Tree_leastOfPair_56 ?_
      refine r_if_eq 66 d_Tree_leastOfPair_59 (by decide) (fun h_59 => ?_) (fun h_59 => ?_)
      · skip
        refine r_aload_n (i := 0) d_Tree_leastOfPair_66 rfl rfl ?_
        refine r_getr nf_Tree_32 h.1 rfl d_Tree_leastOfPair_67 ?_
        refine r_iload_n (i := 2) d_Tree_leastOfPair_70 rfl rfl ?_
        refine r_V1 v_Row_get w_442 (isTree.leasts h).1 (c_Row_get (isTree.leasts h) _ _ ) (Nat.le_of_ble_eq_true rfl) (Nat.le_of_ble_eq_true rfl) d_Tree_leastOfPair_71 ?_
        refine r_istore d_Tree_leastOfPair_74 (Nat.le_of_ble_eq_true rfl) rfl ?_
        refine r_iload d_Tree_leastOfPair_76 rfl ?_
        refine r_iload d_Tree_leastOfPair_78 rfl ?_
        refine r_iload d_Tree_leastOfPair_80 rfl ?_
        refine r_S2 f_Tree_joint w_455 (c_Tree_joint _ _ _ ) (Nat.le_of_ble_eq_true rfl) (Nat.le_of_ble_eq_true rfl) d_Tree_leastOfPair_82 ?_
        refine r_mmin w_470 (Nat.le_of_ble_eq_true rfl) (Nat.le_of_ble_eq_true rfl) d_Tree_leastOfPair_85 ?_
        refine r_iret rfl d_Tree_leastOfPair_88 ?_
        refine ⟨?_, rfl⟩
        simp (disch := omega) only [rg_nI, bI_t, bI_f, beq_iff_eq, beq_eq_false_iff_ne, ne_eq, Decidable.not_not, Bool.not_eq_false, Bool.not_eq_true, decide_eq_true_eq, decide_eq_false_iff_not] at *
        first
          | simp [lpI, jI, *]
          | (simp only [lpI, jI, *]; simp [*])
      · skip
        refine r_iconst 0 d_Tree_leastOfPair_62 ic_0 ?_
        refine r_goto 74 d_Tree_leastOfPair_63 (by decide) ?_
        refine r_istore d_Tree_leastOfPair_74 (Nat.le_of_ble_eq_true rfl) rfl ?_
        refine r_iload d_Tree_leastOfPair_76 rfl ?_
        refine r_iload d_Tree_leastOfPair_78 rfl ?_
        refine r_iload d_Tree_leastOfPair_80 rfl ?_
        refine r_S2 f_Tree_joint w_455 (c_Tree_joint _ _ _ ) (Nat.le_of_ble_eq_true rfl) (Nat.le_of_ble_eq_true rfl) d_Tree_leastOfPair_82 ?_
        refine r_mmin w_470 (Nat.le_of_ble_eq_true rfl) (Nat.le_of_ble_eq_true rfl) d_Tree_leastOfPair_85 ?_
        refine r_iret rfl d_Tree_leastOfPair_88 ?_
        refine ⟨?_, rfl⟩
        simp (disch := omega) only [rg_nI, bI_t, bI_f, beq_iff_eq, beq_eq_false_iff_ne, ne_eq, Decidable.not_not, Bool.not_eq_false, Bool.not_eq_true, decide_eq_true_eq, decide_eq_false_iff_not] at *
        first
          | simp [lpI, jI, *]
          | (simp only [lpI, jI, *]; simp [*])
    · skip
      refine r_iconst 1 d_Tree_leastOfPair_40 ic_1 ?_
      refine r_goto 52 d_Tree_leastOfPair_41 (by decide) ?_
      refine r_istore d_Tree_leastOfPair_52 (Nat.le_of_ble_eq_true rfl) rfl ?_
      refine r_aload_n (i := 0) d_Tree_leastOfPair_54 rfl rfl ?_
      refine r_iload_n (i := 2) d_Tree_leastOfPair_55 rfl rfl ?_
      refine r_V1 v_Tree_isLeaf w_438 h.1 (c_Tree_isLeaf h _ _ ) (Nat.le_of_ble_eq_true rfl) (Nat.le_of_ble_eq_true rfl) d_Tree_leastOfPair_56 ?_
      refine r_if_eq 66 d_Tree_leastOfPair_59 (by decide) (fun h_59 => ?_) (fun h_59 => ?_)
      · skip
        refine r_aload_n (i := 0) d_Tree_leastOfPair_66 rfl rfl ?_
        refine r_getr nf_Tree_32 h.1 rfl d_Tree_leastOfPair_67 ?_
        refine r_iload_n (i := 2) d_Tree_leastOfPair_70 rfl rfl ?_
        refine r_V1 v_Row_get w_442 (isTree.leasts h).1 (c_Row_get (isTree.leasts h) _ _ ) (Nat.le_of_ble_eq_true rfl) (Nat.le_of_ble_eq_true rfl) d_Tree_leastOfPair_71 ?_
        refine r_istore d_Tree_leastOfPair_74 (Nat.le_of_ble_eq_true rfl) rfl ?_
        refine r_iload d_Tree_leastOfPair_76 rfl ?_
        refine r_iload d_Tree_leastOfPair_78 rfl ?_
        refine r_iload d_Tree_leastOfPair_80 rfl ?_
        refine r_S2 f_Tree_joint w_455 (c_Tree_joint _ _ _ ) (Nat.le_of_ble_eq_true rfl) (Nat.le_of_ble_eq_true rfl) d_Tree_leastOfPair_82 ?_
        refine r_mmin w_470 (Nat.le_of_ble_eq_true rfl) (Nat.le_of_ble_eq_true rfl) d_Tree_leastOfPair_85 ?_
        refine r_iret rfl d_Tree_leastOfPair_88 ?_
        refine ⟨?_, rfl⟩
        simp (disch := omega) only [rg_nI, bI_t, bI_f, beq_iff_eq, beq_eq_false_iff_ne, ne_eq, Decidable.not_not, Bool.not_eq_false, Bool.not_eq_true, decide_eq_true_eq, decide_eq_false_iff_not] at *
        first
          | simp [lpI, jI, *]
          | (simp only [lpI, jI, *]; simp [*])
      · skip
        refine r_iconst 0 d_Tree_leastOfPair_62 ic_0 ?_
        refine r_goto 74 d_Tree_leastOfPair_63 (by decide) ?_
        refine r_istore d_Tree_leastOfPair_74 (Nat.le_of_ble_eq_true rfl) rfl ?_
        refine r_iload d_Tree_leastOfPair_76 rfl ?_
        refine r_iload d_Tree_leastOfPair_78 rfl ?_
        refine r_iload d_Tree_leastOfPair_80 rfl ?_
        refine r_S2 f_Tree_joint w_455 (c_Tree_joint _ _ _ ) (Nat.le_of_ble_eq_true rfl) (Nat.le_of_ble_eq_true rfl) d_Tree_leastOfPair_82 ?_
        refine r_mmin w_470 (Nat.le_of_ble_eq_true rfl) (Nat.le_of_ble_eq_true rfl) d_Tree_leastOfPair_85 ?_
        refine r_iret rfl d_Tree_leastOfPair_88 ?_
        refine ⟨?_, rfl⟩
        simp (disch := omega) only [rg_nI, bI_t, bI_f, beq_iff_eq, beq_eq_false_iff_ne, ne_eq, Decidable.not_not, Bool.not_eq_false, Bool.not_eq_true, decide_eq_true_eq, decide_eq_false_iff_not] at *
        first
          | simp [lpI, jI, *]
          | (simp only [lpI, jI, *]; simp [*])
  · skip
    refine r_iload d_Tree_leastOfPair_29 rfl ?_
    refine r_iret rfl d_Tree_leastOfPair_31 ?_
    refine ⟨?_, rfl⟩
    simp (disch := omega) only [rg_nI, bI_t, bI_f, beq_iff_eq, beq_eq_false_iff_ne, ne_eq, Decidable.not_not, Bool.not_eq_false, Bool.not_eq_true, decide_eq_true_eq, decide_eq_false_iff_not] at *
    first
      | simp [lpI, jI, *]
      | (simp only [lpI, jI, *]; simp [*])

def dpM (M : nw_M) (t k l r : Nat) : nw_M :=
  ms (ms (ms (ms M (t + 10) (upd (if M (t + 6) r = -9 then upd (M (t + 10)) r 0 else M (t + 10)) k (jI ((if M (t + 6) r = -9 then upd (M (t + 10)) r 0 else M (t + 10)) l) ((if M (t + 6) r = -9 then upd (M (t + 10)) r 0 else M (t + 10)) r))))
    (t + 12) (upd (if M (t + 6) r = -9 then upd (M (t + 12)) r 0 else M (t + 12)) k (lpI (o_comm (M (t + 2) k)) (M (t + 6) l == -9) (M (t + 6) r == -9) ((if M (t + 6) r = -9 then upd (M (t + 12)) r 0 else M (t + 12)) l) ((if M (t + 6) r = -9 then upd (M (t + 12)) r 0 else M (t + 12)) r))))
    (t + 14) (upd (M (t + 14)) k (bI (o_trap (M (t + 2) k) || M (t + 14) l == 1 || M (t + 14) r == 1)))) (t + 16) (upd (M (t + 16)) k (M (t + 16) l + M (t + 16) r + 1))
theorem c_Tree_derivePair {t : Nat} (h : isTree t) (k l r : Nat) (hk : k < 31) (hl : l < 31) (hr : r < 31) (M : nw_M) (hMl : M (t + 6) k = nI l) (hMr : M (t + 8) k = nI r) : CF G LC m_Tree_derivePair 3 [.ref (G.2.2 t), .int (nI k)] M none (dpM M t k l r) := by
  refine CJ_of (by decide) rfl (Nat.le_of_ble_eq_true rfl) ?_
  refine r_aload_n (i := 0) d_Tree_derivePair_0 rfl rfl ?_
  refine r_getr nf_Tree_23 h.1 rfl d_Tree_derivePair_1 ?_
  refine r_iload_n (i := 1) d_Tree_derivePair_4 rfl rfl ?_
  refine r_V1 v_Row_get w_442 (isTree.lefts h).1 (c_Row_get (isTree.lefts h) _ _ ) (Nat.le_of_ble_eq_true rfl) (Nat.le_of_ble_eq_true rfl) d_Tree_derivePair_5 ?_
  refine r_istore_n (i := 2) d_Tree_derivePair_8 rfl (Nat.le_of_ble_eq_true rfl) rfl ?_
  refine r_aload_n (i := 0) d_Tree_derivePair_9 rfl rfl ?_
  refine r_getr nf_Tree_26 h.1 rfl d_Tree_derivePair_10 ?_
  refine r_iload_n (i := 1) d_Tree_derivePair_13 rfl rfl ?_
  refine r_V1 v_Row_get w_442 (isTree.rights h).1 (c_Row_get (isTree.rights h) _ _ ) (Nat.le_of_ble_eq_true rfl) (Nat.le_of_ble_eq_true rfl) d_Tree_derivePair_14 ?_
  refine r_istore_n (i := 3) d_Tree_derivePair_17 rfl (Nat.le_of_ble_eq_true rfl) rfl ?_
  refine r_aload_n (i := 0) d_Tree_derivePair_18 rfl rfl ?_
  refine r_iload_n (i := 3) d_Tree_derivePair_19 rfl rfl ?_
  simp (disch := omega) only [rg_nI, hMl, hMr]
  refine r_V1 v_Tree_isLeaf w_438 h.1 (c_Tree_isLeaf h _ _ ) (Nat.le_of_ble_eq_true rfl) (Nat.le_of_ble_eq_true rfl) d_Tree_derivePair_20 ?_
  refine r_if_eq 44 d_Tree_derivePair_23 (by decide) (fun h_23 => ?_) (fun h_23 => ?_)
  · skip
    try simp (disch := omega) only [ms_same, ms_ne, rg_nI, rp_nI]
    refine r_aload_n (i := 0) d_Tree_derivePair_44 rfl rfl ?_
    refine r_getr nf_Tree_29 h.1 rfl d_Tree_derivePair_45 ?_
    refine r_iload_n (i := 1) d_Tree_derivePair_48 rfl rfl ?_
    refine r_aload_n (i := 0) d_Tree_derivePair_49 rfl rfl ?_
    refine r_getr nf_Tree_29 h.1 rfl d_Tree_derivePair_50 ?_
    refine r_iload_n (i := 2) d_Tree_derivePair_53 rfl rfl ?_
    refine r_V1 v_Row_get w_442 (isTree.needs h).1 (c_Row_get (isTree.needs h) _ _ ) (Nat.le_of_ble_eq_true rfl) (Nat.le_of_ble_eq_true rfl) d_Tree_derivePair_54 ?_
    refine r_aload_n (i := 0) d_Tree_derivePair_57 rfl rfl ?_
    refine r_getr nf_Tree_29 h.1 rfl d_Tree_derivePair_58 ?_
    refine r_iload_n (i := 3) d_Tree_derivePair_61 rfl rfl ?_
    refine r_V1 v_Row_get w_442 (isTree.needs h).1 (c_Row_get (isTree.needs h) _ _ ) (Nat.le_of_ble_eq_true rfl) (Nat.le_of_ble_eq_true rfl) d_Tree_derivePair_62 ?_
    refine r_S2 f_Tree_joint w_455 (c_Tree_joint _ _ _ ) (Nat.le_of_ble_eq_true rfl) (Nat.le_of_ble_eq_true rfl) d_Tree_derivePair_65 ?_
    refine r_V2 v_Row_put w_406 (isTree.needs h).1 (c_Row_put (isTree.needs h) _ _ _ ) (Nat.le_of_ble_eq_true rfl) (Nat.le_of_ble_eq_true rfl) d_Tree_derivePair_68 ?_
    refine r_aload_n (i := 0) d_Tree_derivePair_71 rfl rfl ?_
    refine r_getr nf_Tree_32 h.1 rfl d_Tree_derivePair_72 ?_
    refine r_iload_n (i := 1) d_Tree_derivePair_75 rfl rfl ?_
    refine r_aload_n (i := 0) d_Tree_derivePair_76 rfl rfl ?_
    refine r_iload_n (i := 1) d_Tree_derivePair_77 rfl rfl ?_
    refine r_iload_n (i := 2) d_Tree_derivePair_78 rfl rfl ?_
    refine r_iload_n (i := 3) d_Tree_derivePair_79 rfl rfl ?_
    refine r_V3 v_Tree_leastOfPair w_459 h.1 (c_Tree_leastOfPair h k l r hk hl hr _) (Nat.le_of_ble_eq_true rfl) (Nat.le_of_ble_eq_true rfl) d_Tree_derivePair_80 ?_
    refine r_V2 v_Row_put w_406 (isTree.leasts h).1 (c_Row_put (isTree.leasts h) _ _ _ ) (Nat.le_of_ble_eq_true rfl) (Nat.le_of_ble_eq_true rfl) d_Tree_derivePair_83 ?_
    refine r_aload_n (i := 0) d_Tree_derivePair_86 rfl rfl ?_
    refine r_getr nf_Tree_14 h.1 rfl d_Tree_derivePair_87 ?_
    refine r_iload_n (i := 1) d_Tree_derivePair_90 rfl rfl ?_
    refine r_V1 v_Row_get w_442 (isTree.letters h).1 (c_Row_get (isTree.letters h) _ _ ) (Nat.le_of_ble_eq_true rfl) (Nat.le_of_ble_eq_true rfl) d_Tree_derivePair_91 ?_
    refine r_S1 f_Ops_canTrap w_473 (c_Ops_canTrap _ _ ) (Nat.le_of_ble_eq_true rfl) (Nat.le_of_ble_eq_true rfl) d_Tree_derivePair_94 ?_
    refine r_if_ne 116 d_Tree_derivePair_97 (by decide) (fun h_97 => ?_) (fun h_97 => ?_)
    · skip
      refine r_iconst 1 d_Tree_derivePair_116 ic_1 ?_
      refine r_goto 121 d_Tree_derivePair_117 (by decide) ?_
      refine r_istore d_Tree_derivePair_121 (Nat.le_of_ble_eq_true rfl) rfl ?_
      refine r_aload_n (i := 0) d_Tree_derivePair_123 rfl rfl ?_
      refine r_getr nf_Tree_35 h.1 rfl d_Tree_derivePair_124 ?_
      refine r_iload_n (i := 1) d_Tree_derivePair_127 rfl rfl ?_
      refine r_iload d_Tree_derivePair_128 rfl ?_
      refine r_if_eq 137 d_Tree_derivePair_130 (by decide) (fun h_130 => ?_) (fun h_130 => ?_)
      · exact absurd h_130 (by decide)
      · skip
        refine r_iconst 1 d_Tree_derivePair_133 ic_1 ?_
        refine r_goto 138 d_Tree_derivePair_134 (by decide) ?_
        refine r_V2 v_Row_put w_406 (isTree.traps h).1 (c_Row_put (isTree.traps h) _ _ _ ) (Nat.le_of_ble_eq_true rfl) (Nat.le_of_ble_eq_true rfl) d_Tree_derivePair_138 ?_
        refine r_aload_n (i := 0) d_Tree_derivePair_141 rfl rfl ?_
        refine r_getr nf_Tree_38 h.1 rfl d_Tree_derivePair_142 ?_
        refine r_iload_n (i := 1) d_Tree_derivePair_145 rfl rfl ?_
        refine r_aload_n (i := 0) d_Tree_derivePair_146 rfl rfl ?_
        refine r_getr nf_Tree_38 h.1 rfl d_Tree_derivePair_147 ?_
        refine r_iload_n (i := 2) d_Tree_derivePair_150 rfl rfl ?_
        refine r_V1 v_Row_get w_442 (isTree.spans h).1 (c_Row_get (isTree.spans h) _ _ ) (Nat.le_of_ble_eq_true rfl) (Nat.le_of_ble_eq_true rfl) d_Tree_derivePair_151 ?_
        refine r_aload_n (i := 0) d_Tree_derivePair_154 rfl rfl ?_
        refine r_getr nf_Tree_38 h.1 rfl d_Tree_derivePair_155 ?_
        refine r_iload_n (i := 3) d_Tree_derivePair_158 rfl rfl ?_
        refine r_V1 v_Row_get w_442 (isTree.spans h).1 (c_Row_get (isTree.spans h) _ _ ) (Nat.le_of_ble_eq_true rfl) (Nat.le_of_ble_eq_true rfl) d_Tree_derivePair_159 ?_
        refine r_iadd d_Tree_derivePair_162 ?_
        refine r_iconst 1 d_Tree_derivePair_163 ic_1 ?_
        refine r_iadd d_Tree_derivePair_164 ?_
        refine r_V2 v_Row_put w_406 (isTree.spans h).1 (c_Row_put (isTree.spans h) _ _ _ ) (Nat.le_of_ble_eq_true rfl) (Nat.le_of_ble_eq_true rfl) d_Tree_derivePair_165 ?_
        refine r_vret rfl d_Tree_derivePair_168 ?_
        refine ⟨rfl, ?_⟩
        simp (disch := omega) only [ms_same, ms_ne, rg_nI, rp_nI, bI_t, bI_f, beq_iff_eq, beq_eq_false_iff_ne, ne_eq, Decidable.not_not, Bool.not_eq_false, Bool.not_eq_true, decide_eq_true_eq, decide_eq_false_iff_not] at *
        first
          | exact absurd h_130 (by decide)
          | (unfold dpM
             try simp (disch := omega) only [ms_same, ms_ne, rg_nI, rp_nI, ms_ms]
             simp [jI, bI, *]
             try (funext c
                  simp only [ms]
                  by_cases e0 : c = t + 10 <;> by_cases e1 : c = t + 12 <;> simp_all))
    · skip
      refine r_aload_n (i := 0) d_Tree_derivePair_100 rfl rfl ?_
      refine r_iload_n (i := 2) d_Tree_derivePair_101 rfl rfl ?_
      refine r_V1 v_Tree_mayTrap w_476 h.1 (c_Tree_mayTrap h _ _ ) (Nat.le_of_ble_eq_true rfl) (Nat.le_of_ble_eq_true rfl) d_Tree_derivePair_102 ?_
      refine r_if_ne 116 d_Tree_derivePair_105 (by decide) (fun h_105 => ?_) (fun h_105 => ?_)
      · skip
        refine r_iconst 1 d_Tree_derivePair_116 ic_1 ?_
        refine r_goto 121 d_Tree_derivePair_117 (by decide) ?_
        refine r_istore d_Tree_derivePair_121 (Nat.le_of_ble_eq_true rfl) rfl ?_
        refine r_aload_n (i := 0) d_Tree_derivePair_123 rfl rfl ?_
        refine r_getr nf_Tree_35 h.1 rfl d_Tree_derivePair_124 ?_
        refine r_iload_n (i := 1) d_Tree_derivePair_127 rfl rfl ?_
        refine r_iload d_Tree_derivePair_128 rfl ?_
        refine r_if_eq 137 d_Tree_derivePair_130 (by decide) (fun h_130 => ?_) (fun h_130 => ?_)
        · exact absurd h_130 (by decide)
        · skip
          refine r_iconst 1 d_Tree_derivePair_133 ic_1 ?_
          refine r_goto 138 d_Tree_derivePair_134 (by decide) ?_
          refine r_V2 v_Row_put w_406 (isTree.traps h).1 (c_Row_put (isTree.traps h) _ _ _ ) (Nat.le_of_ble_eq_true rfl) (Nat.le_of_ble_eq_true rfl) d_Tree_derivePair_138 ?_
          refine r_aload_n (i := 0) d_Tree_derivePair_141 rfl rfl ?_
          refine r_getr nf_Tree_38 h.1 rfl d_Tree_derivePair_142 ?_
          refine r_iload_n (i := 1) d_Tree_derivePair_145 rfl rfl ?_
          refine r_aload_n (i := 0) d_Tree_derivePair_146 rfl rfl ?_
          refine r_getr nf_Tree_38 h.1 rfl d_Tree_derivePair_147 ?_
          refine r_iload_n (i := 2) d_Tree_derivePair_150 rfl rfl ?_
          refine r_V1 v_Row_get w_442 (isTree.spans h).1 (c_Row_get (isTree.spans h) _ _ ) (Nat.le_of_ble_eq_true rfl) (Nat.le_of_ble_eq_true rfl) d_Tree_derivePair_151 ?_
          refine r_aload_n (i := 0) d_Tree_derivePair_154 rfl rfl ?_
          refine r_getr nf_Tree_38 h.1 rfl d_Tree_derivePair_155 ?_
          refine r_iload_n (i := 3) d_Tree_derivePair_158 rfl rfl ?_
          refine r_V1 v_Row_get w_442 (isTree.spans h).1 (c_Row_get (isTree.spans h) _ _ ) (Nat.le_of_ble_eq_true rfl) (Nat.le_of_ble_eq_true rfl) d_Tree_derivePair_159 ?_
          refine r_iadd d_Tree_derivePair_162 ?_
          refine r_iconst 1 d_Tree_derivePair_163 ic_1 ?_
          refine r_iadd d_Tree_derivePair_164 ?_
          refine r_V2 v_Row_put w_406 (isTree.spans h).1 (c_Row_put (isTree.spans h) _ _ _ ) (Nat.le_of_ble_eq_true rfl) (Nat.le_of_ble_eq_true rfl) d_Tree_derivePair_165 ?_
          refine r_vret rfl d_Tree_derivePair_168 ?_
          refine ⟨rfl, ?_⟩
          simp (disch := omega) only [ms_same, ms_ne, rg_nI, rp_nI, bI_t, bI_f, beq_iff_eq, beq_eq_false_iff_ne, ne_eq, Decidable.not_not, Bool.not_eq_false, Bool.not_eq_true, decide_eq_true_eq, decide_eq_false_iff_not] at *
          first
            | exact absurd h_130 (by decide)
            | (unfold dpM
               try simp (disch := omega) only [ms_same, ms_ne, rg_nI, rp_nI, ms_ms]
               simp [jI, bI, *]
               try (funext c
                    simp only [ms]
                    by_cases e0 : c = t + 10 <;> by_cases e1 : c = t + 12 <;> simp_all))
      · skip
        refine r_aload_n (i := 0) d_Tree_derivePair_108 rfl rfl ?_
        refine r_iload_n (i := 3) d_Tree_derivePair_109 rfl rfl ?_
        refine r_V1 v_Tree_mayTrap w_476 h.1 (c_Tree_mayTrap h _ _ ) (Nat.le_of_ble_eq_true rfl) (Nat.le_of_ble_eq_true rfl) d_Tree_derivePair_110 ?_
        refine r_if_eq 120 d_Tree_derivePair_113 (by decide) (fun h_113 => ?_) (fun h_113 => ?_)
        · skip
          refine r_iconst 0 d_Tree_derivePair_120 ic_0 ?_
          refine r_istore d_Tree_derivePair_121 (Nat.le_of_ble_eq_true rfl) rfl ?_
          refine r_aload_n (i := 0) d_Tree_derivePair_123 rfl rfl ?_
          refine r_getr nf_Tree_35 h.1 rfl d_Tree_derivePair_124 ?_
          refine r_iload_n (i := 1) d_Tree_derivePair_127 rfl rfl ?_
          refine r_iload d_Tree_derivePair_128 rfl ?_
          refine r_if_eq 137 d_Tree_derivePair_130 (by decide) (fun h_130 => ?_) (fun h_130 => ?_)
          · skip
            refine r_iconst 0 d_Tree_derivePair_137 ic_0 ?_
            refine r_V2 v_Row_put w_406 (isTree.traps h).1 (c_Row_put (isTree.traps h) _ _ _ ) (Nat.le_of_ble_eq_true rfl) (Nat.le_of_ble_eq_true rfl) d_Tree_derivePair_138 ?_
            refine r_aload_n (i := 0) d_Tree_derivePair_141 rfl rfl ?_
            refine r_getr nf_Tree_38 h.1 rfl d_Tree_derivePair_142 ?_
            refine r_iload_n (i := 1) d_Tree_derivePair_145 rfl rfl ?_
            refine r_aload_n (i := 0) d_Tree_derivePair_146 rfl rfl ?_
            refine r_getr nf_Tree_38 h.1 rfl d_Tree_derivePair_147 ?_
            refine r_iload_n (i := 2) d_Tree_derivePair_150 rfl rfl ?_
            refine r_V1 v_Row_get w_442 (isTree.spans h).1 (c_Row_get (isTree.spans h) _ _ ) (Nat.le_of_ble_eq_true rfl) (Nat.le_of_ble_eq_true rfl) d_Tree_derivePair_151 ?_
            refine r_aload_n (i := 0) d_Tree_derivePair_154 rfl rfl ?_
            refine r_getr nf_Tree_38 h.1 rfl d_Tree_derivePair_155 ?_
            refine r_iload_n (i := 3) d_Tree_derivePair_158 rfl rfl ?_
            refine r_V1 v_Row_get w_442 (isTree.spans h).1 (c_Row_get (isTree.spans h) _ _ ) (Nat.le_of_ble_eq_true rfl) (Nat.le_of_ble_eq_true rfl) d_Tree_derivePair_159 ?_
            refine r_iadd d_Tree_derivePair_162 ?_
            refine r_iconst 1 d_Tree_derivePair_163 ic_1 ?_
            refine r_iadd d_Tree_derivePair_164 ?_
            refine r_V2 v_Row_put w_406 (isTree.spans h).1 (c_Row_put (isTree.spans h) _ _ _ ) (Nat.le_of_ble_eq_true rfl) (Nat.le_of_ble_eq_true rfl) d_Tree_derivePair_165 ?_
            refine r_vret rfl d_Tree_derivePair_168 ?_
            refine ⟨rfl, ?_⟩
            simp (disch := omega) only [ms_same, ms_ne, rg_nI, rp_nI, bI_t, bI_f, beq_iff_eq, beq_eq_false_iff_ne, ne_eq, Decidable.not_not, Bool.not_eq_false, Bool.not_eq_true, decide_eq_true_eq, decide_eq_false_iff_not] at *
            first
              | exact absurd h_130 (by decide)
              | (unfold dpM
                 try simp (disch := omega) only [ms_same, ms_ne, rg_nI, rp_nI, ms_ms]
                 simp [jI, bI, *]
                 try (funext c
                      simp only [ms]
                      by_cases e0 : c = t + 10 <;> by_cases e1 : c = t + 12 <;> simp_all))
          · exact absurd h_130 (by decide)
        · skip
          refine r_iconst 1 d_Tree_derivePair_116 ic_1 ?_
          refine r_goto 121 d_Tree_derivePair_117 (by decide) ?_
          refine r_istore d_Tree_derivePair_121 (Nat.le_of_ble_eq_true rfl) rfl ?_
          refine r_aload_n (i := 0) d_Tree_derivePair_123 rfl rfl ?_
          refine r_getr nf_Tree_35 h.1 rfl d_Tree_derivePair_124 ?_
          refine r_iload_n (i := 1) d_Tree_derivePair_127 rfl rfl ?_
          refine r_iload d_Tree_derivePair_128 rfl ?_
          refine r_if_eq 137 d_Tree_derivePair_130 (by decide) (fun h_130 => ?_) (fun h_130 => ?_)
          · exact absurd h_130 (by decide)
          · skip
            refine r_iconst 1 d_Tree_derivePair_133 ic_1 ?_
            refine r_goto 138 d_Tree_derivePair_134 (by decide) ?_
            refine r_V2 v_Row_put w_406 (isTree.traps h).1 (c_Row_put (isTree.traps h) _ _ _ ) (Nat.le_of_ble_eq_true rfl) (Nat.le_of_ble_eq_true rfl) d_Tree_derivePair_138 ?_
            refine r_aload_n (i := 0) d_Tree_derivePair_141 rfl rfl ?_
            refine r_getr nf_Tree_38 h.1 rfl d_Tree_derivePair_142 ?_
            refine r_iload_n (i := 1) d_Tree_derivePair_145 rfl rfl ?_
            refine r_aload_n (i := 0) d_Tree_derivePair_146 rfl rfl ?_
            refine r_getr nf_Tree_38 h.1 rfl d_Tree_derivePair_147 ?_
            refine r_iload_n (i := 2) d_Tree_derivePair_150 rfl rfl ?_
            refine r_V1 v_Row_get w_442 (isTree.spans h).1 (c_Row_get (isTree.spans h) _ _ ) (Nat.le_of_ble_eq_true rfl) (Nat.le_of_ble_eq_true rfl) d_Tree_derivePair_151 ?_
            refine r_aload_n (i := 0) d_Tree_derivePair_154 rfl rfl ?_
            refine r_getr nf_Tree_38 h.1 rfl d_Tree_derivePair_155 ?_
            refine r_iload_n (i := 3) d_Tree_derivePair_158 rfl rfl ?_
            refine r_V1 v_Row_get w_442 (isTree.spans h).1 (c_Row_get (isTree.spans h) _ _ ) (Nat.le_of_ble_eq_true rfl) (Nat.le_of_ble_eq_true rfl) d_Tree_derivePair_159 ?_
            refine r_iadd d_Tree_derivePair_162 ?_
            refine r_iconst 1 d_Tree_derivePair_163 ic_1 ?_
            refine r_iadd d_Tree_derivePair_164 ?_
            refine r_V2 v_Row_put w_406 (isTree.spans h).1 (c_Row_put (isTree.spans h) _ _ _ ) (Nat.le_of_ble_eq_true rfl) (Nat.le_of_ble_eq_true rfl) d_Tree_derivePair_165 ?_
            refine r_vret rfl d_Tree_derivePair_168 ?_
            refine ⟨rfl, ?_⟩
            simp (disch := omega) only [ms_same, ms_ne, rg_nI, rp_nI, bI_t, bI_f, beq_iff_eq, beq_eq_false_iff_ne, ne_eq, Decidable.not_not, Bool.not_eq_false, Bool.not_eq_true, decide_eq_true_eq, decide_eq_false_iff_not] at *
            first
              | exact absurd h_130 (by decide)
              | (unfold dpM
                 try simp (disch := omega) only [ms_same, ms_ne, rg_nI, rp_nI, ms_ms]
                 simp [jI, bI, *]
                 try (funext c
                      simp only [ms]
                      by_cases e0 : c = t + 10 <;> by_cases e1 : c = t + 12 <;> simp_all))
  · skip
    simp (disch := omega) only [rg_nI, bI_t, beq_iff_eq] at h_23
    refine r_aload_n (i := 0) d_Tree_derivePair_26 rfl rfl ?_
    refine r_getr nf_Tree_29 h.1 rfl d_Tree_derivePair_27 ?_
    refine r_iload_n (i := 3) d_Tree_derivePair_30 rfl rfl ?_
    refine r_iconst 0 d_Tree_derivePair_31 ic_0 ?_
    refine r_V2 v_Row_put w_406 (isTree.needs h).1 (c_Row_put (isTree.needs h) _ _ _ ) (Nat.le_of_ble_eq_true rfl) (Nat.le_of_ble_eq_true rfl) d_Tree_derivePair_32 ?_
    refine r_aload_n (i := 0) d_Tree_derivePair_35 rfl rfl ?_
    refine r_getr nf_Tree_32 h.1 rfl d_Tree_derivePair_36 ?_
    refine r_iload_n (i := 3) d_Tree_derivePair_39 rfl rfl ?_
    refine r_iconst 0 d_Tree_derivePair_40 ic_0 ?_
    refine r_V2 v_Row_put w_406 (isTree.leasts h).1 (c_Row_put (isTree.leasts h) _ _ _ ) (Nat.le_of_ble_eq_true rfl) (Nat.le_of_ble_eq_true rfl) d_Tree_derivePair_41 ?_
    try simp (disch := omega) only [ms_same, ms_ne, rg_nI, rp_nI]
    refine r_aload_n (i := 0) d_Tree_derivePair_44 rfl rfl ?_
    refine r_getr nf_Tree_29 h.1 rfl d_Tree_derivePair_45 ?_
    refine r_iload_n (i := 1) d_Tree_derivePair_48 rfl rfl ?_
    refine r_aload_n (i := 0) d_Tree_derivePair_49 rfl rfl ?_
    refine r_getr nf_Tree_29 h.1 rfl d_Tree_derivePair_50 ?_
    refine r_iload_n (i := 2) d_Tree_derivePair_53 rfl rfl ?_
    refine r_V1 v_Row_get w_442 (isTree.needs h).1 (c_Row_get (isTree.needs h) _ _ ) (Nat.le_of_ble_eq_true rfl) (Nat.le_of_ble_eq_true rfl) d_Tree_derivePair_54 ?_
    refine r_aload_n (i := 0) d_Tree_derivePair_57 rfl rfl ?_
    refine r_getr nf_Tree_29 h.1 rfl d_Tree_derivePair_58 ?_
    refine r_iload_n (i := 3) d_Tree_derivePair_61 rfl rfl ?_
    refine r_V1 v_Row_get w_442 (isTree.needs h).1 (c_Row_get (isTree.needs h) _ _ ) (Nat.le_of_ble_eq_true rfl) (Nat.le_of_ble_eq_true rfl) d_Tree_derivePair_62 ?_
    refine r_S2 f_Tree_joint w_455 (c_Tree_joint _ _ _ ) (Nat.le_of_ble_eq_true rfl) (Nat.le_of_ble_eq_true rfl) d_Tree_derivePair_65 ?_
    refine r_V2 v_Row_put w_406 (isTree.needs h).1 (c_Row_put (isTree.needs h) _ _ _ ) (Nat.le_of_ble_eq_true rfl) (Nat.le_of_ble_eq_true rfl) d_Tree_derivePair_68 ?_
    refine r_aload_n (i := 0) d_Tree_derivePair_71 rfl rfl ?_
    refine r_getr nf_Tree_32 h.1 rfl d_Tree_derivePair_72 ?_
    refine r_iload_n (i := 1) d_Tree_derivePair_75 rfl rfl ?_
    refine r_aload_n (i := 0) d_Tree_derivePair_76 rfl rfl ?_
    refine r_iload_n (i := 1) d_Tree_derivePair_77 rfl rfl ?_
    refine r_iload_n (i := 2) d_Tree_derivePair_78 rfl rfl ?_
    refine r_iload_n (i := 3) d_Tree_derivePair_79 rfl rfl ?_
    refine r_V3 v_Tree_leastOfPair w_459 h.1 (c_Tree_leastOfPair h k l r hk hl hr _) (Nat.le_of_ble_eq_true rfl) (Nat.le_of_ble_eq_true rfl) d_Tree_derivePair_80 ?_
    refine r_V2 v_Row_put w_406 (isTree.leasts h).1 (c_Row_put (isTree.leasts h) _ _ _ ) (Nat.le_of_ble_eq_true rfl) (Nat.le_of_ble_eq_true rfl) d_Tree_derivePair_83 ?_
    refine r_aload_n (i := 0) d_Tree_derivePair_86 rfl rfl ?_
    refine r_getr nf_Tree_14 h.1 rfl d_Tree_derivePair_87 ?_
    refine r_iload_n (i := 1) d_Tree_derivePair_90 rfl rfl ?_
    refine r_V1 v_Row_get w_442 (isTree.letters h).1 (c_Row_get (isTree.letters h) _ _ ) (Nat.le_of_ble_eq_true rfl) (Nat.le_of_ble_eq_true rfl) d_Tree_derivePair_91 ?_
    refine r_S1 f_Ops_canTrap w_473 (c_Ops_canTrap _ _ ) (Nat.le_of_ble_eq_true rfl) (Nat.le_of_ble_eq_true rfl) d_Tree_derivePair_94 ?_
    refine r_if_ne 116 d_Tree_derivePair_97 (by decide) (fun h_97 => ?_) (fun h_97 => ?_)
    · skip
      refine r_iconst 1 d_Tree_derivePair_116 ic_1 ?_
      refine r_goto 121 d_Tree_derivePair_117 (by decide) ?_
      refine r_istore d_Tree_derivePair_121 (Nat.le_of_ble_eq_true rfl) rfl ?_
      refine r_aload_n (i := 0) d_Tree_derivePair_123 rfl rfl ?_
      refine r_getr nf_Tree_35 h.1 rfl d_Tree_derivePair_124 ?_
      refine r_iload_n (i := 1) d_Tree_derivePair_127 rfl rfl ?_
      refine r_iload d_Tree_derivePair_128 rfl ?_
      refine r_if_eq 137 d_Tree_derivePair_130 (by decide) (fun h_130 => ?_) (fun h_130 => ?_)
      · exact absurd h_130 (by decide)
      · skip
        refine r_iconst 1 d_Tree_derivePair_133 ic_1 ?_
        refine r_goto 138 d_Tree_derivePair_134 (by decide) ?_
        refine r_V2 v_Row_put w_406 (isTree.traps h).1 (c_Row_put (isTree.traps h) _ _ _ ) (Nat.le_of_ble_eq_true rfl) (Nat.le_of_ble_eq_true rfl) d_Tree_derivePair_138 ?_
        refine r_aload_n (i := 0) d_Tree_derivePair_141 rfl rfl ?_
        refine r_getr nf_Tree_38 h.1 rfl d_Tree_derivePair_142 ?_
        refine r_iload_n (i := 1) d_Tree_derivePair_145 rfl rfl ?_
        refine r_aload_n (i := 0) d_Tree_derivePair_146 rfl rfl ?_
        refine r_getr nf_Tree_38 h.1 rfl d_Tree_derivePair_147 ?_
        refine r_iload_n (i := 2) d_Tree_derivePair_150 rfl rfl ?_
        refine r_V1 v_Row_get w_442 (isTree.spans h).1 (c_Row_get (isTree.spans h) _ _ ) (Nat.le_of_ble_eq_true rfl) (Nat.le_of_ble_eq_true rfl) d_Tree_derivePair_151 ?_
        refine r_aload_n (i := 0) d_Tree_derivePair_154 rfl rfl ?_
        refine r_getr nf_Tree_38 h.1 rfl d_Tree_derivePair_155 ?_
        refine r_iload_n (i := 3) d_Tree_derivePair_158 rfl rfl ?_
        refine r_V1 v_Row_get w_442 (isTree.spans h).1 (c_Row_get (isTree.spans h) _ _ ) (Nat.le_of_ble_eq_true rfl) (Nat.le_of_ble_eq_true rfl) d_Tree_derivePair_159 ?_
        refine r_iadd d_Tree_derivePair_162 ?_
        refine r_iconst 1 d_Tree_derivePair_163 ic_1 ?_
        refine r_iadd d_Tree_derivePair_164 ?_
        refine r_V2 v_Row_put w_406 (isTree.spans h).1 (c_Row_put (isTree.spans h) _ _ _ ) (Nat.le_of_ble_eq_true rfl) (Nat.le_of_ble_eq_true rfl) d_Tree_derivePair_165 ?_
        refine r_vret rfl d_Tree_derivePair_168 ?_
        refine ⟨rfl, ?_⟩
        simp (disch := omega) only [ms_same, ms_ne, rg_nI, rp_nI, bI_t, bI_f, beq_iff_eq, beq_eq_false_iff_ne, ne_eq, Decidable.not_not, Bool.not_eq_false, Bool.not_eq_true, decide_eq_true_eq, decide_eq_false_iff_not] at *
        first
          | exact absurd h_130 (by decide)
          | (unfold dpM
             try simp (disch := omega) only [ms_same, ms_ne, rg_nI, rp_nI, ms_ms]
             simp [jI, bI, *]
             try (funext c
                  simp only [ms]
                  by_cases e0 : c = t + 10 <;> by_cases e1 : c = t + 12 <;> simp_all))
    · skip
      refine r_aload_n (i := 0) d_Tree_derivePair_100 rfl rfl ?_
      refine r_iload_n (i := 2) d_Tree_derivePair_101 rfl rfl ?_
      refine r_V1 v_Tree_mayTrap w_476 h.1 (c_Tree_mayTrap h _ _ ) (Nat.le_of_ble_eq_true rfl) (Nat.le_of_ble_eq_true rfl) d_Tree_derivePair_102 ?_
      refine r_if_ne 116 d_Tree_derivePair_105 (by decide) (fun h_105 => ?_) (fun h_105 => ?_)
      · skip
        refine r_iconst 1 d_Tree_derivePair_116 ic_1 ?_
        refine r_goto 121 d_Tree_derivePair_117 (by decide) ?_
        refine r_istore d_Tree_derivePair_121 (Nat.le_of_ble_eq_true rfl) rfl ?_
        refine r_aload_n (i := 0) d_Tree_derivePair_123 rfl rfl ?_
        refine r_getr nf_Tree_35 h.1 rfl d_Tree_derivePair_124 ?_
        refine r_iload_n (i := 1) d_Tree_derivePair_127 rfl rfl ?_
        refine r_iload d_Tree_derivePair_128 rfl ?_
        refine r_if_eq 137 d_Tree_derivePair_130 (by decide) (fun h_130 => ?_) (fun h_130 => ?_)
        · exact absurd h_130 (by decide)
        · skip
          refine r_iconst 1 d_Tree_derivePair_133 ic_1 ?_
          refine r_goto 138 d_Tree_derivePair_134 (by decide) ?_
          refine r_V2 v_Row_put w_406 (isTree.traps h).1 (c_Row_put (isTree.traps h) _ _ _ ) (Nat.le_of_ble_eq_true rfl) (Nat.le_of_ble_eq_true rfl) d_Tree_derivePair_138 ?_
          refine r_aload_n (i := 0) d_Tree_derivePair_141 rfl rfl ?_
          refine r_getr nf_Tree_38 h.1 rfl d_Tree_derivePair_142 ?_
          refine r_iload_n (i := 1) d_Tree_derivePair_145 rfl rfl ?_
          refine r_aload_n (i := 0) d_Tree_derivePair_146 rfl rfl ?_
          refine r_getr nf_Tree_38 h.1 rfl d_Tree_derivePair_147 ?_
          refine r_iload_n (i := 2) d_Tree_derivePair_150 rfl rfl ?_
          refine r_V1 v_Row_get w_442 (isTree.spans h).1 (c_Row_get (isTree.spans h) _ _ ) (Nat.le_of_ble_eq_true rfl) (Nat.le_of_ble_eq_true rfl) d_Tree_derivePair_151 ?_
          refine r_aload_n (i := 0) d_Tree_derivePair_154 rfl rfl ?_
          refine r_getr nf_Tree_38 h.1 rfl d_Tree_derivePair_155 ?_
          refine r_iload_n (i := 3) d_Tree_derivePair_158 rfl rfl ?_
          refine r_V1 v_Row_get w_442 (isTree.spans h).1 (c_Row_get (isTree.spans h) _ _ ) (Nat.le_of_ble_eq_true rfl) (Nat.le_of_ble_eq_true rfl) d_Tree_derivePair_159 ?_
          refine r_iadd d_Tree_derivePair_162 ?_
          refine r_iconst 1 d_Tree_derivePair_163 ic_1 ?_
          refine r_iadd d_Tree_derivePair_164 ?_
          refine r_V2 v_Row_put w_406 (isTree.spans h).1 (c_Row_put (isTree.spans h) _ _ _ ) (Nat.le_of_ble_eq_true rfl) (Nat.le_of_ble_eq_true rfl) d_Tree_derivePair_165 ?_
          refine r_vret rfl d_Tree_derivePair_168 ?_
          refine ⟨rfl, ?_⟩
          simp (disch := omega) only [ms_same, ms_ne, rg_nI, rp_nI, bI_t, bI_f, beq_iff_eq, beq_eq_false_iff_ne, ne_eq, Decidable.not_not, Bool.not_eq_false, Bool.not_eq_true, decide_eq_true_eq, decide_eq_false_iff_not] at *
          first
            | exact absurd h_130 (by decide)
            | (unfold dpM
               try simp (disch := omega) only [ms_same, ms_ne, rg_nI, rp_nI, ms_ms]
               simp [jI, bI, *]
               try (funext c
                    simp only [ms]
                    by_cases e0 : c = t + 10 <;> by_cases e1 : c = t + 12 <;> simp_all))
      · skip
        refine r_aload_n (i := 0) d_Tree_derivePair_108 rfl rfl ?_
        refine r_iload_n (i := 3) d_Tree_derivePair_109 rfl rfl ?_
        refine r_V1 v_Tree_mayTrap w_476 h.1 (c_Tree_mayTrap h _ _ ) (Nat.le_of_ble_eq_true rfl) (Nat.le_of_ble_eq_true rfl) d_Tree_derivePair_110 ?_
        refine r_if_eq 120 d_Tree_derivePair_113 (by decide) (fun h_113 => ?_) (fun h_113 => ?_)
        · skip
          refine r_iconst 0 d_Tree_derivePair_120 ic_0 ?_
          refine r_istore d_Tree_derivePair_121 (Nat.le_of_ble_eq_true rfl) rfl ?_
          refine r_aload_n (i := 0) d_Tree_derivePair_123 rfl rfl ?_
          refine r_getr nf_Tree_35 h.1 rfl d_Tree_derivePair_124 ?_
          refine r_iload_n (i := 1) d_Tree_derivePair_127 rfl rfl ?_
          refine r_iload d_Tree_derivePair_128 rfl ?_
          refine r_if_eq 137 d_Tree_derivePair_130 (by decide) (fun h_130 => ?_) (fun h_130 => ?_)
          · skip
            refine r_iconst 0 d_Tree_derivePair_137 ic_0 ?_
            refine r_V2 v_Row_put w_406 (isTree.traps h).1 (c_Row_put (isTree.traps h) _ _ _ ) (Nat.le_of_ble_eq_true rfl) (Nat.le_of_ble_eq_true rfl) d_Tree_derivePair_138 ?_
            refine r_aload_n (i := 0) d_Tree_derivePair_141 rfl rfl ?_
            refine r_getr nf_Tree_38 h.1 rfl d_Tree_derivePair_142 ?_
            refine r_iload_n (i := 1) d_Tree_derivePair_145 rfl rfl ?_
            refine r_aload_n (i := 0) d_Tree_derivePair_146 rfl rfl ?_
            refine r_getr nf_Tree_38 h.1 rfl d_Tree_derivePair_147 ?_
            refine r_iload_n (i := 2) d_Tree_derivePair_150 rfl rfl ?_
            refine r_V1 v_Row_get w_442 (isTree.spans h).1 (c_Row_get (isTree.spans h) _ _ ) (Nat.le_of_ble_eq_true rfl) (Nat.le_of_ble_eq_true rfl) d_Tree_derivePair_151 ?_
            refine r_aload_n (i := 0) d_Tree_derivePair_154 rfl rfl ?_
            refine r_getr nf_Tree_38 h.1 rfl d_Tree_derivePair_155 ?_
            refine r_iload_n (i := 3) d_Tree_derivePair_158 rfl rfl ?_
            refine r_V1 v_Row_get w_442 (isTree.spans h).1 (c_Row_get (isTree.spans h) _ _ ) (Nat.le_of_ble_eq_true rfl) (Nat.le_of_ble_eq_true rfl) d_Tree_derivePair_159 ?_
            refine r_iadd d_Tree_derivePair_162 ?_
            refine r_iconst 1 d_Tree_derivePair_163 ic_1 ?_
            refine r_iadd d_Tree_derivePair_164 ?_
            refine r_V2 v_Row_put w_406 (isTree.spans h).1 (c_Row_put (isTree.spans h) _ _ _ ) (Nat.le_of_ble_eq_true rfl) (Nat.le_of_ble_eq_true rfl) d_Tree_derivePair_165 ?_
            refine r_vret rfl d_Tree_derivePair_168 ?_
            refine ⟨rfl, ?_⟩
            simp (disch := omega) only [ms_same, ms_ne, rg_nI, rp_nI, bI_t, bI_f, beq_iff_eq, beq_eq_false_iff_ne, ne_eq, Decidable.not_not, Bool.not_eq_false, Bool.not_eq_true, decide_eq_true_eq, decide_eq_false_iff_not] at *
            first
              | exact absurd h_130 (by decide)
              | (unfold dpM
                 try simp (disch := omega) only [ms_same, ms_ne, rg_nI, rp_nI, ms_ms]
                 simp [jI, bI, *]
                 try (funext c
                      simp only [ms]
                      by_cases e0 : c = t + 10 <;> by_cases e1 : c = t + 12 <;> simp_all))
          · exact absurd h_130 (by decide)
        · skip
          refine r_iconst 1 d_Tree_derivePair_116 ic_1 ?_
          refine r_goto 121 d_Tree_derivePair_117 (by decide) ?_
          refine r_istore d_Tree_derivePair_121 (Nat.le_of_ble_eq_true rfl) rfl ?_
          refine r_aload_n (i := 0) d_Tree_derivePair_123 rfl rfl ?_
          refine r_getr nf_Tree_35 h.1 rfl d_Tree_derivePair_124 ?_
          refine r_iload_n (i := 1) d_Tree_derivePair_127 rfl rfl ?_
          refine r_iload d_Tree_derivePair_128 rfl ?_
          refine r_if_eq 137 d_Tree_derivePair_130 (by decide) (fun h_130 => ?_) (fun h_130 => ?_)
          · exact absurd h_130 (by decide)
          · skip
            refine r_iconst 1 d_Tree_derivePair_133 ic_1 ?_
            refine r_goto 138 d_Tree_derivePair_134 (by decide) ?_
            refine r_V2 v_Row_put w_406 (isTree.traps h).1 (c_Row_put (isTree.traps h) _ _ _ ) (Nat.le_of_ble_eq_true rfl) (Nat.le_of_ble_eq_true rfl) d_Tree_derivePair_138 ?_
            refine r_aload_n (i := 0) d_Tree_derivePair_141 rfl rfl ?_
            refine r_getr nf_Tree_38 h.1 rfl d_Tree_derivePair_142 ?_
            refine r_iload_n (i := 1) d_Tree_derivePair_145 rfl rfl ?_
            refine r_aload_n (i := 0) d_Tree_derivePair_146 rfl rfl ?_
            refine r_getr nf_Tree_38 h.1 rfl d_Tree_derivePair_147 ?_
            refine r_iload_n (i := 2) d_Tree_derivePair_150 rfl rfl ?_
            refine r_V1 v_Row_get w_442 (isTree.spans h).1 (c_Row_get (isTree.spans h) _ _ ) (Nat.le_of_ble_eq_true rfl) (Nat.le_of_ble_eq_true rfl) d_Tree_derivePair_151 ?_
            refine r_aload_n (i := 0) d_Tree_derivePair_154 rfl rfl ?_
            refine r_getr nf_Tree_38 h.1 rfl d_Tree_derivePair_155 ?_
            refine r_iload_n (i := 3) d_Tree_derivePair_158 rfl rfl ?_
            refine r_V1 v_Row_get w_442 (isTree.spans h).1 (c_Row_get (isTree.spans h) _ _ ) (Nat.le_of_ble_eq_true rfl) (Nat.le_of_ble_eq_true rfl) d_Tree_derivePair_159 ?_
            refine r_iadd d_Tree_derivePair_162 ?_
            refine r_iconst 1 d_Tree_derivePair_163 ic_1 ?_
            refine r_iadd d_Tree_derivePair_164 ?_
            refine r_V2 v_Row_put w_406 (isTree.spans h).1 (c_Row_put (isTree.spans h) _ _ _ ) (Nat.le_of_ble_eq_true rfl) (Nat.le_of_ble_eq_true rfl) d_Tree_derivePair_165 ?_
            refine r_vret rfl d_Tree_derivePair_168 ?_
            refine ⟨rfl, ?_⟩
            simp (disch := omega) only [ms_same, ms_ne, rg_nI, rp_nI, bI_t, bI_f, beq_iff_eq, beq_eq_false_iff_ne, ne_eq, Decidable.not_not, Bool.not_eq_false, Bool.not_eq_true, decide_eq_true_eq, decide_eq_false_iff_not] at *
            first
              | exact absurd h_130 (by decide)
              | (unfold dpM
                 try simp (disch := omega) only [ms_same, ms_ne, rg_nI, rp_nI, ms_ms]
                 simp [jI, bI, *]
                 try (funext c
                      simp only [ms]
                      by_cases e0 : c = t + 10 <;> by_cases e1 : c = t + 12 <;> simp_all))

end MTree2
