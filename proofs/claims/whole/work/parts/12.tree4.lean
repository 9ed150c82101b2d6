-- Tree: copy, turn
def apt (t t2 : Nat) : Prop := t + 18 < t2 ∨ t2 + 18 < t
def TCp (t t2 : Nat) (M N : nw_M) : Prop := (∀ c, (c < t ∨ t + 18 < c) → N c = M c) ∧ N t = upd (M t) 9 (M t2 9) ∧ N (t + 2) = cp 31 (M (t2 + 2)) (M (t + 2)) ∧ N (t + 4) = cp 31 (M (t2 + 4)) (M (t + 4)) ∧ N (t + 6) = cp 31 (M (t2 + 6)) (M (t + 6)) ∧ N (t + 8) = cp 31 (M (t2 + 8)) (M (t + 8)) ∧ N (t + 10) = cp 31 (M (t2 + 10)) (M (t + 10)) ∧ N (t + 12) = cp 31 (M (t2 + 12)) (M (t + 12)) ∧ N (t + 14) = cp 31 (M (t2 + 14)) (M (t + 14)) ∧ N (t + 16) = cp 31 (M (t2 + 16)) (M (t + 16)) ∧ N (t + 18) = cp 31 (M (t2 + 18)) (M (t + 18))
def sh9 (x sh : Int32) : Int32 := if x = -9 then -9 else x + sh
section MTree4
variable {G : nw_G}
set_option maxHeartbeats 1000000 in
theorem c_Tree_copy {t t2 : Nat} (h : isTree t) (h2 : isTree t2) (M : nw_M) (ha : apt t t2) : CJ G LC m_Tree_copy 3 [.ref (G.2.2 t), .ref (G.2.2 t2)] M (fun v N => v = none ∧ TCp t t2 M N) := by
  refine CJ_of (by decide) rfl (Nat.le_of_ble_eq_true rfl) ?_
  refine r_aload_n (i := 0) d_Tree_copy_0 rfl rfl ?_
  refine r_getr nf_Tree_14 h.1 rfl d_Tree_copy_1 ?_
  refine r_aload_n (i := 1) d_Tree_copy_4 rfl rfl ?_
  refine r_getr nf_Tree_14 h2.1 rfl d_Tree_copy_5 ?_
  refine r_V1 v_Row_copy w_500 (isTree.letters h).1 (c_Row_copy (isTree.letters h) (isTree.letters h2) _ ) (Nat.le_of_ble_eq_true rfl) (Nat.le_of_ble_eq_true rfl) d_Tree_copy_8 ?_
  refine r_aload_n (i := 0) d_Tree_copy_11 rfl rfl ?_
  refine r_getr nf_Tree_20 h.1 rfl d_Tree_copy_12 ?_
  refine r_aload_n (i := 1) d_Tree_copy_15 rfl rfl ?_
  refine r_getr nf_Tree_20 h2.1 rfl d_Tree_copy_16 ?_
  refine r_V1 v_Row_copy w_500 (isTree.numbers h).1 (c_Row_copy (isTree.numbers h) (isTree.numbers h2) _ ) (Nat.le_of_ble_eq_true rfl) (Nat.le_of_ble_eq_true rfl) d_Tree_copy_19 ?_
  refine r_aload_n (i := 0) d_Tree_copy_22 rfl rfl ?_
  refine r_getr nf_Tree_23 h.1 rfl d_Tree_copy_23 ?_
  refine r_aload_n (i := 1) d_Tree_copy_26 rfl rfl ?_
  refine r_getr nf_Tree_23 h2.1 rfl d_Tree_copy_27 ?_
  refine r_V1 v_Row_copy w_500 (isTree.lefts h).1 (c_Row_copy (isTree.lefts h) (isTree.lefts h2) _ ) (Nat.le_of_ble_eq_true rfl) (Nat.le_of_ble_eq_true rfl) d_Tree_copy_30 ?_
  refine r_aload_n (i := 0) d_Tree_copy_33 rfl rfl ?_
  refine r_getr nf_Tree_26 h.1 rfl d_Tree_copy_34 ?_
  refine r_aload_n (i := 1) d_Tree_copy_37 rfl rfl ?_
  refine r_getr nf_Tree_26 h2.1 rfl d_Tree_copy_38 ?_
  refine r_V1 v_Row_copy w_500 (isTree.rights h).1 (c_Row_copy (isTree.rights h) (isTree.rights h2) _ ) (Nat.le_of_ble_eq_true rfl) (Nat.le_of_ble_eq_true rfl) d_Tree_copy_41 ?_
  refine r_aload_n (i := 0) d_Tree_copy_44 rfl rfl ?_
  refine r_getr nf_Tree_29 h.1 rfl d_Tree_copy_45 ?_
  refine r_aload_n (i := 1) d_Tree_copy_48 rfl rfl ?_
  refine r_getr nf_Tree_29 h2.1 rfl d_Tree_copy_49 ?_
  refine r_V1 v_Row_copy w_500 (isTree.needs h).1 (c_Row_copy (isTree.needs h) (isTree.needs h2) _ ) (Nat.le_of_ble_eq_true rfl) (Nat.le_of_ble_eq_true rfl) d_Tree_copy_52 ?_
  refine r_aload_n (i := 0) d_Tree_copy_55 rfl rfl ?_
  refine r_getr nf_Tree_32 h.1 rfl d_Tree_copy_56 ?_
  refine r_aload_n (i := 1) d_Tree_copy_59 rfl rfl ?_
  refine r_getr nf_Tree_32 h2.1 rfl d_Tree_copy_60 ?_
  refine r_V1 v_Row_copy w_500 (isTree.leasts h).1 (c_Row_copy (isTree.leasts h) (isTree.leasts h2) _ ) (Nat.le_of_ble_eq_true rfl) (Nat.le_of_ble_eq_true rfl) d_Tree_copy_63 ?_
  refine r_aload_n (i := 0) d_Tree_copy_66 rfl rfl ?_
  refine r_getr nf_Tree_35 h.1 rfl d_Tree_copy_67 ?_
  refine r_aload_n (i := 1) d_Tree_copy_70 rfl rfl ?_
  refine r_getr nf_Tree_35 h2.1 rfl d_Tree_copy_71 ?_
  refine r_V1 v_Row_copy w_500 (isTree.traps h).1 (c_Row_copy (isTree.traps h) (isTree.traps h2) _ ) (Nat.le_of_ble_eq_true rfl) (Nat.le_of_ble_eq_true rfl) d_Tree_copy_74 ?_
  refine r_aload_n (i := 0) d_Tree_copy_77 rfl rfl ?_
  refine r_getr nf_Tree_38 h.1 rfl d_Tree_copy_78 ?_
  refine r_aload_n (i := 1) d_Tree_copy_81 rfl rfl ?_
  refine r_getr nf_Tree_38 h2.1 rfl d_Tree_copy_82 ?_
  refine r_V1 v_Row_copy w_500 (isTree.spans h).1 (c_Row_copy (isTree.spans h) (isTree.spans h2) _ ) (Nat.le_of_ble_eq_true rfl) (Nat.le_of_ble_eq_true rfl) d_Tree_copy_85 ?_
  refine r_aload_n (i := 0) d_Tree_copy_88 rfl rfl ?_
  refine r_getr nf_Tree_41 h.1 rfl d_Tree_copy_89 ?_
  refine r_aload_n (i := 1) d_Tree_copy_92 rfl rfl ?_
  refine r_getr nf_Tree_41 h2.1 rfl d_Tree_copy_93 ?_
  refine r_V1 v_Row_copy w_500 (isTree.alikes h).1 (c_Row_copy (isTree.alikes h) (isTree.alikes h2) _ ) (Nat.le_of_ble_eq_true rfl) (Nat.le_of_ble_eq_true rfl) d_Tree_copy_96 ?_
  refine r_aload_n (i := 0) d_Tree_copy_99 rfl rfl ?_
  refine r_aload_n (i := 1) d_Tree_copy_100 rfl rfl ?_
  refine r_geti nf_Tree_44 h2.1 rfl d_Tree_copy_101 ?_
  refine r_puti nf_Tree_44 nfin_Tree_9 h.1 rfl d_Tree_copy_104 ?_
  refine r_vret rfl d_Tree_copy_107 ?_
  refine ⟨rfl, ?_⟩
  unfold apt at ha
  simp (disch := omega) only [ms_same, ms_ne]
  unfold TCp
  refine ⟨fun c hc => ?_, ?_, ?_, ?_, ?_, ?_, ?_, ?_, ?_, ?_, ?_⟩
  all_goals simp (disch := omega) only [ms_same, ms_ne]

def mvM (M : nw_M) (t t2 f g : Nat) (sh : Int32) : nw_M := ms (ms (ms (ms M (t + 2) (upd (M (t + 2)) g (M (t2 + 2) f))) (t + 4) (upd (M (t + 4)) g (M (t2 + 4) f))) (t + 6) (upd (M (t + 6)) g (sh9 (M (t2 + 6) f) sh))) (t + 8) (upd (M (t + 8)) g (sh9 (M (t2 + 8) f) sh))
theorem c_Tree_move {t t2 : Nat} (h : isTree t) (h2 : isTree t2) (ha : apt t t2) (f g : Nat) (hf : f < 31) (hg : g < 31) (sh : Int32) (hsh : nI f + sh = nI g) (M : nw_M) : CF G LC m_Tree_move 1 [.ref (G.2.2 t), .ref (G.2.2 t2), .int (nI f), .int sh] M none (mvM M t t2 f g sh) := by
  refine CJ_of (by decide) rfl (Nat.le_of_ble_eq_true rfl) ?_
  refine r_aload_n (i := 1) d_Tree_move_0 rfl rfl ?_
  refine r_getr nf_Tree_23 h2.1 rfl d_Tree_move_1 ?_
  refine r_iload_n (i := 2) d_Tree_move_4 rfl rfl ?_
  refine r_V1 v_Row_get w_442 (isTree.lefts h2).1 (c_Row_get (isTree.lefts h2) _ _ ) (Nat.le_of_ble_eq_true rfl) (Nat.le_of_ble_eq_true rfl) d_Tree_move_5 ?_
  refine r_istore d_Tree_move_8 (Nat.le_of_ble_eq_true rfl) rfl ?_
  refine r_aload_n (i := 1) d_Tree_move_10 rfl rfl ?_
  refine r_getr nf_Tree_26 h2.1 rfl d_Tree_move_11 ?_
  refine r_iload_n (i := 2) d_Tree_move_14 rfl rfl ?_
  refine r_V1 v_Row_get w_442 (isTree.rights h2).1 (c_Row_get (isTree.rights h2) _ _ ) (Nat.le_of_ble_eq_true rfl) (Nat.le_of_ble_eq_true rfl) d_Tree_move_15 ?_
  refine r_istore d_Tree_move_18 (Nat.le_of_ble_eq_true rfl) rfl ?_
  refine r_aload_n (i := 0) d_Tree_move_20 rfl rfl ?_
  refine r_getr nf_Tree_14 h.1 rfl d_Tree_move_21 ?_
  refine r_iload_n (i := 2) d_Tree_move_24 rfl rfl ?_
  refine r_iload_n (i := 3) d_Tree_move_25 rfl rfl ?_
  refine r_iadd d_Tree_move_26 ?_
  refine r_aload_n (i := 1) d_Tree_move_27 rfl rfl ?_
  refine r_getr nf_Tree_14 h2.1 rfl d_Tree_move_28 ?_
  refine r_iload_n (i := 2) d_Tree_move_31 rfl rfl ?_
  refine r_V1 v_Row_get w_442 (isTree.letters h2).1 (c_Row_get (isTree.letters h2) _ _ ) (Nat.le_of_ble_eq_true rfl) (Nat.le_of_ble_eq_true rfl) d_Tree_move_32 ?_
  refine r_V2 v_Row_put w_406 (isTree.letters h).1 (c_Row_put (isTree.letters h) _ _ _ ) (Nat.le_of_ble_eq_true rfl) (Nat.le_of_ble_eq_true rfl) d_Tree_move_35 ?_
  refine r_aload_n (i := 0) d_Tree_move_38 rfl rfl ?_
  refine r_getr nf_Tree_20 h.1 rfl d_Tree_move_39 ?_
  refine r_iload_n (i := 2) d_Tree_move_42 rfl rfl ?_
  refine r_iload_n (i := 3) d_Tree_move_43 rfl rfl ?_
  refine r_iadd d_Tree_move_44 ?_
  refine r_aload_n (i := 1) d_Tree_move_45 rfl rfl ?_
  refine r_getr nf_Tree_20 h2.1 rfl d_Tree_move_46 ?_
  refine r_iload_n (i := 2) d_Tree_move_49 rfl rfl ?_
  refine r_V1 v_Row_get w_442 (isTree.numbers h2).1 (c_Row_get (isTree.numbers h2) _ _ ) (Nat.le_of_ble_eq_true rfl) (Nat.le_of_ble_eq_true rfl) d_Tree_move_50 ?_
  refine r_V2 v_Row_put w_406 (isTree.numbers h).1 (c_Row_put (isTree.numbers h) _ _ _ ) (Nat.le_of_ble_eq_true rfl) (Nat.le_of_ble_eq_true rfl) d_Tree_move_53 ?_
  refine r_aload_n (i := 0) d_Tree_move_56 rfl rfl ?_
  refine r_getr nf_Tree_23 h.1 rfl d_Tree_move_57 ?_
  refine r_iload_n (i := 2) d_Tree_move_60 rfl rfl ?_
  refine r_iload_n (i := 3) d_Tree_move_61 rfl rfl ?_
  refine r_iadd d_Tree_move_62 ?_
  refine r_iload d_Tree_move_63 rfl ?_
  refine r_bipush (-9) d_Tree_move_65 bp_m9 ?_
  refine r_icmp_ne 75 d_Tree_move_67 (by decide) (fun h_67 => ?_) (fun h_67 => ?_)
  · skip
    refine r_iload d_Tree_move_75 rfl ?_
    refine r_iload_n (i := 3) d_Tree_move_77 rfl rfl ?_
    refine r_iadd d_Tree_move_78 ?_
    refine r_V2 v_Row_put w_406 (isTree.lefts h).1 (c_Row_put (isTree.lefts h) _ _ _ ) (Nat.le_of_ble_eq_true rfl) (Nat.le_of_ble_eq_true rfl) d_Tree_move_79 ?_
    refine r_aload_n (i := 0) d_Tree_move_82 rfl rfl ?_
    refine r_getr nf_Tree_26 h.1 rfl d_Tree_move_83 ?_
    refine r_iload_n (i := 2) d_Tree_move_86 rfl rfl ?_
    refine r_iload_n (i := 3) d_Tree_move_87 rfl rfl ?_
    refine r_iadd d_Tree_move_88 ?_
    refine r_iload d_Tree_move_89 rfl ?_
    refine r_bipush (-9) d_Tree_move_91 bp_m9 ?_
    refine r_icmp_ne 101 d_Tree_move_93 (by decide) (fun h_93 => ?_) (fun h_93 => ?_)
    · skip
      refine r_iload d_Tree_move_101 rfl ?_
      refine r_iload_n (i := 3) d_Tree_move_103 rfl rfl ?_
      refine r_iadd d_Tree_move_104 ?_
      refine r_V2 v_Row_put w_406 (isTree.rights h).1 (c_Row_put (isTree.rights h) _ _ _ ) (Nat.le_of_ble_eq_true rfl) (Nat.le_of_ble_eq_true rfl) d_Tree_move_105 ?_
      refine r_vret rfl d_Tree_move_108 ?_
      refine ⟨rfl, ?_⟩
      unfold apt at ha
      simp (disch := omega) only [ms_same, ms_ne, rg_nI, hsh, rp_nI] at *
      unfold mvM
      simp [sh9, *]
    · skip
      refine r_bipush (-9) d_Tree_move_96 bp_m9 ?_
      refine r_goto 105 d_Tree_move_98 (by decide) ?_
      refine r_V2 v_Row_put w_406 (isTree.rights h).1 (c_Row_put (isTree.rights h) _ _ _ ) (Nat.le_of_ble_eq_true rfl) (Nat.le_of_ble_eq_true rfl) d_Tree_move_105 ?_
      refine r_vret rfl d_Tree_move_108 ?_
      refine ⟨rfl, ?_⟩
      unfold apt at ha
      simp (disch := omega) only [ms_same, ms_ne, rg_nI, hsh, rp_nI] at *
      unfold mvM
      simp [sh9, *]
  · skip
    refine r_bipush (-9) d_Tree_move_70 bp_m9 ?_
    refine r_goto 79 d_Tree_move_72 (by decide) ?_
    refine r_V2 v_Row_put w_406 (isTree.lefts h).1 (c_Row_put (isTree.lefts h) _ _ _ ) (Nat.le_of_ble_eq_true rfl) (Nat.le_of_ble_eq_true rfl) d_Tree_move_79 ?_
    refine r_aload_n (i := 0) d_Tree_move_82 rfl rfl ?_
    refine r_getr nf_Tree_26 h.1 rfl d_Tree_move_83 ?_
    refine r_iload_n (i := 2) d_Tree_move_86 rfl rfl ?_
    refine r_iload_n (i := 3) d_Tree_move_87 rfl rfl ?_
    refine r_iadd d_Tree_move_88 ?_
    refine r_iload d_Tree_move_89 rfl ?_
    refine r_bipush (-9) d_Tree_move_91 bp_m9 ?_
    refine r_icmp_ne 101 d_Tree_move_93 (by decide) (fun h_93 => ?_) (fun h_93 => ?_)
    · skip
      refine r_iload d_Tree_move_101 rfl ?_
      refine r_iload_n (i := 3) d_Tree_move_103 rfl rfl ?_
      refine r_iadd d_Tree_move_104 ?_
      refine r_V2 v_Row_put w_406 (isTree.rights h).1 (c_Row_put (isTree.rights h) _ _ _ ) (Nat.le_of_ble_eq_true rfl) (Nat.le_of_ble_eq_true rfl) d_Tree_move_105 ?_
      refine r_vret rfl d_Tree_move_108 ?_
      refine ⟨rfl, ?_⟩
      unfold apt at ha
      simp (disch := omega) only [ms_same, ms_ne, rg_nI, hsh, rp_nI] at *
      unfold mvM
      simp [sh9, *]
    · skip
      refine r_bipush (-9) d_Tree_move_96 bp_m9 ?_
      refine r_goto 105 d_Tree_move_98 (by decide) ?_
      refine r_V2 v_Row_put w_406 (isTree.rights h).1 (c_Row_put (isTree.rights h) _ _ _ ) (Nat.le_of_ble_eq_true rfl) (Nat.le_of_ble_eq_true rfl) d_Tree_move_105 ?_
      refine r_vret rfl d_Tree_move_108 ?_
      refine ⟨rfl, ?_⟩
      unfold apt at ha
      simp (disch := omega) only [ms_same, ms_ne, rg_nI, hsh, rp_nI] at *
      unfold mvM
      simp [sh9, *]

def pt (b g : Nat → Int32) (lo n : Nat) : Nat → Int32 := fun q => if lo ≤ q ∧ q < lo + n then g (q - lo) else b q
theorem pt_0 (b g : Nat → Int32) (lo : Nat) : pt b g lo 0 = b := by funext q; simp only [pt]; rw [if_neg (by omega)]
theorem pt_s (b g : Nat → Int32) (lo n : Nat) {x : Int32} (hx : x = g n) : upd (pt b g lo n) (lo + n) x = pt b g lo (n + 1) := by
  funext q
  simp only [upd, pt]
  by_cases e : q = lo + n
  · subst e
    rw [if_pos rfl, if_pos (by omega), hx, show lo + n - lo = n by omega]
  · rw [if_neg e]
    by_cases e2 : lo ≤ q ∧ q < lo + n
    · rw [if_pos e2, if_pos (by omega)]
    · rw [if_neg e2, if_neg (by omega)]
theorem nI_sub1 {a b : Nat} (h : b ≤ a + 1) : nI a - nI b + 1 = nI (a + 1 - b) := by
  rw [← pk_sub h, ← nI_1, Int32.sub_eq_add_neg, Int32.sub_eq_add_neg, Int32.add_assoc, Int32.add_assoc, Int32.add_comm (-nI b) 1]
theorem nI_neg {a b : Nat} (h : b ≤ a) : nI a + -nI b = nI (a - b) := by rw [← Int32.sub_eq_add_neg, pk_sub h]
/-- the rows of a tree whose operands at k have changed places: f0 the first NODE, zl zr how many the left, the right one has -/
def xa (f0 zl zr : Nat) (a : Nat → Int32) : Nat → Int32 := pt (pt a (fun d => a (f0 + d)) (f0 + zr) zl) (fun d => a (f0 + zl + d)) f0 zr
def xb (f0 zl zr : Nat) (a : Nat → Int32) : Nat → Int32 := pt (pt a (fun d => sh9 (a (f0 + d)) (nI zr)) (f0 + zr) zl) (fun d => sh9 (a (f0 + zl + d)) (-nI zl)) f0 zr
/-- while they are moved: i of the left part, j of the right one -/
def TI (t f0 zl zr i j : Nat) (M1 N : nw_M) : Prop := (∀ c, c ≠ t + 2 → c ≠ t + 4 → c ≠ t + 6 → c ≠ t + 8 → N c = M1 c) ∧
  N (t + 2) = pt (pt (M1 (t + 2)) (fun d => M1 (t + 2) (f0 + d)) (f0 + zr) i) (fun d => M1 (t + 2) (f0 + zl + d)) f0 j ∧
  N (t + 4) = pt (pt (M1 (t + 4)) (fun d => M1 (t + 4) (f0 + d)) (f0 + zr) i) (fun d => M1 (t + 4) (f0 + zl + d)) f0 j ∧
  N (t + 6) = pt (pt (M1 (t + 6)) (fun d => sh9 (M1 (t + 6) (f0 + d)) (nI zr)) (f0 + zr) i) (fun d => sh9 (M1 (t + 6) (f0 + zl + d)) (-nI zl)) f0 j ∧
  N (t + 8) = pt (pt (M1 (t + 8)) (fun d => sh9 (M1 (t + 8) (f0 + d)) (nI zr)) (f0 + zr) i) (fun d => sh9 (M1 (t + 8) (f0 + zl + d)) (-nI zl)) f0 j
theorem TI_left {t t2 f0 zl zr i : Nat} {M1 N : nw_M} (ha : apt t t2) (h : TI t f0 zl zr i 0 M1 N) (h2 : M1 (t2 + 2) (f0 + i) = M1 (t + 2) (f0 + i)) (h4 : M1 (t2 + 4) (f0 + i) = M1 (t + 4) (f0 + i)) (h6 : M1 (t2 + 6) (f0 + i) = M1 (t + 6) (f0 + i)) (h8 : M1 (t2 + 8) (f0 + i) = M1 (t + 8) (f0 + i)) : TI t f0 zl zr (i + 1) 0 M1 (mvM N t t2 (f0 + i) (f0 + zr + i) (nI zr)) := by
  unfold apt at ha
  obtain ⟨a1, a2, a3, a4, a5⟩ := h
  have b2 : N (t2 + 2) = M1 (t2 + 2) := a1 _ (by omega) (by omega) (by omega) (by omega)
  have b4 : N (t2 + 4) = M1 (t2 + 4) := a1 _ (by omega) (by omega) (by omega) (by omega)
  have b6 : N (t2 + 6) = M1 (t2 + 6) := a1 _ (by omega) (by omega) (by omega) (by omega)
  have b8 : N (t2 + 8) = M1 (t2 + 8) := a1 _ (by omega) (by omega) (by omega) (by omega)
  simp only [pt_0] at a2 a3 a4 a5
  unfold mvM
  refine ⟨fun c c1 c2 c3 c4 => by simp only [ms, c1, c2, c3, c4, if_false]; exact a1 c c1 c2 c3 c4, ?_, ?_, ?_, ?_⟩
  all_goals simp (disch := omega) only [ms_same, ms_ne, pt_0]
  · rw [a2, b2, h2, pt_s _ _ _ _ rfl]
  · rw [a3, b4, h4, pt_s _ _ _ _ rfl]
  · rw [a4, b6, h6, pt_s _ _ _ _ rfl]
  · rw [a5, b8, h8, pt_s _ _ _ _ rfl]
theorem TI_right {t t2 f0 zl zr j : Nat} {M1 N : nw_M} (ha : apt t t2) (h : TI t f0 zl zr zl j M1 N) (h2 : M1 (t2 + 2) (f0 + zl + j) = M1 (t + 2) (f0 + zl + j)) (h4 : M1 (t2 + 4) (f0 + zl + j) = M1 (t + 4) (f0 + zl + j)) (h6 : M1 (t2 + 6) (f0 + zl + j) = M1 (t + 6) (f0 + zl + j)) (h8 : M1 (t2 + 8) (f0 + zl + j) = M1 (t + 8) (f0 + zl + j)) : TI t f0 zl zr zl (j + 1) M1 (mvM N t t2 (f0 + zl + j) (f0 + j) (-nI zl)) := by
  unfold apt at ha
  obtain ⟨a1, a2, a3, a4, a5⟩ := h
  have b2 : N (t2 + 2) = M1 (t2 + 2) := a1 _ (by omega) (by omega) (by omega) (by omega)
  have b4 : N (t2 + 4) = M1 (t2 + 4) := a1 _ (by omega) (by omega) (by omega) (by omega)
  have b6 : N (t2 + 6) = M1 (t2 + 6) := a1 _ (by omega) (by omega) (by omega) (by omega)
  have b8 : N (t2 + 8) = M1 (t2 + 8) := a1 _ (by omega) (by omega) (by omega) (by omega)
  unfold mvM
  refine ⟨fun c c1 c2 c3 c4 => by simp only [ms, c1, c2, c3, c4, if_false]; exact a1 c c1 c2 c3 c4, ?_, ?_, ?_, ?_⟩
  all_goals simp (disch := omega) only [ms_same, ms_ne]
  · rw [a2, b2, h2, pt_s _ _ _ _ rfl]
  · rw [a3, b4, h4, pt_s _ _ _ _ rfl]
  · rw [a4, b6, h6, pt_s _ _ _ _ rfl]
  · rw [a5, b8, h8, pt_s _ _ _ _ rfl]
theorem l_Tree_turn2 {t t2 : Nat} (h : isTree t) (h2 : isTree t2) (ha : apt t t2) {k L f0 zl zr : Nat} (hk : k < 31) (eL : L + 1 = f0 + zl) (ek : k = L + zr + 1) {M1 : nw_M} (e2 : ∀ q, q < 31 → M1 (t2 + 2) q = M1 (t + 2) q) (e4 : ∀ q, q < 31 → M1 (t2 + 4) q = M1 (t + 4) q) (e6 : ∀ q, q < 31 → M1 (t2 + 6) q = M1 (t + 6) q) (e8 : ∀ q, q < 31 → M1 (t2 + 8) q = M1 (t + 8) q) {P : Option Value → nw_M → Prop} (hP : ∀ (N : nw_M) (x : Int32), TI t f0 zl zr zl zr M1 N → RJ G LC m_Tree_turn 5 P 106 [some (.ref (G.2.2 t)), some (.int (nI k)), some (.ref (G.2.2 t2)), some (.int (nI L)), some (.int (nI (k - 1))), some (.int (nI zl)), some (.int (nI zr)), some (.int x)] [] N) : ∀ (m i : Nat) (N : nw_M), i + m = zr → TI t f0 zl zr zl i M1 N → RJ G LC m_Tree_turn 5 P 83 [some (.ref (G.2.2 t)), some (.int (nI k)), some (.ref (G.2.2 t2)), some (.int (nI L)), some (.int (nI (k - 1))), some (.int (nI zl)), some (.int (nI zr)), some (.int (nI (f0 + zl + i)))] [] N := by
  intro m
  induction m with
  | zero =>
    intro i N hi hT
    simp only [Nat.add_zero] at hi
    subst hi
    refine r_iload d_Tree_turn_83 rfl ?_
    refine r_iload d_Tree_turn_85 rfl ?_
    refine r_icmp_gt 106 d_Tree_turn_87 (by decide) (fun _ => ?_) (fun h9 => absurd (nI_lt (by omega) (by omega)) h9)
    exact hP N _ hT
  | succ m ih =>
    intro i N hi hT
    refine r_iload d_Tree_turn_83 rfl ?_
    refine r_iload d_Tree_turn_85 rfl ?_
    refine r_icmp_gt 106 d_Tree_turn_87 (by decide) (fun h_87 => ?_) (fun h_87 => ?_)
    · skip
      exact absurd h_87 (nI_nlt (by omega) (by omega))
    · skip
      refine r_aload_n (i := 0) d_Tree_turn_90 rfl rfl ?_
      refine r_aload_n (i := 2) d_Tree_turn_91 rfl rfl ?_
      refine r_iload d_Tree_turn_92 rfl ?_
      refine r_iload d_Tree_turn_94 rfl ?_
      refine r_ineg d_Tree_turn_96 ?_
      refine r_V3 v_Tree_move w_726 h.1 (c_Tree_move h h2 ha (f0 + zl + i) (f0 + i) (by omega) (by omega) _ (by rw [nI_neg (by omega)]; congr 1; omega) _) (Nat.le_of_ble_eq_true rfl) (Nat.le_of_ble_eq_true rfl) d_Tree_turn_97 ?_
      refine r_iinc d_Tree_turn_100 rfl (nI_inc (f0 + zl + i)) (Nat.le_of_ble_eq_true rfl) rfl ?_
      refine r_goto 83 d_Tree_turn_103 (by decide) ?_
      exact ih (i + 1) _ (by omega) (TI_right ha hT (e2 _ (by omega)) (e4 _ (by omega)) (e6 _ (by omega)) (e8 _ (by omega)))

theorem l_Tree_turn1 {t t2 : Nat} (h : isTree t) (h2 : isTree t2) (ha : apt t t2) {k L f0 zl zr : Nat} (hk : k < 31) (eL : L + 1 = f0 + zl) (ek : k = L + zr + 1) {M1 : nw_M} (e2 : ∀ q, q < 31 → M1 (t2 + 2) q = M1 (t + 2) q) (e4 : ∀ q, q < 31 → M1 (t2 + 4) q = M1 (t + 4) q) (e6 : ∀ q, q < 31 → M1 (t2 + 6) q = M1 (t + 6) q) (e8 : ∀ q, q < 31 → M1 (t2 + 8) q = M1 (t + 8) q) {P : Option Value → nw_M → Prop} (hP : ∀ (N : nw_M) (x : Int32), TI t f0 zl zr zl 0 M1 N → RJ G LC m_Tree_turn 5 P 74 [some (.ref (G.2.2 t)), some (.int (nI k)), some (.ref (G.2.2 t2)), some (.int (nI L)), some (.int (nI (k - 1))), some (.int (nI zl)), some (.int (nI zr)), some (.int x)] [] N) : ∀ (m i : Nat) (N : nw_M), i + m = zl → TI t f0 zl zr i 0 M1 N → RJ G LC m_Tree_turn 5 P 53 [some (.ref (G.2.2 t)), some (.int (nI k)), some (.ref (G.2.2 t2)), some (.int (nI L)), some (.int (nI (k - 1))), some (.int (nI zl)), some (.int (nI zr)), some (.int (nI (f0 + i)))] [] N := by
  intro m
  induction m with
  | zero =>
    intro i N hi hT
    simp only [Nat.add_zero] at hi
    subst hi
    refine r_iload d_Tree_turn_53 rfl ?_
    refine r_iload_n (i := 3) d_Tree_turn_55 rfl rfl ?_
    refine r_icmp_gt 74 d_Tree_turn_56 (by decide) (fun _ => ?_) (fun h9 => absurd (nI_lt (by omega) (by omega)) h9)
    exact hP N _ hT
  | succ m ih =>
    intro i N hi hT
    refine r_iload d_Tree_turn_53 rfl ?_
    refine r_iload_n (i := 3) d_Tree_turn_55 rfl rfl ?_
    refine r_icmp_gt 74 d_Tree_turn_56 (by decide) (fun h_56 => ?_) (fun h_56 => ?_)
    · skip
      exact absurd h_56 (nI_nlt (by omega) (by omega))
    · skip
      refine r_aload_n (i := 0) d_Tree_turn_59 rfl rfl ?_
      refine r_aload_n (i := 2) d_Tree_turn_60 rfl rfl ?_
      refine r_iload d_Tree_turn_61 rfl ?_
      refine r_iload d_Tree_turn_63 rfl ?_
      refine r_V3 v_Tree_move w_726 h.1 (c_Tree_move h h2 ha (f0 + i) (f0 + zr + i) (by omega) (by omega) _ (by rw [nI_add]; congr 1; omega) _) (Nat.le_of_ble_eq_true rfl) (Nat.le_of_ble_eq_true rfl) d_Tree_turn_65 ?_
      refine r_iinc d_Tree_turn_68 rfl (nI_inc (f0 + i)) (Nat.le_of_ble_eq_true rfl) rfl ?_
      refine r_goto 53 d_Tree_turn_71 (by decide) ?_
      exact ih (i + 1) _ (by omega) (TI_left ha hT (e2 _ (by omega)) (e4 _ (by omega)) (e6 _ (by omega)) (e8 _ (by omega)))

/-- what turn leaves: the new rows, what is derived of them; t2 is overwritten -/
def TT (t t2 n k f0 zl zr : Nat) (M : nw_M) (z : Nat → Nat) (tp : Nat → Bool) (nd ld ak : Nat → Nat) (N : nw_M) : Prop :=
  (∀ c, (c < t ∨ t + 18 < c) → (c < t2 ∨ t2 + 18 < c) → N c = M c) ∧ N t = M t ∧ N (t + 2) = xa f0 zl zr (M (t + 2)) ∧ N (t + 4) = xa f0 zl zr (M (t + 4)) ∧ N (t + 6) = upd (xb f0 zl zr (M (t + 6))) k (nI (k - 1 - zl)) ∧ N (t + 8) = upd (xb f0 zl zr (M (t + 8))) k (nI (k - 1)) ∧
  ∀ j, j < n → N (t + 16) j = nI (z j) ∧ N (t + 14) j = bI (tp j) ∧ N (t + 10) j = nI (nv (N (t + 6)) (N (t + 8)) nd n j) ∧ N (t + 12) j = nI (nv (N (t + 6)) (N (t + 8)) ld n j) ∧ N (t + 18) j = nI (ak j)
set_option maxHeartbeats 1000000 in
theorem c_Tree_turn {t t2 n : Nat} (h : isTree t) (h2 : isTree t2) (ha : apt t t2) {k L f0 zl zr : Nat} {M : nw_M} (hk : k < n) (hn : n ≤ 31) (eL : L + 1 = f0 + zl) (ek : k = L + zr + 1) (h1z : 1 ≤ zr) (hs : M t 9 = nI n) (hl : M (t + 6) k = nI L) (hr : M (t + 8) k = nI (k - 1)) (hzl : M (t + 16) L = nI zl) (hzr : M (t + 16) (k - 1) = nI zr) {z nd ld ak : Nat → Nat} {tp : Nat → Bool} (hg : GH n (xa f0 zl zr (M (t + 2))) (xa f0 zl zr (M (t + 4))) (upd (xb f0 zl zr (M (t + 6))) k (nI (k - 1 - zl))) (upd (xb f0 zl zr (M (t + 8))) k (nI (k - 1))) z tp nd ld ak) : CJ G LC m_Tree_turn 5 [.ref (G.2.2 t), .int (nI k), .ref (G.2.2 t2)] M (fun v N => v = none ∧ TT t t2 n k f0 zl zr M z tp nd ld ak N) := by
  have ha2 : apt t2 t := by unfold apt at *; omega
  have ha3 := ha
  unfold apt at ha3
  refine CJ_of (by decide) rfl (Nat.le_of_ble_eq_true rfl) ?_
  refine r_aload_n (i := 2) d_Tree_turn_0 rfl rfl ?_
  refine r_aload_n (i := 0) d_Tree_turn_1 rfl rfl ?_
  refine r_W1 v_Tree_copy w_725 h2.1 (c_Tree_copy h2 h _ ha2) (Nat.le_of_ble_eq_true rfl) (Nat.le_of_ble_eq_true rfl) d_Tree_turn_2 (fun v M1 hv => ?_)
  obtain ⟨rfl, hC⟩ := hv
  obtain ⟨C0, C1, C2, C4, C6, C8, C10, C12, C14, C16, C18⟩ := hC
  have k2 : M1 (t + 2) = M (t + 2) := C0 _ (by omega)
  have k4 : M1 (t + 4) = M (t + 4) := C0 _ (by omega)
  have k6 : M1 (t + 6) = M (t + 6) := C0 _ (by omega)
  have k8 : M1 (t + 8) = M (t + 8) := C0 _ (by omega)
  have kt : M1 t = M t := C0 _ (by omega)
  have cpq : ∀ (f g : Nat → Int32) (q : Nat), q < 31 → cp 31 f g q = f q := fun f g q hq => by simp [cp, hq]
  have e2 : ∀ q, q < 31 → M1 (t2 + 2) q = M1 (t + 2) q := fun q hq => by rw [C2, cpq _ _ _ hq, k2]
  have e4 : ∀ q, q < 31 → M1 (t2 + 4) q = M1 (t + 4) q := fun q hq => by rw [C4, cpq _ _ _ hq, k4]
  have e6 : ∀ q, q < 31 → M1 (t2 + 6) q = M1 (t + 6) q := fun q hq => by rw [C6, cpq _ _ _ hq, k6]
  have e8 : ∀ q, q < 31 → M1 (t2 + 8) q = M1 (t + 8) q := fun q hq => by rw [C8, cpq _ _ _ hq, k8]
  refine r_aload_n (i := 2) d_Tree_turn_5 rfl rfl ?_
  refine r_getr nf_Tree_23 h2.1 rfl d_Tree_turn_6 ?_
  refine r_iload_n (i := 1) d_Tree_turn_9 rfl rfl ?_
  refine r_V1 v_Row_get w_442 (isTree.lefts h2).1 (c_Row_get (isTree.lefts h2) _ _ ) (Nat.le_of_ble_eq_true rfl) (Nat.le_of_ble_eq_true rfl) d_Tree_turn_10 ?_
  rw [rg_nI _ (by omega) (by omega), e6 _ (by omega), k6, hl]
  refine r_istore_n (i := 3) d_Tree_turn_13 rfl (Nat.le_of_ble_eq_true rfl) rfl ?_
  refine r_aload_n (i := 2) d_Tree_turn_14 rfl rfl ?_
  refine r_getr nf_Tree_26 h2.1 rfl d_Tree_turn_15 ?_
  refine r_iload_n (i := 1) d_Tree_turn_18 rfl rfl ?_
  refine r_V1 v_Row_get w_442 (isTree.rights h2).1 (c_Row_get (isTree.rights h2) _ _ ) (Nat.le_of_ble_eq_true rfl) (Nat.le_of_ble_eq_true rfl) d_Tree_turn_19 ?_
  rw [rg_nI _ (by omega) (by omega), e8 _ (by omega), k8, hr]
  refine r_istore d_Tree_turn_22 (Nat.le_of_ble_eq_true rfl) rfl ?_
  refine r_aload_n (i := 2) d_Tree_turn_24 rfl rfl ?_
  refine r_getr nf_Tree_38 h2.1 rfl d_Tree_turn_25 ?_
  refine r_iload_n (i := 3) d_Tree_turn_28 rfl rfl ?_
  refine r_V1 v_Row_get w_442 (isTree.spans h2).1 (c_Row_get (isTree.spans h2) _ _ ) (Nat.le_of_ble_eq_true rfl) (Nat.le_of_ble_eq_true rfl) d_Tree_turn_29 ?_
  rw [rg_nI _ (by omega) (by omega), C16, cpq _ _ _ (by omega), hzl]
  refine r_istore d_Tree_turn_32 (Nat.le_of_ble_eq_true rfl) rfl ?_
  refine r_aload_n (i := 2) d_Tree_turn_34 rfl rfl ?_
  refine r_getr nf_Tree_38 h2.1 rfl d_Tree_turn_35 ?_
  refine r_iload d_Tree_turn_38 rfl ?_
  refine r_V1 v_Row_get w_442 (isTree.spans h2).1 (c_Row_get (isTree.spans h2) _ _ ) (Nat.le_of_ble_eq_true rfl) (Nat.le_of_ble_eq_true rfl) d_Tree_turn_40 ?_
  rw [rg_nI _ (by omega) (by omega), C16, cpq _ _ _ (by omega), hzr]
  refine r_istore d_Tree_turn_43 (Nat.le_of_ble_eq_true rfl) rfl ?_
  refine r_iload_n (i := 3) d_Tree_turn_45 rfl rfl ?_
  refine r_iload d_Tree_turn_46 rfl ?_
  refine r_isub d_Tree_turn_48 ?_
  refine r_iconst 1 d_Tree_turn_49 ic_1 ?_
  refine r_iadd d_Tree_turn_50 ?_
  rw [nI_sub1 (by omega), show L + 1 - zl = f0 + 0 by omega]
  refine r_istore d_Tree_turn_51 (Nat.le_of_ble_eq_true rfl) rfl ?_
  refine l_Tree_turn1 h h2 ha (f0 := f0) (by omega) eL ek e2 e4 e6 e8 (fun N x hT => ?_) zl 0 M1 (by omega) ⟨fun _ _ _ _ _ => rfl, by simp only [pt_0], by simp only [pt_0], by simp only [pt_0], by simp only [pt_0]⟩
  refine r_iload d_Tree_turn_74 rfl ?_
  refine r_iload d_Tree_turn_76 rfl ?_
  refine r_isub d_Tree_turn_78 ?_
  refine r_iconst 1 d_Tree_turn_79 ic_1 ?_
  refine r_iadd d_Tree_turn_80 ?_
  rw [nI_sub1 (by omega), show k - 1 + 1 - zr = f0 + zl + 0 by omega]
  refine r_istore d_Tree_turn_81 (Nat.le_of_ble_eq_true rfl) rfl ?_
  refine l_Tree_turn2 h h2 ha (f0 := f0) (by omega) eL ek e2 e4 e6 e8 (fun N x hT => ?_) zr 0 N (by omega) hT
  refine r_aload_n (i := 0) d_Tree_turn_106 rfl rfl ?_
  refine r_getr nf_Tree_23 h.1 rfl d_Tree_turn_107 ?_
  refine r_iload_n (i := 1) d_Tree_turn_110 rfl rfl ?_
  refine r_iload d_Tree_turn_111 rfl ?_
  refine r_iload d_Tree_turn_113 rfl ?_
  refine r_isub d_Tree_turn_115 ?_
  refine r_V2 v_Row_put w_406 (isTree.lefts h).1 (c_Row_put (isTree.lefts h) _ _ _ ) (Nat.le_of_ble_eq_true rfl) (Nat.le_of_ble_eq_true rfl) d_Tree_turn_116 ?_
  refine r_aload_n (i := 0) d_Tree_turn_119 rfl rfl ?_
  refine r_getr nf_Tree_26 h.1 rfl d_Tree_turn_120 ?_
  refine r_iload_n (i := 1) d_Tree_turn_123 rfl rfl ?_
  refine r_iload_n (i := 3) d_Tree_turn_124 rfl rfl ?_
  refine r_iload d_Tree_turn_125 rfl ?_
  refine r_iadd d_Tree_turn_127 ?_
  refine r_V2 v_Row_put w_406 (isTree.rights h).1 (c_Row_put (isTree.rights h) _ _ _ ) (Nat.le_of_ble_eq_true rfl) (Nat.le_of_ble_eq_true rfl) d_Tree_turn_128 ?_
  refine r_aload_n (i := 0) d_Tree_turn_131 rfl rfl ?_
  have hT2 := hT
  obtain ⟨a1, a2, a3, a4, a5⟩ := hT2
  rw [pk_sub (by omega), nI_add, show L + zr = k - 1 by omega]
  simp (disch := omega) only [ms_same, ms_ne, rp_nI]
  have hg2 : GH n ((ms (ms N (t + 6) (upd (N (t + 6)) k (nI (k - 1 - zl)))) (t + 8) (upd (N (t + 8)) k (nI (k - 1)))) (t + 2)) ((ms (ms N (t + 6) (upd (N (t + 6)) k (nI (k - 1 - zl)))) (t + 8) (upd (N (t + 8)) k (nI (k - 1)))) (t + 4)) ((ms (ms N (t + 6) (upd (N (t + 6)) k (nI (k - 1 - zl)))) (t + 8) (upd (N (t + 8)) k (nI (k - 1)))) (t + 6)) ((ms (ms N (t + 6) (upd (N (t + 6)) k (nI (k - 1 - zl)))) (t + 8) (upd (N (t + 8)) k (nI (k - 1)))) (t + 8)) z tp nd ld ak := by
    simp (disch := omega) only [ms_same, ms_ne]
    rw [a2, a3, a4, a5, k2, k4, k6, k8]
    exact hg
  have hs2 : (ms (ms N (t + 6) (upd (N (t + 6)) k (nI (k - 1 - zl)))) (t + 8) (upd (N (t + 8)) k (nI (k - 1)))) t 9 = nI n := by
    simp (disch := omega) only [ms_same, ms_ne]
    rw [a1 t (by omega) (by omega) (by omega) (by omega), kt, hs]
  refine r_W0 v_Tree_derive w_730 h.1 (c_Tree_derive (n := n) (z := z) (tp := tp) (nd := nd) (ld := ld) (ak := ak) h hg2 hs2) (Nat.le_of_ble_eq_true rfl) (Nat.le_of_ble_eq_true rfl) d_Tree_turn_132 (fun v N2 hv => ?_)
  obtain ⟨rfl, hD⟩ := hv
  refine r_vret rfl d_Tree_turn_135 ?_
  refine ⟨rfl, ?_⟩
  obtain ⟨D1, D2⟩ := hD
  have q6 := D1 (t + 6) (by omega) (by omega) (by omega) (by omega) (by omega)
  have q8 := D1 (t + 8) (by omega) (by omega) (by omega) (by omega) (by omega)
  have q2 := D1 (t + 2) (by omega) (by omega) (by omega) (by omega) (by omega)
  have q4 := D1 (t + 4) (by omega) (by omega) (by omega) (by omega) (by omega)
  have qt := D1 t (by omega) (by omega) (by omega) (by omega) (by omega)
  simp (disch := omega) only [ms_same, ms_ne] at q6 q8 q2 q4 qt D2
  refine ⟨fun c c1 c2 => ?_, ?_, ?_, ?_, ?_, ?_, ?_⟩
  · rw [D1 c (by omega) (by omega) (by omega) (by omega) (by omega)]
    simp (disch := omega) only [ms_same, ms_ne]
    rw [a1 c (by omega) (by omega) (by omega) (by omega)]
    exact C0 c c2
  · rw [qt, a1 t (by omega) (by omega) (by omega) (by omega), kt]
  · rw [q2, a2, k2]; rfl
  · rw [q4, a3, k4]; rfl
  · rw [q6, a4, k6]; rfl
  · rw [q8, a5, k8]; rfl
  · rw [q6, q8]
    exact D2

end MTree4
