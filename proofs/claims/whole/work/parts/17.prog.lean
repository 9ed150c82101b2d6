-- Program
abbrev Ln : Type := Int32 × Int32 × Int32 × Int32 × Int32
abbrev nP : Type := Nat → Nat → Nat → Nat → List Ln × Nat
def kpL (lf : Nat → Int32) (Q : nP) (x b i c : Nat) : List Ln := if lf x = -9 then [] else (Q x b i c).1 ++ [(3, nI b, nI x, 2, nI (Q x b i c).2)]
def kpC (lf : Nat → Int32) (Q : nP) (x b i c : Nat) : Nat := if lf x = -9 then c else (Q x b i c).2 + 1
def srK (le lf : Nat → Int32) (x : Nat) : Int32 := if lf x = -9 then (if le x = 48 then 0 else 1) else 2
def srN (nu lf : Nat → Int32) (x cc : Nat) : Int32 := if lf x = -9 then nu x else nI cc
/-- LINES and cells of a NODE in register b by i REGISTERS, behind c cells, by those of its operands -/
def pW (le nu lf : Nat → Int32) (Q : nP) (k L R w b i c : Nat) : List Ln × Nat :=
  if w = 1 then ((Q L b i c).1 ++ (Q R (b + 1) (i - 1) (Q L b i c).2).1 ++ [(1, nI b, nI k, nI b, nI (b + 1))], (Q R (b + 1) (i - 1) (Q L b i c).2).2)
  else if w = 2 then ((Q R b i c).1 ++ (Q L (b + 1) (i - 1) (Q R b i c).2).1 ++ [(1, nI b, nI k, nI (b + 1), nI b)], (Q L (b + 1) (i - 1) (Q R b i c).2).2)
  else if w = 3 then (kpL lf Q R b i c ++ (Q L b i (kpC lf Q R b i c)).1 ++ [(2, nI b, nI k, srK le lf R, srN nu lf R (Q R b i c).2)], (Q L b i (kpC lf Q R b i c)).2)
  else if w = 4 then (kpL lf Q L b i c ++ (Q R b i (kpC lf Q L b i c)).1 ++ [(2, nI b, nI k, srK le lf L, srN nu lf L (Q L b i c).2)], (Q R b i (kpC lf Q L b i c)).2)
  else if w = 5 then (kpL lf Q L b i c ++ (Q R b i (kpC lf Q L b i c)).1 ++ [(0, nI (b + 1), nI L, srK le lf L, srN nu lf L (Q L b i c).2)] ++ [(1, nI b, nI k, nI (b + 1), nI b)], (Q R b i (kpC lf Q L b i c)).2)
  else (kpL lf Q L b i c ++ kpL lf Q R b i (kpC lf Q L b i c) ++ [(0, nI b, nI L, srK le lf L, srN nu lf L (Q L b i c).2)] ++ [(2, nI b, nI k, srK le lf R, srN nu lf R (Q R b i (kpC lf Q L b i c)).2)], kpC lf Q R b i (kpC lf Q L b i c))
def pX (le nu lf rt : Nat → Int32) (z : Nat → Nat) (Wy : Nat → Nat → Nat) (Q : nP) (k b i c : Nat) : List Ln × Nat :=
  if lf k = -9 then ([(0, nI b, nI k, srK le lf k, nu k)], c)
  else if rt k = -9 then ((Q (k - 1) b i c).1 ++ [(1, nI b, nI k, nI b, nI b)], (Q (k - 1) b i c).2)
  else pW le nu lf Q k (k - 1 - z (k - 1)) (k - 1) (Wy k i) b i c
section PXB
variable {n : Nat} {le nu lf rt : Nat → Int32} {z : Nat → Nat} {Wy : Nat → Nat → Nat} {Q : nP}
theorem pX_le (hw : WF n le nu lf rt z) (hQ : ∀ k b i c, k < n → Q k b i c = pX le nu lf rt z Wy Q k b i c) : ∀ k, k < n → ∀ b i c, (Q k b i c).1.length + 2 ≤ 3 * z k ∧ c ≤ (Q k b i c).2 ∧ (Q k b i c).2 + 1 ≤ c + z k := by
  intro k
  induction k using Nat.strongRecOn with
  | _ k ih =>
    intro hk b i c
    have zb := hw.zb k hk
    rw [hQ k b i c hk]
    unfold pX
    by_cases hl : lf k = -9
    · rw [if_pos hl]
      have := (hw.leaf_rt hk hl).2.1
      simp only [List.length_cons, List.length_nil]
      omega
    · rw [if_neg hl]
      by_cases hr : rt k = -9
      · rw [if_pos hr]
        have s := hw.single hk hl hr
        have a := ih (k - 1) (by omega) (by omega) b i c
        simp only [List.length_append, List.length_cons, List.length_nil]
        omega
      · rw [if_neg hr]
        have s := hw.pair hk hr
        have zR := hw.zb (k - 1) (by omega)
        have zL := hw.zb (k - 1 - z (k - 1)) (by omega)
        have aR := fun b i c => ih (k - 1) (by omega) (by omega) b i c
        have aL := fun b i c => ih (k - 1 - z (k - 1)) (by omega) (by omega) b i c
        generalize k - 1 - z (k - 1) = L at *
        generalize k - 1 = R at *
        have hK : ∀ x, (∀ b i c, (Q x b i c).1.length + 2 ≤ 3 * z x ∧ c ≤ (Q x b i c).2 ∧ (Q x b i c).2 + 1 ≤ c + z x) → 1 ≤ z x → ∀ b i c, (kpL lf Q x b i c).length + 1 ≤ 3 * z x ∧ c ≤ kpC lf Q x b i c ∧ kpC lf Q x b i c ≤ c + z x := by
          intro x hx hz b i c
          have := hx b i c
          unfold kpL kpC
          by_cases q : lf x = -9
          · rw [if_pos q, if_pos q]; simp only [List.length_nil]; omega
          · rw [if_neg q, if_neg q]; simp only [List.length_append, List.length_cons, List.length_nil]; omega
        have kR := hK R aR zR.1
        have kL := hK L aL zL.1
        unfold pW
        repeat' split
        all_goals simp only [List.length_append, List.length_cons, List.length_nil]
        · have x1 := aL b i c; have x2 := aR (b + 1) (i - 1) (Q L b i c).2; omega
        · have x1 := aR b i c; have x2 := aL (b + 1) (i - 1) (Q R b i c).2; omega
        · have x1 := kR b i c; have x2 := aL b i (kpC lf Q R b i c); omega
        · have x1 := kL b i c; have x2 := aR b i (kpC lf Q L b i c); omega
        · have x1 := kL b i c; have x2 := aR b i (kpC lf Q L b i c); omega
        · have x1 := kL b i c; have x2 := kR b i (kpC lf Q L b i c); omega
end PXB
theorem best_two (mc : Nat → Nat) (lv : Nat → Bool) (C : Nat → Nat → Nat) (l r i : Nat) (rf cm : Bool) (hi : ¬ 2 ≤ i) : (best mc lv C l r i rf cm).1 ≠ 1 ∧ (best mc lv C l r i rf cm).1 ≠ 2 ∧ (best mc lv C l r i rf cm).1 ≠ 5 := by
  have e : decide (2 ≤ i) = false := decide_eq_false hi
  unfold best
  rw [e]
  have no : ∀ (a : Nat × Nat) (w p : Nat), offr a w false p = a := fun a w p => by simp [offr]
  have no2 : ∀ (a : Nat × Nat) (w p : Nat), offr a w (false && rf) p = a := fun a w p => by simp [offr]
  rw [no, no2, no]
  have key : ∀ (a : Nat × Nat) (w p : Nat) (b : Bool), (a.1 ≠ 1 ∧ a.1 ≠ 2 ∧ a.1 ≠ 5) → (w ≠ 1 ∧ w ≠ 2 ∧ w ≠ 5) → ((offr a w b p).1 ≠ 1 ∧ (offr a w b p).1 ≠ 2 ∧ (offr a w b p).1 ≠ 5) := by
    intro a w p b h1 h2
    unfold offr
    split
    · exact h2
    · exact h1
  exact key _ _ _ _ (key _ _ _ _ (key _ _ _ _ ⟨by decide, by decide, by decide⟩ ⟨by decide, by decide, by decide⟩) ⟨by decide, by decide, by decide⟩) ⟨by decide, by decide, by decide⟩
def PM (M : nw_M) (ls : List Ln) (c : Nat) : Prop := M 117 2 = nI ls.length ∧ M 117 3 = nI c ∧ ∀ (j : Nat) (x : Ln), ls[j]? = some x → M 119 (5 * j) = x.1 ∧ M 119 (5 * j + 1) = x.2.1 ∧ M 119 (5 * j + 2) = x.2.2.1 ∧ M 119 (5 * j + 3) = x.2.2.2.1 ∧ M 119 (5 * j + 4) = x.2.2.2.2
def HI (M0 M : nw_M) : Prop := (∀ e, e ≠ 117 → e ≠ 119 → e ≠ 121 → M e = M0 e) ∧ M 117 4 = M0 117 4
theorem ix5b (p i : Nat) : nI (p * 5) + nI i = nI (5 * p + i) := by rw [nI_add, Nat.mul_comm]
section MProg
variable {G : nw_G}
theorem c_Program_part (j p : Int32) (M : nw_M) : CF G LC m_Program_part 1 [.ref (G.2.2 117), .int j, .int p] M (some (.int (rg 465 (M 119) (j * 5 + p)))) M := by
  refine CJ_of (by decide) rfl (Nat.le_of_ble_eq_true rfl) ?_
  refine r_aload_n (i := 0) d_Program_part_0 rfl rfl ?_
  refine r_getr nf_Program_14 lc_117 rfl d_Program_part_1 ?_
  refine r_iload_n (i := 1) d_Program_part_4 rfl rfl ?_
  refine r_iconst 5 d_Program_part_5 ic_5 ?_
  refine r_imul d_Program_part_6 ?_
  refine r_iload_n (i := 2) d_Program_part_7 rfl rfl ?_
  refine r_iadd d_Program_part_8 ?_
  refine r_V1 v_Row_get w_649 row_118.1 (c_Row_get row_118 _ _ ) (Nat.le_of_ble_eq_true rfl) (Nat.le_of_ble_eq_true rfl) d_Program_part_9 ?_
  refine r_iret rfl d_Program_part_12 ?_
  exact ⟨rfl, rfl⟩

theorem c_Program_forget (M : nw_M) : CF G LC m_Program_forget 0 [.ref (G.2.2 117)] M none (ms M 117 (upd (M 117) 4 0)) := by
  refine CJ_of (by decide) rfl (Nat.le_of_ble_eq_true rfl) ?_
  refine r_aload_n (i := 0) d_Program_forget_0 rfl rfl ?_
  refine r_iconst 0 d_Program_forget_1 ic_0 ?_
  refine r_puti nf_Program_27 nfin_Program_4 lc_117 rfl d_Program_forget_2 ?_
  refine r_vret rfl d_Program_forget_5 ?_
  exact ⟨rfl, rfl⟩

theorem c_Program_sourceKind {t : Nat} (h : isTree t) {x : Nat} (hx : x < 31) (M : nw_M) : CF G LC m_Program_sourceKind 2 [.ref (G.2.2 t), .int (nI x)] M (some (.int (srK (M (t + 2)) (M (t + 6)) x))) M := by
  refine CJ_of (by decide) rfl (Nat.le_of_ble_eq_true rfl) ?_
  refine r_aload_n (i := 0) d_Program_sourceKind_0 rfl rfl ?_
  refine r_iload_n (i := 1) d_Program_sourceKind_1 rfl rfl ?_
  refine r_V1 v_Tree_isLeaf w_645 h.1 (c_Tree_isLeaf h _ _ ) (Nat.le_of_ble_eq_true rfl) (Nat.le_of_ble_eq_true rfl) d_Program_sourceKind_2 ?_
  refine r_if_ne 10 d_Program_sourceKind_5 (by decide) (fun h_5 => ?_) (fun h_5 => ?_)
  · skip
    refine r_aload_n (i := 0) d_Program_sourceKind_10 rfl rfl ?_
    refine r_getr nf_Program_87 h.1 rfl d_Program_sourceKind_11 ?_
    refine r_iload_n (i := 1) d_Program_sourceKind_14 rfl rfl ?_
    refine r_V1 v_Row_get w_649 (isTree.letters h).1 (c_Row_get (isTree.letters h) _ _ ) (Nat.le_of_ble_eq_true rfl) (Nat.le_of_ble_eq_true rfl) d_Program_sourceKind_15 ?_
    refine r_bipush 48 d_Program_sourceKind_18 bp_48 ?_
    refine r_icmp_ne 27 d_Program_sourceKind_20 (by decide) (fun h_20 => ?_) (fun h_20 => ?_)
    · skip
      refine r_iconst 1 d_Program_sourceKind_27 ic_1 ?_
      refine r_iret rfl d_Program_sourceKind_28 ?_
      refine ⟨?_, rfl⟩
      simp (disch := omega) only [rg_nI, bI_t, bI_f, beq_iff_eq, beq_eq_false_iff_ne, ne_eq, Decidable.not_not, Bool.not_eq_false] at *
      simp [srK, *]
    · skip
      refine r_iconst 0 d_Program_sourceKind_23 ic_0 ?_
      refine r_goto 28 d_Program_sourceKind_24 (by decide) ?_
      refine r_iret rfl d_Program_sourceKind_28 ?_
      refine ⟨?_, rfl⟩
      simp (disch := omega) only [rg_nI, bI_t, bI_f, beq_iff_eq, beq_eq_false_iff_ne, ne_eq, Decidable.not_not, Bool.not_eq_false] at *
      simp [srK, *]
  · skip
    refine r_iconst 2 d_Program_sourceKind_8 ic_2 ?_
    refine r_iret rfl d_Program_sourceKind_9 ?_
    refine ⟨?_, rfl⟩
    simp (disch := omega) only [rg_nI, bI_t, bI_f, beq_iff_eq, beq_eq_false_iff_ne, ne_eq, Decidable.not_not, Bool.not_eq_false] at *
    simp [srK, *]

theorem c_Program_sourceNumber {t : Nat} (h : isTree t) {x cc : Nat} (hx : x < 31) (M : nw_M) (hc : M (t + 6) x ≠ -9 → M 121 x = nI cc) : CF G LC m_Program_sourceNumber 2 [.ref (G.2.2 117), .ref (G.2.2 t), .int (nI x)] M (some (.int (srN (M (t + 4)) (M (t + 6)) x cc))) M := by
  refine CJ_of (by decide) rfl (Nat.le_of_ble_eq_true rfl) ?_
  refine r_aload_n (i := 1) d_Program_sourceNumber_0 rfl rfl ?_
  refine r_iload_n (i := 2) d_Program_sourceNumber_1 rfl rfl ?_
  refine r_V1 v_Tree_isLeaf w_645 h.1 (c_Tree_isLeaf h _ _ ) (Nat.le_of_ble_eq_true rfl) (Nat.le_of_ble_eq_true rfl) d_Program_sourceNumber_2 ?_
  refine r_if_eq 19 d_Program_sourceNumber_5 (by decide) (fun h_5 => ?_) (fun h_5 => ?_)
  · skip
    refine r_aload_n (i := 0) d_Program_sourceNumber_19 rfl rfl ?_
    refine r_getr nf_Program_20 lc_117 rfl d_Program_sourceNumber_20 ?_
    refine r_iload_n (i := 2) d_Program_sourceNumber_23 rfl rfl ?_
    refine r_V1 v_Row_get w_649 row_120.1 (c_Row_get row_120 _ _ ) (Nat.le_of_ble_eq_true rfl) (Nat.le_of_ble_eq_true rfl) d_Program_sourceNumber_24 ?_
    refine r_iret rfl d_Program_sourceNumber_27 ?_
    refine ⟨?_, rfl⟩
    simp (disch := omega) only [rg_nI, bI_t, bI_f, beq_iff_eq, beq_eq_false_iff_ne, ne_eq, Decidable.not_not, Bool.not_eq_false] at *
    simp [srN, *]
  · skip
    refine r_aload_n (i := 1) d_Program_sourceNumber_8 rfl rfl ?_
    refine r_getr nf_Program_90 h.1 rfl d_Program_sourceNumber_9 ?_
    refine r_iload_n (i := 2) d_Program_sourceNumber_12 rfl rfl ?_
    refine r_V1 v_Row_get w_649 (isTree.numbers h).1 (c_Row_get (isTree.numbers h) _ _ ) (Nat.le_of_ble_eq_true rfl) (Nat.le_of_ble_eq_true rfl) d_Program_sourceNumber_13 ?_
    refine r_goto 27 d_Program_sourceNumber_16 (by decide) ?_
    refine r_iret rfl d_Program_sourceNumber_27 ?_
    refine ⟨?_, rfl⟩
    simp (disch := omega) only [rg_nI, bI_t, bI_f, beq_iff_eq, beq_eq_false_iff_ne, ne_eq, Decidable.not_not, Bool.not_eq_false] at *
    simp [srN, *]

theorem i5 (p j : Nat) {x : Int32} (hx : x = nI j) : nI (p * 5) + x = nI (5 * p + j) := by rw [hx, ix5b]
theorem c_Program_add (a b c d e : Int32) (ls : List Ln) (cc : Nat) (M : nw_M) (hP : PM M ls cc) (hl : ls.length < 93) : CJ G LC m_Program_add 1 [.ref (G.2.2 117), .int a, .int b, .int c, .int d, .int e] M (fun v N => v = none ∧ (∀ q, q ≠ 117 → q ≠ 119 → N q = M q) ∧ N 117 4 = M 117 4 ∧ PM N (ls ++ [(a, b, c, d, e)]) cc) := by
  refine CJ_of2 (n0 := 1) (by decide) rfl rfl ?_
  simp only [List.map_cons, List.map_nil, List.cons_append, List.nil_append, List.reduceReplicate]
  refine r_aload_n (i := 0) d_Program_add_0 rfl rfl ?_
  refine r_geti nf_Program_31 lc_117 rfl d_Program_add_1 ?_
  refine r_iconst 5 d_Program_add_4 ic_5 ?_
  refine r_imul d_Program_add_5 ?_
  rw [hP.1, show (5 : Int32) = nI 5 from rfl, pk_mul]
  refine r_istore d_Program_add_6 (Nat.le_of_ble_eq_true rfl) rfl ?_
  dsimp only [List.set]
  refine r_aload_n (i := 0) d_Program_add_8 rfl rfl ?_
  refine r_getr nf_Program_14 lc_117 rfl d_Program_add_9 ?_
  refine r_iload d_Program_add_12 rfl ?_
  refine r_iload_n (i := 1) d_Program_add_14 rfl rfl ?_
  refine r_V2 v_Row_put w_658 row_118.1 (c_Row_put row_118 _ _ _ ) (Nat.le_of_ble_eq_true rfl) (Nat.le_of_ble_eq_true rfl) d_Program_add_15 ?_
  refine r_aload_n (i := 0) d_Program_add_18 rfl rfl ?_
  refine r_getr nf_Program_14 lc_117 rfl d_Program_add_19 ?_
  refine r_iload d_Program_add_22 rfl ?_
  refine r_iconst 1 d_Program_add_24 ic_1 ?_
  refine r_iadd d_Program_add_25 ?_
  refine r_iload_n (i := 2) d_Program_add_26 rfl rfl ?_
  refine r_V2 v_Row_put w_658 row_118.1 (c_Row_put row_118 _ _ _ ) (Nat.le_of_ble_eq_true rfl) (Nat.le_of_ble_eq_true rfl) d_Program_add_27 ?_
  refine r_aload_n (i := 0) d_Program_add_30 rfl rfl ?_
  refine r_getr nf_Program_14 lc_117 rfl d_Program_add_31 ?_
  refine r_iload d_Program_add_34 rfl ?_
  refine r_iconst 2 d_Program_add_36 ic_2 ?_
  refine r_iadd d_Program_add_37 ?_
  refine r_iload_n (i := 3) d_Program_add_38 rfl rfl ?_
  refine r_V2 v_Row_put w_658 row_118.1 (c_Row_put row_118 _ _ _ ) (Nat.le_of_ble_eq_true rfl) (Nat.le_of_ble_eq_true rfl) d_Program_add_39 ?_
  refine r_aload_n (i := 0) d_Program_add_42 rfl rfl ?_
  refine r_getr nf_Program_14 lc_117 rfl d_Program_add_43 ?_
  refine r_iload d_Program_add_46 rfl ?_
  refine r_iconst 3 d_Program_add_48 ic_3 ?_
  refine r_iadd d_Program_add_49 ?_
  refine r_iload d_Program_add_50 rfl ?_
  refine r_V2 v_Row_put w_658 row_118.1 (c_Row_put row_118 _ _ _ ) (Nat.le_of_ble_eq_true rfl) (Nat.le_of_ble_eq_true rfl) d_Program_add_52 ?_
  refine r_aload_n (i := 0) d_Program_add_55 rfl rfl ?_
  refine r_getr nf_Program_14 lc_117 rfl d_Program_add_56 ?_
  refine r_iload d_Program_add_59 rfl ?_
  refine r_iconst 4 d_Program_add_61 ic_4 ?_
  refine r_iadd d_Program_add_62 ?_
  refine r_iload d_Program_add_63 rfl ?_
  refine r_V2 v_Row_put w_658 row_118.1 (c_Row_put row_118 _ _ _ ) (Nat.le_of_ble_eq_true rfl) (Nat.le_of_ble_eq_true rfl) d_Program_add_65 ?_
  refine r_aload_n (i := 0) d_Program_add_68 rfl rfl ?_
  refine r_dup d_Program_add_69 rfl ?_
  refine r_geti nf_Program_31 lc_117 rfl d_Program_add_70 ?_
  refine r_iconst 1 d_Program_add_73 ic_1 ?_
  refine r_iadd d_Program_add_74 ?_
  refine r_puti nf_Program_31 nfin_Program_2 lc_117 rfl d_Program_add_75 ?_
  refine r_vret rfl d_Program_add_78 ?_
  have hp := hP.1
  refine ⟨rfl, fun q h1 h2 => by simp (disch := omega) only [ms_ne], ?_, ?_, ?_, ?_⟩
  · simp (disch := omega) only [ms_same, ms_ne, upd_ne]
  · simp (disch := omega) only [ms_same, ms_ne, upd_at]
    rw [hp, nI_1]
    simp
  · simp (disch := omega) only [ms_same, ms_ne, upd_ne]
    exact hP.2.1
  · intro j x hx
    simp (disch := omega) only [ms_same, ms_ne, i5 ls.length 1 (show (1 : Int32) = nI 1 from rfl), i5 ls.length 2 (show (2 : Int32) = nI 2 from rfl), i5 ls.length 3 (show (3 : Int32) = nI 3 from rfl), i5 ls.length 4 (show (4 : Int32) = nI 4 from rfl), rp_nI]
    rcases Nat.lt_or_ge j ls.length with q | q
    · rw [List.getElem?_append_left q] at hx
      simp (disch := omega) only [upd_ne]
      exact hP.2.2 j x hx
    · have : j = ls.length := by
        have := (List.getElem?_eq_some_iff.mp hx).1
        simp at this
        omega
      subst this
      rw [List.getElem?_append_right (Nat.le_refl _), Nat.sub_self] at hx
      cases hx
      rw [Nat.mul_comm ls.length 5]
      simp (disch := omega) only [upd_ne, upd_at]
      exact ⟨trivial, trivial, trivial, trivial, trivial⟩

end MProg
