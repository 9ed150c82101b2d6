-- the model: costs
section MM6
variable {G : nw_G} {n : Nat} {le nu lf rt nm : Nat → Int32} {mc z : Nat → Nat} {tp lv sh : Nat → Bool} {C : Nat → Nat → Nat} {M : nw_M}
theorem c_Model_costAt {k i v : Nat} (hk : 7 * k + i < 217) (hv : M 12 (7 * k + i) = nI v) : CF G LM m_Model_costAt 0 [.ref (G.2.2 0), .int (nI k), .int (nI i)] M (some (.int (nI v))) M := by
  refine CJ_of (by decide) rfl (Nat.le_of_ble_eq_true rfl) ?_
  refine r_aload_n (i := 0) d_Model_costAt_0 rfl rfl ?_
  refine r_getr nf_Model_44 lm_0 rfl d_Model_costAt_1 ?_
  refine r_bipush 7 d_Model_costAt_4 bp_7 ?_
  refine r_iload_n (i := 1) d_Model_costAt_6 rfl rfl ?_
  refine r_imulN (a := 7) (b := k) d_Model_costAt_7 rfl rfl ?_
  refine r_iload_n (i := 2) d_Model_costAt_8 rfl rfl ?_
  refine r_iaddN (a := (7 * k)) (b := i) d_Model_costAt_9 rfl rfl ?_
  refine r_ia (q := ((7 * k) + i)) lm_12 rfl (by omega) (by decide) (hv) d_Model_costAt_10 ?_
  refine r_iret rfl d_Model_costAt_11 ?_
  exact ⟨rfl, rfl⟩

theorem c_Model_keptAt (hS : MS n le nu lf rt nm mc (M 3)) {k i v : Nat} {b : Bool} (hk : k < 31) (hi : i < 7) (hb : M 11 k = bI b) (hv : M 12 (7 * k + i) = nI v) : CF G LM m_Model_keptAt 1 [.ref (G.2.2 0), .int (nI k), .int (nI i)] M (some (.int (nI (if b then 0 else v + mc 2)))) M := by
  refine CJ_of (by decide) rfl (Nat.le_of_ble_eq_true rfl) ?_
  refine r_aload_n (i := 0) d_Model_keptAt_0 rfl rfl ?_
  refine r_getr nf_Model_41 lm_0 rfl d_Model_keptAt_1 ?_
  refine r_iload_n (i := 1) d_Model_keptAt_4 rfl rfl ?_
  refine r_za (q := k) lm_11 rfl (by omega) (by decide) (hb) d_Model_keptAt_5 ?_
  refine r_if_eq 13 d_Model_keptAt_6 (by decide) (fun h_6 => ?_) (fun h_6 => ?_)
  · skip
    refine r_aload_n (i := 0) d_Model_keptAt_13 rfl rfl ?_
    refine r_iload_n (i := 1) d_Model_keptAt_14 rfl rfl ?_
    refine r_iload_n (i := 2) d_Model_keptAt_15 rfl rfl ?_
    refine r_V2 v_Model_costAt w_1083 lm_0 (c_Model_costAt (by omega) hv) (Nat.le_of_ble_eq_true rfl) (Nat.le_of_ble_eq_true rfl) d_Model_keptAt_16 ?_
    refine r_aload_n (i := 0) d_Model_keptAt_19 rfl rfl ?_
    refine r_getr nf_Model_16 lm_0 rfl d_Model_keptAt_20 ?_
    refine r_sipush 135 d_Model_keptAt_23 sp_135 ?_
    refine r_ia (q := 135) lm_3 rfl (by omega) (by decide) ((hS.gmc (j := 2) (by omega))) d_Model_keptAt_26 ?_
    refine r_iaddN (a := v) (b := (mc 2)) d_Model_keptAt_27 rfl rfl ?_
    refine r_iret rfl d_Model_keptAt_28 ?_
    exact ⟨by rw [(bI_f b).mp h_6]; rfl, rfl⟩
  · skip
    refine r_iconst 0 d_Model_keptAt_9 ic_0 ?_
    refine r_goto 28 d_Model_keptAt_10 (by decide) ?_
    refine r_iret rfl d_Model_keptAt_28 ?_
    exact ⟨by rw [(bI_t b).mp h_6]; rfl, rfl⟩

/-- which ways may be, their prices -/
def wMay (i : Nat) (rf cm : Bool) (w : Nat) : Bool := if w = 1 then decide (2 ≤ i) else if w = 2 then decide (2 ≤ i) && rf else if w = 3 then rf else if w = 4 then cm else if w = 5 then decide (2 ≤ i) else true
def wPr (mc : Nat → Nat) (lv : Nat → Bool) (C : Nat → Nat → Nat) (l r i w : Nat) : Nat := if w = 1 then C l i + C r (i - 1) + mc 3 else if w = 2 then C r i + C l (i - 1) + mc 3 else if w = 3 then kpt mc lv C r i + C l i + mc 4 else if w = 4 then kpt mc lv C l i + C r i + mc 4 else if w = 5 then kpt mc lv C l i + C r i + mc 1 + mc 3 else kpt mc lv C l i + kpt mc lv C r i + mc 1 + mc 4
def bst (mc : Nat → Nat) (lv : Nat → Bool) (C : Nat → Nat → Nat) (l r i : Nat) (rf cm : Bool) : Nat → Nat × Nat
  | 0 => (0, 0)
  | w + 1 => offr (bst mc lv C l r i rf cm w) (w + 1) (wMay i rf cm (w + 1)) (wPr mc lv C l r i (w + 1))
theorem bst_best (mc : Nat → Nat) (lv : Nat → Bool) (C : Nat → Nat → Nat) (l r i : Nat) (rf cm : Bool) : bst mc lv C l r i rf cm 6 = best mc lv C l r i rf cm := rfl
def OfM (a : Nat × Nat) (x y : Int32) : Prop := x = nI a.1 ∧ y = nI (if a.1 = 0 then 99999 else a.2) ∧ a.2 < 99999 ∧ a.1 < 7
theorem ofm_step {a : Nat × Nat} {x y c : Int32} {w p : Nat} {b : Bool} (h : OfM a x y) (hw0 : w ≠ 0) (hw : w < 7) (hp : p < 99999) (hc : c = nI (if b then p else 99999)) :
    OfM (offr a w b p) (if y ≤ c then x else nI w) (if y ≤ c then y else c) := by
  obtain ⟨h1, h2, h3, h4⟩ := h
  subst h1; subst h2; subst hc
  have e : ∀ {u v : Nat}, u < 2 ^ 31 → v < 2 ^ 31 → (nI u ≤ nI v ↔ u ≤ v) := fun hu hv => ⟨fun q => Nat.le_of_not_lt (fun t => nI_ge t hu q), fun q => nI_le q hv⟩
  unfold offr OfM
  cases b with
  | false =>
    have q : nI (if a.1 = 0 then 99999 else a.2) ≤ nI 99999 := (e (by split <;> omega) (by omega)).mpr (by split <;> omega)
    simp only [Bool.false_and, Bool.false_eq_true, if_false, if_pos q]
    exact ⟨trivial, trivial, h3, h4⟩
  | true =>
    simp only [Bool.true_and, if_true]
    by_cases a0 : a.1 = 0
    · have nq : ¬ nI 99999 ≤ nI p := fun q => by rw [e (by omega) (by omega)] at q; omega
      simp only [a0, if_true, if_neg nq, BEq.rfl, Bool.true_or]
      exact ⟨trivial, by rw [if_neg hw0], hp, hw⟩
    · have b0 : (a.1 == 0) = false := by simpa using a0
      by_cases q : a.2 ≤ p
      · have q1 : nI a.2 ≤ nI p := (e (by omega) (by omega)).mpr q
        have q2 : decide (p < a.2) = false := by simpa using q
        simp only [a0, if_false, if_pos q1, b0, q2, Bool.or_self, Bool.false_eq_true]
        exact ⟨trivial, trivial, h3, h4⟩
      · have q1 : ¬ nI a.2 ≤ nI p := fun t => q ((e (by omega) (by omega)).mp t)
        have q2 : decide (p < a.2) = true := decide_eq_true (by omega)
        simp only [a0, if_false, if_neg q1, b0, q2, Bool.or_true, if_true]
        exact ⟨trivial, by rw [if_neg hw0], hp, hw⟩
/-- the costs of the NODES below k stand -/
def TB (k : Nat) (mc : Nat → Nat) (C W : Nat → Nat → Nat) (N : nw_M) : Prop := ∀ j, j < k → ∀ i, 1 ≤ i → i ≤ mc 0 → N 12 (7 * j + i) = nI (C j i) ∧ N 13 (7 * j + i) = nI (W j i)
set_option maxHeartbeats 2000000 in
theorem c_Model_costBy1 (hS : MS n le nu lf rt nm mc (M 3)) (hw : WF n le nu lf rt z) (ht : ∀ k, k < n → TPk le lf rt z tp k) (hmk : MOK mc) {k i l r : Nat} (hk : k < n) (hl : l < k) (hr : r < k) (el : lf k = nI l) (er : rt k = nI r) (hi1 : 1 ≤ i) (hi : i ≤ mc 0) (hlv : ∀ j, j < n → M 11 j = bI (lv j)) (hC : ∀ j, j < k → ∀ i, 1 ≤ i → i ≤ mc 0 → M 12 (7 * j + i) = nI (C j i)) : CF G LM m_Model_costBy 2 [.ref (G.2.2 0), .int (nI k), .int (nI i), .int 1] M (some (.int (nI (if wMay i (!(tp l && tp r)) (o_comm (le k)) 1 then wPr mc lv C l r i 1 else 99999)))) M := by
  have hn := hw.1
  have h6 := hmk.2.1
  refine CJ_of2 (n0 := 4) (by decide) rfl rfl ?_
  simp only [List.map_cons, List.map_nil, List.cons_append, List.nil_append, List.reduceReplicate]
  refine r_aload_n (i := 0) d_Model_costBy_0 rfl rfl ?_
  refine r_getr nf_Model_16 lm_0 rfl d_Model_costBy_1 ?_
  refine r_bipush 63 d_Model_costBy_4 bp_63 ?_
  refine r_iload_n (i := 1) d_Model_costBy_6 rfl rfl ?_
  refine r_iaddN (a := 63) (b := k) d_Model_costBy_7 rfl rfl ?_
  refine r_ia (q := (63 + k)) lm_3 rfl (by omega) (by decide) ((hS.glf (j := k) (by omega)).trans el) d_Model_costBy_8 ?_
  refine r_istore d_Model_costBy_9 (Nat.le_of_ble_eq_true rfl) rfl ?_
  dsimp only [List.set]
  refine r_aload_n (i := 0) d_Model_costBy_11 rfl rfl ?_
  refine r_getr nf_Model_16 lm_0 rfl d_Model_costBy_12 ?_
  refine r_bipush 94 d_Model_costBy_15 bp_94 ?_
  refine r_iload_n (i := 1) d_Model_costBy_17 rfl rfl ?_
  refine r_iaddN (a := 94) (b := k) d_Model_costBy_18 rfl rfl ?_
  refine r_ia (q := (94 + k)) lm_3 rfl (by omega) (by decide) ((hS.grt (j := k) (by omega)).trans er) d_Model_costBy_19 ?_
  refine r_istore d_Model_costBy_20 (Nat.le_of_ble_eq_true rfl) rfl ?_
  dsimp only [List.set]
  refine r_aload_n (i := 0) d_Model_costBy_22 rfl rfl ?_
  refine r_iload d_Model_costBy_23 rfl ?_
  refine r_V1 v_Model_mayTrap w_1036 lm_0 (c_Model_mayTrap hS hw ht (show l < n by omega)) (Nat.le_of_ble_eq_true rfl) (Nat.le_of_ble_eq_true rfl) d_Model_costBy_25 ?_
  refine r_if_eq 44 d_Model_costBy_28 (by decide) (fun h_28 => ?_) (fun h_28 => ?_)
  · skip
    refine r_iconst 0 d_Model_costBy_44 ic_0 ?_
    refine r_istore d_Model_costBy_45 (Nat.le_of_ble_eq_true rfl) rfl ?_
    dsimp only [List.set]
    refine r_iload_n (i := 3) d_Model_costBy_47 rfl rfl ?_
    refine r_iconst 4 d_Model_costBy_48 ic_4 ?_
    refine r_icmp_ne 66 d_Model_costBy_49 (by decide) (fun h_49 => ?_) (fun h_49 => ?_)
    · skip
      refine r_iload_n (i := 3) d_Model_costBy_66 rfl rfl ?_
      refine r_iconst 2 d_Model_costBy_67 ic_2 ?_
      refine r_icmp_eq 76 d_Model_costBy_68 (by decide) (fun h_68 => ?_) (fun h_68 => ?_)
      · exact absurd h_68 (by decide)
      · skip
        refine r_iload_n (i := 3) d_Model_costBy_71 rfl rfl ?_
        refine r_iconst 3 d_Model_costBy_72 ic_3 ?_
        refine r_icmp_ne 89 d_Model_costBy_73 (by decide) (fun h_73 => ?_) (fun h_73 => ?_)
        · skip
          refine r_iconst 1 d_Model_costBy_89 ic_1 ?_
          refine r_istore d_Model_costBy_90 (Nat.le_of_ble_eq_true rfl) rfl ?_
          dsimp only [List.set]
          refine r_iload d_Model_costBy_92 rfl ?_
          refine r_if_eq 117 d_Model_costBy_94 (by decide) (fun h_94 => ?_) (fun h_94 => ?_)
          · exact absurd h_94 (by decide)
          · skip
            refine r_iload_n (i := 2) d_Model_costBy_97 rfl rfl ?_
            refine r_iconst 2 d_Model_costBy_98 ic_2 ?_
            refine r_icmp_ge 120 d_Model_costBy_99 (by decide) (fun h_99 => ?_) (fun h_99 => ?_)
            · skip
              have i2 : 2 ≤ i := Nat.le_of_not_lt (fun q => nI_ge q (by omega) h_99)
              refine r_iload_n (i := 3) d_Model_costBy_120 rfl rfl ?_
              refine r_iconst 3 d_Model_costBy_121 ic_3 ?_
              refine r_icmp_ge 186 d_Model_costBy_122 (by decide) (fun h_122 => ?_) (fun h_122 => ?_)
              · exact absurd h_122 (by decide)
              · skip
                refine r_iload_n (i := 3) d_Model_costBy_125 rfl rfl ?_
                refine r_iconst 1 d_Model_costBy_126 ic_1 ?_
                refine r_icmp_ne 159 d_Model_costBy_127 (by decide) (fun h_127 => ?_) (fun h_127 => ?_)
                · exact absurd h_127 (by decide)
                · skip
                  refine r_aload_n (i := 0) d_Model_costBy_130 rfl rfl ?_
                  refine r_iload d_Model_costBy_131 rfl ?_
                  refine r_iload_n (i := 2) d_Model_costBy_133 rfl rfl ?_
                  refine r_V2 v_Model_costAt w_1083 lm_0 (c_Model_costAt (by omega) (hC l (by omega) (i) (by omega) (by omega))) (Nat.le_of_ble_eq_true rfl) (Nat.le_of_ble_eq_true rfl) d_Model_costBy_134 ?_
                  refine r_aload_n (i := 0) d_Model_costBy_137 rfl rfl ?_
                  refine r_iload d_Model_costBy_138 rfl ?_
                  refine r_iload_n (i := 2) d_Model_costBy_140 rfl rfl ?_
                  refine r_iconst 1 d_Model_costBy_141 ic_1 ?_
                  refine r_isubN (a := i) (b := 1) d_Model_costBy_142 rfl rfl (by omega) ?_
                  refine r_V2 v_Model_costAt w_1083 lm_0 (c_Model_costAt (by omega) (hC r (by omega) (i - 1) (by omega) (by omega))) (Nat.le_of_ble_eq_true rfl) (Nat.le_of_ble_eq_true rfl) d_Model_costBy_143 ?_
                  refine r_iaddN (a := (C l i)) (b := (C r (i - 1))) d_Model_costBy_146 rfl rfl ?_
                  refine r_aload_n (i := 0) d_Model_costBy_147 rfl rfl ?_
                  refine r_getr nf_Model_16 lm_0 rfl d_Model_costBy_148 ?_
                  refine r_sipush 136 d_Model_costBy_151 sp_136 ?_
                  refine r_ia (q := 136) lm_3 rfl (by omega) (by decide) ((hS.gmc (j := 3) (by omega))) d_Model_costBy_154 ?_
                  refine r_iaddN (a := ((C l i) + (C r (i - 1)))) (b := (mc 3)) d_Model_costBy_155 rfl rfl ?_
                  refine r_goto 185 d_Model_costBy_156 (by decide) ?_
                  refine r_iret rfl d_Model_costBy_185 ?_
                  refine ⟨?_, rfl⟩
                  first
                    | (have key : wMay i (!(tp l && tp r)) (o_comm (le k)) 1 = true := by
                        simp only [wMay]
                        first
                          | rfl
                          | (have i2 : 2 ≤ i := Nat.le_of_not_lt (fun q => nI_ge q (by omega) h_99)
                             simp_all [bI]; done)
                          | (simp_all [bI]; done)
                       rw [key]; rfl)
                    | (have key : wMay i (!(tp l && tp r)) (o_comm (le k)) 1 = false := by
                        simp only [wMay]
                        first
                          | (have i2 : ¬ 2 ≤ i := fun q => h_99 (nI_le q (by omega))
                             simp_all [bI]; done)
                          | (simp_all [bI]; done)
                       rw [key]; rfl)
            · skip
              refine r_iload_n (i := 3) d_Model_costBy_102 rfl rfl ?_
              refine r_iconst 1 d_Model_costBy_103 ic_1 ?_
              refine r_icmp_eq 117 d_Model_costBy_104 (by decide) (fun h_104 => ?_) (fun h_104 => ?_)
              · skip
                refine r_ldc w_1082 d_Model_costBy_117 ?_
                refine r_iret rfl d_Model_costBy_119 ?_
                refine ⟨?_, rfl⟩
                first
                  | (have key : wMay i (!(tp l && tp r)) (o_comm (le k)) 1 = true := by
                      simp only [wMay]
                      first
                        | rfl
                        | (have i2 : 2 ≤ i := Nat.le_of_not_lt (fun q => nI_ge q (by omega) h_99)
                           simp_all [bI]; done)
                        | (simp_all [bI]; done)
                     rw [key]; rfl)
                  | (have key : wMay i (!(tp l && tp r)) (o_comm (le k)) 1 = false := by
                      simp only [wMay]
                      first
                        | (have i2 : ¬ 2 ≤ i := fun q => h_99 (nI_le q (by omega))
                           simp_all [bI]; done)
                        | (simp_all [bI]; done)
                     rw [key]; rfl)
              · exact absurd h_104 (by decide)
        · exact absurd h_73 (by decide)
    · exact absurd h_49 (by decide)
  · skip
    refine r_aload_n (i := 0) d_Model_costBy_31 rfl rfl ?_
    refine r_iload d_Model_costBy_32 rfl ?_
    refine r_V1 v_Model_mayTrap w_1036 lm_0 (c_Model_mayTrap hS hw ht (show r < n by omega)) (Nat.le_of_ble_eq_true rfl) (Nat.le_of_ble_eq_true rfl) d_Model_costBy_34 ?_
    refine r_if_eq 44 d_Model_costBy_37 (by decide) (fun h_37 => ?_) (fun h_37 => ?_)
    · skip
      refine r_iconst 0 d_Model_costBy_44 ic_0 ?_
      refine r_istore d_Model_costBy_45 (Nat.le_of_ble_eq_true rfl) rfl ?_
      dsimp only [List.set]
      refine r_iload_n (i := 3) d_Model_costBy_47 rfl rfl ?_
      refine r_iconst 4 d_Model_costBy_48 ic_4 ?_
      refine r_icmp_ne 66 d_Model_costBy_49 (by decide) (fun h_49 => ?_) (fun h_49 => ?_)
      · skip
        refine r_iload_n (i := 3) d_Model_costBy_66 rfl rfl ?_
        refine r_iconst 2 d_Model_costBy_67 ic_2 ?_
        refine r_icmp_eq 76 d_Model_costBy_68 (by decide) (fun h_68 => ?_) (fun h_68 => ?_)
        · exact absurd h_68 (by decide)
        · skip
          refine r_iload_n (i := 3) d_Model_costBy_71 rfl rfl ?_
          refine r_iconst 3 d_Model_costBy_72 ic_3 ?_
          refine r_icmp_ne 89 d_Model_costBy_73 (by decide) (fun h_73 => ?_) (fun h_73 => ?_)
          · skip
            refine r_iconst 1 d_Model_costBy_89 ic_1 ?_
            refine r_istore d_Model_costBy_90 (Nat.le_of_ble_eq_true rfl) rfl ?_
            dsimp only [List.set]
            refine r_iload d_Model_costBy_92 rfl ?_
            refine r_if_eq 117 d_Model_costBy_94 (by decide) (fun h_94 => ?_) (fun h_94 => ?_)
            · exact absurd h_94 (by decide)
            · skip
              refine r_iload_n (i := 2) d_Model_costBy_97 rfl rfl ?_
              refine r_iconst 2 d_Model_costBy_98 ic_2 ?_
              refine r_icmp_ge 120 d_Model_costBy_99 (by decide) (fun h_99 => ?_) (fun h_99 => ?_)
              · skip
                have i2 : 2 ≤ i := Nat.le_of_not_lt (fun q => nI_ge q (by omega) h_99)
                refine r_iload_n (i := 3) d_Model_costBy_120 rfl rfl ?_
                refine r_iconst 3 d_Model_costBy_121 ic_3 ?_
                refine r_icmp_ge 186 d_Model_costBy_122 (by decide) (fun h_122 => ?_) (fun h_122 => ?_)
                · exact absurd h_122 (by decide)
                · skip
                  refine r_iload_n (i := 3) d_Model_costBy_125 rfl rfl ?_
                  refine r_iconst 1 d_Model_costBy_126 ic_1 ?_
                  refine r_icmp_ne 159 d_Model_costBy_127 (by decide) (fun h_127 => ?_) (fun h_127 => ?_)
                  · exact absurd h_127 (by decide)
                  · skip
                    refine r_aload_n (i := 0) d_Model_costBy_130 rfl rfl ?_
                    refine r_iload d_Model_costBy_131 rfl ?_
                    refine r_iload_n (i := 2) d_Model_costBy_133 rfl rfl ?_
                    refine r_V2 v_Model_costAt w_1083 lm_0 (c_Model_costAt (by omega) (hC l (by omega) (i) (by omega) (by omega))) (Nat.le_of_ble_eq_true rfl) (Nat.le_of_ble_eq_true rfl) d_Model_costBy_134 ?_
                    refine r_aload_n (i := 0) d_Model_costBy_137 rfl rfl ?_
                    refine r_iload d_Model_costBy_138 rfl ?_
                    refine r_iload_n (i := 2) d_Model_costBy_140 rfl rfl ?_
                    refine r_iconst 1 d_Model_costBy_141 ic_1 ?_
                    refine r_isubN (a := i) (b := 1) d_Model_costBy_142 rfl rfl (by omega) ?_
                    refine r_V2 v_Model_costAt w_1083 lm_0 (c_Model_costAt (by omega) (hC r (by omega) (i - 1) (by omega) (by omega))) (Nat.le_of_ble_eq_true rfl) (Nat.le_of_ble_eq_true rfl) d_Model_costBy_143 ?_
                    refine r_iaddN (a := (C l i)) (b := (C r (i - 1))) d_Model_costBy_146 rfl rfl ?_
                    refine r_aload_n (i := 0) d_Model_costBy_147 rfl rfl ?_
                    refine r_getr nf_Model_16 lm_0 rfl d_Model_costBy_148 ?_
                    refine r_sipush 136 d_Model_costBy_151 sp_136 ?_
                    refine r_ia (q := 136) lm_3 rfl (by omega) (by decide) ((hS.gmc (j := 3) (by omega))) d_Model_costBy_154 ?_
                    refine r_iaddN (a := ((C l i) + (C r (i - 1)))) (b := (mc 3)) d_Model_costBy_155 rfl rfl ?_
                    refine r_goto 185 d_Model_costBy_156 (by decide) ?_
                    refine r_iret rfl d_Model_costBy_185 ?_
                    refine ⟨?_, rfl⟩
                    first
                      | (have key : wMay i (!(tp l && tp r)) (o_comm (le k)) 1 = true := by
                          simp only [wMay]
                          first
                            | rfl
                            | (have i2 : 2 ≤ i := Nat.le_of_not_lt (fun q => nI_ge q (by omega) h_99)
                               simp_all [bI]; done)
                            | (simp_all [bI]; done)
                         rw [key]; rfl)
                      | (have key : wMay i (!(tp l && tp r)) (o_comm (le k)) 1 = false := by
                          simp only [wMay]
                          first
                            | (have i2 : ¬ 2 ≤ i := fun q => h_99 (nI_le q (by omega))
                               simp_all [bI]; done)
                            | (simp_all [bI]; done)
                         rw [key]; rfl)
              · skip
                refine r_iload_n (i := 3) d_Model_costBy_102 rfl rfl ?_
                refine r_iconst 1 d_Model_costBy_103 ic_1 ?_
                refine r_icmp_eq 117 d_Model_costBy_104 (by decide) (fun h_104 => ?_) (fun h_104 => ?_)
                · skip
                  refine r_ldc w_1082 d_Model_costBy_117 ?_
                  refine r_iret rfl d_Model_costBy_119 ?_
                  refine ⟨?_, rfl⟩
                  first
                    | (have key : wMay i (!(tp l && tp r)) (o_comm (le k)) 1 = true := by
                        simp only [wMay]
                        first
                          | rfl
                          | (have i2 : 2 ≤ i := Nat.le_of_not_lt (fun q => nI_ge q (by omega) h_99)
                             simp_all [bI]; done)
                          | (simp_all [bI]; done)
                       rw [key]; rfl)
                    | (have key : wMay i (!(tp l && tp r)) (o_comm (le k)) 1 = false := by
                        simp only [wMay]
                        first
                          | (have i2 : ¬ 2 ≤ i := fun q => h_99 (nI_le q (by omega))
                             simp_all [bI]; done)
                          | (simp_all [bI]; done)
                       rw [key]; rfl)
                · exact absurd h_104 (by decide)
          · exact absurd h_73 (by decide)
      · exact absurd h_49 (by decide)
    · skip
      refine r_iconst 1 d_Model_costBy_40 ic_1 ?_
      refine r_goto 45 d_Model_costBy_41 (by decide) ?_
      refine r_istore d_Model_costBy_45 (Nat.le_of_ble_eq_true rfl) rfl ?_
      dsimp only [List.set]
      refine r_iload_n (i := 3) d_Model_costBy_47 rfl rfl ?_
      refine r_iconst 4 d_Model_costBy_48 ic_4 ?_
      refine r_icmp_ne 66 d_Model_costBy_49 (by decide) (fun h_49 => ?_) (fun h_49 => ?_)
      · skip
        refine r_iload_n (i := 3) d_Model_costBy_66 rfl rfl ?_
        refine r_iconst 2 d_Model_costBy_67 ic_2 ?_
        refine r_icmp_eq 76 d_Model_costBy_68 (by decide) (fun h_68 => ?_) (fun h_68 => ?_)
        · exact absurd h_68 (by decide)
        · skip
          refine r_iload_n (i := 3) d_Model_costBy_71 rfl rfl ?_
          refine r_iconst 3 d_Model_costBy_72 ic_3 ?_
          refine r_icmp_ne 89 d_Model_costBy_73 (by decide) (fun h_73 => ?_) (fun h_73 => ?_)
          · skip
            refine r_iconst 1 d_Model_costBy_89 ic_1 ?_
            refine r_istore d_Model_costBy_90 (Nat.le_of_ble_eq_true rfl) rfl ?_
            dsimp only [List.set]
            refine r_iload d_Model_costBy_92 rfl ?_
            refine r_if_eq 117 d_Model_costBy_94 (by decide) (fun h_94 => ?_) (fun h_94 => ?_)
            · exact absurd h_94 (by decide)
            · skip
              refine r_iload_n (i := 2) d_Model_costBy_97 rfl rfl ?_
              refine r_iconst 2 d_Model_costBy_98 ic_2 ?_
              refine r_icmp_ge 120 d_Model_costBy_99 (by decide) (fun h_99 => ?_) (fun h_99 => ?_)
              · skip
                have i2 : 2 ≤ i := Nat.le_of_not_lt (fun q => nI_ge q (by omega) h_99)
                refine r_iload_n (i := 3) d_Model_costBy_120 rfl rfl ?_
                refine r_iconst 3 d_Model_costBy_121 ic_3 ?_
                refine r_icmp_ge 186 d_Model_costBy_122 (by decide) (fun h_122 => ?_) (fun h_122 => ?_)
                · exact absurd h_122 (by decide)
                · skip
                  refine r_iload_n (i := 3) d_Model_costBy_125 rfl rfl ?_
                  refine r_iconst 1 d_Model_costBy_126 ic_1 ?_
                  refine r_icmp_ne 159 d_Model_costBy_127 (by decide) (fun h_127 => ?_) (fun h_127 => ?_)
                  · exact absurd h_127 (by decide)
                  · skip
                    refine r_aload_n (i := 0) d_Model_costBy_130 rfl rfl ?_
                    refine r_iload d_Model_costBy_131 rfl ?_
                    refine r_iload_n (i := 2) d_Model_costBy_133 rfl rfl ?_
                    refine r_V2 v_Model_costAt w_1083 lm_0 (c_Model_costAt (by omega) (hC l (by omega) (i) (by omega) (by omega))) (Nat.le_of_ble_eq_true rfl) (Nat.le_of_ble_eq_true rfl) d_Model_costBy_134 ?_
                    refine r_aload_n (i := 0) d_Model_costBy_137 rfl rfl ?_
                    refine r_iload d_Model_costBy_138 rfl ?_
                    refine r_iload_n (i := 2) d_Model_costBy_140 rfl rfl ?_
                    refine r_iconst 1 d_Model_costBy_141 ic_1 ?_
                    refine r_isubN (a := i) (b := 1) d_Model_costBy_142 rfl rfl (by omega) ?_
                    refine r_V2 v_Model_costAt w_1083 lm_0 (c_Model_costAt (by omega) (hC r (by omega) (i - 1) (by omega) (by omega))) (Nat.le_of_ble_eq_true rfl) (Nat.le_of_ble_eq_true rfl) d_Model_costBy_143 ?_
                    refine r_iaddN (a := (C l i)) (b := (C r (i - 1))) d_Model_costBy_146 rfl rfl ?_
                    refine r_aload_n (i := 0) d_Model_costBy_147 rfl rfl ?_
                    refine r_getr nf_Model_16 lm_0 rfl d_Model_costBy_148 ?_
                    refine r_sipush 136 d_Model_costBy_151 sp_136 ?_
                    refine r_ia (q := 136) lm_3 rfl (by omega) (by decide) ((hS.gmc (j := 3) (by omega))) d_Model_costBy_154 ?_
                    refine r_iaddN (a := ((C l i) + (C r (i - 1)))) (b := (mc 3)) d_Model_costBy_155 rfl rfl ?_
                    refine r_goto 185 d_Model_costBy_156 (by decide) ?_
                    refine r_iret rfl d_Model_costBy_185 ?_
                    refine ⟨?_, rfl⟩
                    first
                      | (have key : wMay i (!(tp l && tp r)) (o_comm (le k)) 1 = true := by
                          simp only [wMay]
                          first
                            | rfl
                            | (have i2 : 2 ≤ i := Nat.le_of_not_lt (fun q => nI_ge q (by omega) h_99)
                               simp_all [bI]; done)
                            | (simp_all [bI]; done)
                         rw [key]; rfl)
                      | (have key : wMay i (!(tp l && tp r)) (o_comm (le k)) 1 = false := by
                          simp only [wMay]
                          first
                            | (have i2 : ¬ 2 ≤ i := fun q => h_99 (nI_le q (by omega))
                               simp_all [bI]; done)
                            | (simp_all [bI]; done)
                         rw [key]; rfl)
              · skip
                refine r_iload_n (i := 3) d_Model_costBy_102 rfl rfl ?_
                refine r_iconst 1 d_Model_costBy_103 ic_1 ?_
                refine r_icmp_eq 117 d_Model_costBy_104 (by decide) (fun h_104 => ?_) (fun h_104 => ?_)
                · skip
                  refine r_ldc w_1082 d_Model_costBy_117 ?_
                  refine r_iret rfl d_Model_costBy_119 ?_
                  refine ⟨?_, rfl⟩
                  first
                    | (have key : wMay i (!(tp l && tp r)) (o_comm (le k)) 1 = true := by
                        simp only [wMay]
                        first
                          | rfl
                          | (have i2 : 2 ≤ i := Nat.le_of_not_lt (fun q => nI_ge q (by omega) h_99)
                             simp_all [bI]; done)
                          | (simp_all [bI]; done)
                       rw [key]; rfl)
                    | (have key : wMay i (!(tp l && tp r)) (o_comm (le k)) 1 = false := by
                        simp only [wMay]
                        first
                          | (have i2 : ¬ 2 ≤ i := fun q => h_99 (nI_le q (by omega))
                             simp_all [bI]; done)
                          | (simp_all [bI]; done)
                       rw [key]; rfl)
                · exact absurd h_104 (by decide)
          · exact absurd h_73 (by decide)
      · exact absurd h_49 (by decide)

set_option maxHeartbeats 2000000 in
theorem c_Model_costBy2 (hS : MS n le nu lf rt nm mc (M 3)) (hw : WF n le nu lf rt z) (ht : ∀ k, k < n → TPk le lf rt z tp k) (hmk : MOK mc) {k i l r : Nat} (hk : k < n) (hl : l < k) (hr : r < k) (el : lf k = nI l) (er : rt k = nI r) (hi1 : 1 ≤ i) (hi : i ≤ mc 0) (hlv : ∀ j, j < n → M 11 j = bI (lv j)) (hC : ∀ j, j < k → ∀ i, 1 ≤ i → i ≤ mc 0 → M 12 (7 * j + i) = nI (C j i)) : CF G LM m_Model_costBy 2 [.ref (G.2.2 0), .int (nI k), .int (nI i), .int 2] M (some (.int (nI (if wMay i (!(tp l && tp r)) (o_comm (le k)) 2 then wPr mc lv C l r i 2 else 99999)))) M := by
  have hn := hw.1
  have h6 := hmk.2.1
  refine CJ_of2 (n0 := 4) (by decide) rfl rfl ?_
  simp only [List.map_cons, List.map_nil, List.cons_append, List.nil_append, List.reduceReplicate]
  refine r_aload_n (i := 0) d_Model_costBy_0 rfl rfl ?_
  refine r_getr nf_Model_16 lm_0 rfl d_Model_costBy_1 ?_
  refine r_bipush 63 d_Model_costBy_4 bp_63 ?_
  refine r_iload_n (i := 1) d_Model_costBy_6 rfl rfl ?_
  refine r_iaddN (a := 63) (b := k) d_Model_costBy_7 rfl rfl ?_
  refine r_ia (q := (63 + k)) lm_3 rfl (by omega) (by decide) ((hS.glf (j := k) (by omega)).trans el) d_Model_costBy_8 ?_
  refine r_istore d_Model_costBy_9 (Nat.le_of_ble_eq_true rfl) rfl ?_
  dsimp only [List.set]
  refine r_aload_n (i := 0) d_Model_costBy_11 rfl rfl ?_
  refine r_getr nf_Model_16 lm_0 rfl d_Model_costBy_12 ?_
  refine r_bipush 94 d_Model_costBy_15 bp_94 ?_
  refine r_iload_n (i := 1) d_Model_costBy_17 rfl rfl ?_
  refine r_iaddN (a := 94) (b := k) d_Model_costBy_18 rfl rfl ?_
  refine r_ia (q := (94 + k)) lm_3 rfl (by omega) (by decide) ((hS.grt (j := k) (by omega)).trans er) d_Model_costBy_19 ?_
  refine r_istore d_Model_costBy_20 (Nat.le_of_ble_eq_true rfl) rfl ?_
  dsimp only [List.set]
  refine r_aload_n (i := 0) d_Model_costBy_22 rfl rfl ?_
  refine r_iload d_Model_costBy_23 rfl ?_
  refine r_V1 v_Model_mayTrap w_1036 lm_0 (c_Model_mayTrap hS hw ht (show l < n by omega)) (Nat.le_of_ble_eq_true rfl) (Nat.le_of_ble_eq_true rfl) d_Model_costBy_25 ?_
  refine r_if_eq 44 d_Model_costBy_28 (by decide) (fun h_28 => ?_) (fun h_28 => ?_)
  · skip
    refine r_iconst 0 d_Model_costBy_44 ic_0 ?_
    refine r_istore d_Model_costBy_45 (Nat.le_of_ble_eq_true rfl) rfl ?_
    dsimp only [List.set]
    refine r_iload_n (i := 3) d_Model_costBy_47 rfl rfl ?_
    refine r_iconst 4 d_Model_costBy_48 ic_4 ?_
    refine r_icmp_ne 66 d_Model_costBy_49 (by decide) (fun h_49 => ?_) (fun h_49 => ?_)
    · skip
      refine r_iload_n (i := 3) d_Model_costBy_66 rfl rfl ?_
      refine r_iconst 2 d_Model_costBy_67 ic_2 ?_
      refine r_icmp_eq 76 d_Model_costBy_68 (by decide) (fun h_68 => ?_) (fun h_68 => ?_)
      · skip
        refine r_iload d_Model_costBy_76 rfl ?_
        refine r_if_ne 85 d_Model_costBy_78 (by decide) (fun h_78 => ?_) (fun h_78 => ?_)
        · exact absurd h_78 (by decide)
        · skip
          refine r_iconst 1 d_Model_costBy_81 ic_1 ?_
          refine r_goto 90 d_Model_costBy_82 (by decide) ?_
          refine r_istore d_Model_costBy_90 (Nat.le_of_ble_eq_true rfl) rfl ?_
          dsimp only [List.set]
          refine r_iload d_Model_costBy_92 rfl ?_
          refine r_if_eq 117 d_Model_costBy_94 (by decide) (fun h_94 => ?_) (fun h_94 => ?_)
          · exact absurd h_94 (by decide)
          · skip
            refine r_iload_n (i := 2) d_Model_costBy_97 rfl rfl ?_
            refine r_iconst 2 d_Model_costBy_98 ic_2 ?_
            refine r_icmp_ge 120 d_Model_costBy_99 (by decide) (fun h_99 => ?_) (fun h_99 => ?_)
            · skip
              have i2 : 2 ≤ i := Nat.le_of_not_lt (fun q => nI_ge q (by omega) h_99)
              refine r_iload_n (i := 3) d_Model_costBy_120 rfl rfl ?_
              refine r_iconst 3 d_Model_costBy_121 ic_3 ?_
              refine r_icmp_ge 186 d_Model_costBy_122 (by decide) (fun h_122 => ?_) (fun h_122 => ?_)
              · exact absurd h_122 (by decide)
              · skip
                refine r_iload_n (i := 3) d_Model_costBy_125 rfl rfl ?_
                refine r_iconst 1 d_Model_costBy_126 ic_1 ?_
                refine r_icmp_ne 159 d_Model_costBy_127 (by decide) (fun h_127 => ?_) (fun h_127 => ?_)
                · skip
                  refine r_aload_n (i := 0) d_Model_costBy_159 rfl rfl ?_
                  refine r_iload d_Model_costBy_160 rfl ?_
                  refine r_iload_n (i := 2) d_Model_costBy_162 rfl rfl ?_
                  refine r_V2 v_Model_costAt w_1083 lm_0 (c_Model_costAt (by omega) (hC r (by omega) (i) (by omega) (by omega))) (Nat.le_of_ble_eq_true rfl) (Nat.le_of_ble_eq_true rfl) d_Model_costBy_163 ?_
                  refine r_aload_n (i := 0) d_Model_costBy_166 rfl rfl ?_
                  refine r_iload d_Model_costBy_167 rfl ?_
                  refine r_iload_n (i := 2) d_Model_costBy_169 rfl rfl ?_
                  refine r_iconst 1 d_Model_costBy_170 ic_1 ?_
                  refine r_isubN (a := i) (b := 1) d_Model_costBy_171 rfl rfl (by omega) ?_
                  refine r_V2 v_Model_costAt w_1083 lm_0 (c_Model_costAt (by omega) (hC l (by omega) (i - 1) (by omega) (by omega))) (Nat.le_of_ble_eq_true rfl) (Nat.le_of_ble_eq_true rfl) d_Model_costBy_172 ?_
                  refine r_iaddN (a := (C r i)) (b := (C l (i - 1))) d_Model_costBy_175 rfl rfl ?_
                  refine r_aload_n (i := 0) d_Model_costBy_176 rfl rfl ?_
                  refine r_getr nf_Model_16 lm_0 rfl d_Model_costBy_177 ?_
                  refine r_sipush 136 d_Model_costBy_180 sp_136 ?_
                  refine r_ia (q := 136) lm_3 rfl (by omega) (by decide) ((hS.gmc (j := 3) (by omega))) d_Model_costBy_183 ?_
                  refine r_iaddN (a := ((C r i) + (C l (i - 1)))) (b := (mc 3)) d_Model_costBy_184 rfl rfl ?_
                  refine r_iret rfl d_Model_costBy_185 ?_
                  refine ⟨?_, rfl⟩
                  first
                    | (have key : wMay i (!(tp l && tp r)) (o_comm (le k)) 2 = true := by
                        simp only [wMay]
                        first
                          | rfl
                          | (have i2 : 2 ≤ i := Nat.le_of_not_lt (fun q => nI_ge q (by omega) h_99)
                             simp_all [bI]; done)
                          | (simp_all [bI]; done)
                       rw [key]; rfl)
                    | (have key : wMay i (!(tp l && tp r)) (o_comm (le k)) 2 = false := by
                        simp only [wMay]
                        first
                          | (have i2 : ¬ 2 ≤ i := fun q => h_99 (nI_le q (by omega))
                             simp_all [bI]; done)
                          | (simp_all [bI]; done)
                       rw [key]; rfl)
                · exact absurd h_127 (by decide)
            · skip
              refine r_iload_n (i := 3) d_Model_costBy_102 rfl rfl ?_
              refine r_iconst 1 d_Model_costBy_103 ic_1 ?_
              refine r_icmp_eq 117 d_Model_costBy_104 (by decide) (fun h_104 => ?_) (fun h_104 => ?_)
              · exact absurd h_104 (by decide)
              · skip
                refine r_iload_n (i := 3) d_Model_costBy_107 rfl rfl ?_
                refine r_iconst 2 d_Model_costBy_108 ic_2 ?_
                refine r_icmp_eq 117 d_Model_costBy_109 (by decide) (fun h_109 => ?_) (fun h_109 => ?_)
                · skip
                  refine r_ldc w_1082 d_Model_costBy_117 ?_
                  refine r_iret rfl d_Model_costBy_119 ?_
                  refine ⟨?_, rfl⟩
                  first
                    | (have key : wMay i (!(tp l && tp r)) (o_comm (le k)) 2 = true := by
                        simp only [wMay]
                        first
                          | rfl
                          | (have i2 : 2 ≤ i := Nat.le_of_not_lt (fun q => nI_ge q (by omega) h_99)
                             simp_all [bI]; done)
                          | (simp_all [bI]; done)
                       rw [key]; rfl)
                    | (have key : wMay i (!(tp l && tp r)) (o_comm (le k)) 2 = false := by
                        simp only [wMay]
                        first
                          | (have i2 : ¬ 2 ≤ i := fun q => h_99 (nI_le q (by omega))
                             simp_all [bI]; done)
                          | (simp_all [bI]; done)
                       rw [key]; rfl)
                · exact absurd h_109 (by decide)
      · exact absurd h_68 (by decide)
    · exact absurd h_49 (by decide)
  · skip
    refine r_aload_n (i := 0) d_Model_costBy_31 rfl rfl ?_
    refine r_iload d_Model_costBy_32 rfl ?_
    refine r_V1 v_Model_mayTrap w_1036 lm_0 (c_Model_mayTrap hS hw ht (show r < n by omega)) (Nat.le_of_ble_eq_true rfl) (Nat.le_of_ble_eq_true rfl) d_Model_costBy_34 ?_
    refine r_if_eq 44 d_Model_costBy_37 (by decide) (fun h_37 => ?_) (fun h_37 => ?_)
    · skip
      refine r_iconst 0 d_Model_costBy_44 ic_0 ?_
      refine r_istore d_Model_costBy_45 (Nat.le_of_ble_eq_true rfl) rfl ?_
      dsimp only [List.set]
      refine r_iload_n (i := 3) d_Model_costBy_47 rfl rfl ?_
      refine r_iconst 4 d_Model_costBy_48 ic_4 ?_
      refine r_icmp_ne 66 d_Model_costBy_49 (by decide) (fun h_49 => ?_) (fun h_49 => ?_)
      · skip
        refine r_iload_n (i := 3) d_Model_costBy_66 rfl rfl ?_
        refine r_iconst 2 d_Model_costBy_67 ic_2 ?_
        refine r_icmp_eq 76 d_Model_costBy_68 (by decide) (fun h_68 => ?_) (fun h_68 => ?_)
        · skip
          refine r_iload d_Model_costBy_76 rfl ?_
          refine r_if_ne 85 d_Model_costBy_78 (by decide) (fun h_78 => ?_) (fun h_78 => ?_)
          · exact absurd h_78 (by decide)
          · skip
            refine r_iconst 1 d_Model_costBy_81 ic_1 ?_
            refine r_goto 90 d_Model_costBy_82 (by decide) ?_
            refine r_istore d_Model_costBy_90 (Nat.le_of_ble_eq_true rfl) rfl ?_
            dsimp only [List.set]
            refine r_iload d_Model_costBy_92 rfl ?_
            refine r_if_eq 117 d_Model_costBy_94 (by decide) (fun h_94 => ?_) (fun h_94 => ?_)
            · exact absurd h_94 (by decide)
            · skip
              refine r_iload_n (i := 2) d_Model_costBy_97 rfl rfl ?_
              refine r_iconst 2 d_Model_costBy_98 ic_2 ?_
              refine r_icmp_ge 120 d_Model_costBy_99 (by decide) (fun h_99 => ?_) (fun h_99 => ?_)
              · skip
                have i2 : 2 ≤ i := Nat.le_of_not_lt (fun q => nI_ge q (by omega) h_99)
                refine r_iload_n (i := 3) d_Model_costBy_120 rfl rfl ?_
                refine r_iconst 3 d_Model_costBy_121 ic_3 ?_
                refine r_icmp_ge 186 d_Model_costBy_122 (by decide) (fun h_122 => ?_) (fun h_122 => ?_)
                · exact absurd h_122 (by decide)
                · skip
                  refine r_iload_n (i := 3) d_Model_costBy_125 rfl rfl ?_
                  refine r_iconst 1 d_Model_costBy_126 ic_1 ?_
                  refine r_icmp_ne 159 d_Model_costBy_127 (by decide) (fun h_127 => ?_) (fun h_127 => ?_)
                  · skip
                    refine r_aload_n (i := 0) d_Model_costBy_159 rfl rfl ?_
                    refine r_iload d_Model_costBy_160 rfl ?_
                    refine r_iload_n (i := 2) d_Model_costBy_162 rfl rfl ?_
                    refine r_V2 v_Model_costAt w_1083 lm_0 (c_Model_costAt (by omega) (hC r (by omega) (i) (by omega) (by omega))) (Nat.le_of_ble_eq_true rfl) (Nat.le_of_ble_eq_true rfl) d_Model_costBy_163 ?_
                    refine r_aload_n (i := 0) d_Model_costBy_166 rfl rfl ?_
                    refine r_iload d_Model_costBy_167 rfl ?_
                    refine r_iload_n (i := 2) d_Model_costBy_169 rfl rfl ?_
                    refine r_iconst 1 d_Model_costBy_170 ic_1 ?_
                    refine r_isubN (a := i) (b := 1) d_Model_costBy_171 rfl rfl (by omega) ?_
                    refine r_V2 v_Model_costAt w_1083 lm_0 (c_Model_costAt (by omega) (hC l (by omega) (i - 1) (by omega) (by omega))) (Nat.le_of_ble_eq_true rfl) (Nat.le_of_ble_eq_true rfl) d_Model_costBy_172 ?_
                    refine r_iaddN (a := (C r i)) (b := (C l (i - 1))) d_Model_costBy_175 rfl rfl ?_
                    refine r_aload_n (i := 0) d_Model_costBy_176 rfl rfl ?_
                    refine r_getr nf_Model_16 lm_0 rfl d_Model_costBy_177 ?_
                    refine r_sipush 136 d_Model_costBy_180 sp_136 ?_
                    refine r_ia (q := 136) lm_3 rfl (by omega) (by decide) ((hS.gmc (j := 3) (by omega))) d_Model_costBy_183 ?_
                    refine r_iaddN (a := ((C r i) + (C l (i - 1)))) (b := (mc 3)) d_Model_costBy_184 rfl rfl ?_
                    refine r_iret rfl d_Model_costBy_185 ?_
                    refine ⟨?_, rfl⟩
                    first
                      | (have key : wMay i (!(tp l && tp r)) (o_comm (le k)) 2 = true := by
                          simp only [wMay]
                          first
                            | rfl
                            | (have i2 : 2 ≤ i := Nat.le_of_not_lt (fun q => nI_ge q (by omega) h_99)
                               simp_all [bI]; done)
                            | (simp_all [bI]; done)
                         rw [key]; rfl)
                      | (have key : wMay i (!(tp l && tp r)) (o_comm (le k)) 2 = false := by
                          simp only [wMay]
                          first
                            | (have i2 : ¬ 2 ≤ i := fun q => h_99 (nI_le q (by omega))
                               simp_all [bI]; done)
                            | (simp_all [bI]; done)
                         rw [key]; rfl)
                  · exact absurd h_127 (by decide)
              · skip
                refine r_iload_n (i := 3) d_Model_costBy_102 rfl rfl ?_
                refine r_iconst 1 d_Model_costBy_103 ic_1 ?_
                refine r_icmp_eq 117 d_Model_costBy_104 (by decide) (fun h_104 => ?_) (fun h_104 => ?_)
                · exact absurd h_104 (by decide)
                · skip
                  refine r_iload_n (i := 3) d_Model_costBy_107 rfl rfl ?_
                  refine r_iconst 2 d_Model_costBy_108 ic_2 ?_
                  refine r_icmp_eq 117 d_Model_costBy_109 (by decide) (fun h_109 => ?_) (fun h_109 => ?_)
                  · skip
                    refine r_ldc w_1082 d_Model_costBy_117 ?_
                    refine r_iret rfl d_Model_costBy_119 ?_
                    refine ⟨?_, rfl⟩
                    first
                      | (have key : wMay i (!(tp l && tp r)) (o_comm (le k)) 2 = true := by
                          simp only [wMay]
                          first
                            | rfl
                            | (have i2 : 2 ≤ i := Nat.le_of_not_lt (fun q => nI_ge q (by omega) h_99)
                               simp_all [bI]; done)
                            | (simp_all [bI]; done)
                         rw [key]; rfl)
                      | (have key : wMay i (!(tp l && tp r)) (o_comm (le k)) 2 = false := by
                          simp only [wMay]
                          first
                            | (have i2 : ¬ 2 ≤ i := fun q => h_99 (nI_le q (by omega))
                               simp_all [bI]; done)
                            | (simp_all [bI]; done)
                         rw [key]; rfl)
                  · exact absurd h_109 (by decide)
        · exact absurd h_68 (by decide)
      · exact absurd h_49 (by decide)
    · skip
      refine r_iconst 1 d_Model_costBy_40 ic_1 ?_
      refine r_goto 45 d_Model_costBy_41 (by decide) ?_
      refine r_istore d_Model_costBy_45 (Nat.le_of_ble_eq_true rfl) rfl ?_
      dsimp only [List.set]
      refine r_iload_n (i := 3) d_Model_costBy_47 rfl rfl ?_
      refine r_iconst 4 d_Model_costBy_48 ic_4 ?_
      refine r_icmp_ne 66 d_Model_costBy_49 (by decide) (fun h_49 => ?_) (fun h_49 => ?_)
      · skip
        refine r_iload_n (i := 3) d_Model_costBy_66 rfl rfl ?_
        refine r_iconst 2 d_Model_costBy_67 ic_2 ?_
        refine r_icmp_eq 76 d_Model_costBy_68 (by decide) (fun h_68 => ?_) (fun h_68 => ?_)
        · skip
          refine r_iload d_Model_costBy_76 rfl ?_
          refine r_if_ne 85 d_Model_costBy_78 (by decide) (fun h_78 => ?_) (fun h_78 => ?_)
          · skip
            refine r_iconst 0 d_Model_costBy_85 ic_0 ?_
            refine r_goto 90 d_Model_costBy_86 (by decide) ?_
            refine r_istore d_Model_costBy_90 (Nat.le_of_ble_eq_true rfl) rfl ?_
            dsimp only [List.set]
            refine r_iload d_Model_costBy_92 rfl ?_
            refine r_if_eq 117 d_Model_costBy_94 (by decide) (fun h_94 => ?_) (fun h_94 => ?_)
            · skip
              refine r_ldc w_1082 d_Model_costBy_117 ?_
              refine r_iret rfl d_Model_costBy_119 ?_
              refine ⟨?_, rfl⟩
              first
                | (have key : wMay i (!(tp l && tp r)) (o_comm (le k)) 2 = true := by
                    simp only [wMay]
                    first
                      | rfl
                      | (have i2 : 2 ≤ i := Nat.le_of_not_lt (fun q => nI_ge q (by omega) h_99)
                         simp_all [bI]; done)
                      | (simp_all [bI]; done)
                   rw [key]; rfl)
                | (have key : wMay i (!(tp l && tp r)) (o_comm (le k)) 2 = false := by
                    simp only [wMay]
                    first
                      | (have i2 : ¬ 2 ≤ i := fun q => h_99 (nI_le q (by omega))
                         simp_all [bI]; done)
                      | (simp_all [bI]; done)
                   rw [key]; rfl)
            · exact absurd h_94 (by decide)
          · exact absurd h_78 (by decide)
        · exact absurd h_68 (by decide)
      · exact absurd h_49 (by decide)

set_option maxHeartbeats 2000000 in
theorem c_Model_costBy3 (hS : MS n le nu lf rt nm mc (M 3)) (hw : WF n le nu lf rt z) (ht : ∀ k, k < n → TPk le lf rt z tp k) (hmk : MOK mc) {k i l r : Nat} (hk : k < n) (hl : l < k) (hr : r < k) (el : lf k = nI l) (er : rt k = nI r) (hi1 : 1 ≤ i) (hi : i ≤ mc 0) (hlv : ∀ j, j < n → M 11 j = bI (lv j)) (hC : ∀ j, j < k → ∀ i, 1 ≤ i → i ≤ mc 0 → M 12 (7 * j + i) = nI (C j i)) : CF G LM m_Model_costBy 2 [.ref (G.2.2 0), .int (nI k), .int (nI i), .int 3] M (some (.int (nI (if wMay i (!(tp l && tp r)) (o_comm (le k)) 3 then wPr mc lv C l r i 3 else 99999)))) M := by
  have hn := hw.1
  have h6 := hmk.2.1
  refine CJ_of2 (n0 := 4) (by decide) rfl rfl ?_
  simp only [List.map_cons, List.map_nil, List.cons_append, List.nil_append, List.reduceReplicate]
  refine r_aload_n (i := 0) d_Model_costBy_0 rfl rfl ?_
  refine r_getr nf_Model_16 lm_0 rfl d_Model_costBy_1 ?_
  refine r_bipush 63 d_Model_costBy_4 bp_63 ?_
  refine r_iload_n (i := 1) d_Model_costBy_6 rfl rfl ?_
  refine r_iaddN (a := 63) (b := k) d_Model_costBy_7 rfl rfl ?_
  refine r_ia (q := (63 + k)) lm_3 rfl (by omega) (by decide) ((hS.glf (j := k) (by omega)).trans el) d_Model_costBy_8 ?_
  refine r_istore d_Model_costBy_9 (Nat.le_of_ble_eq_true rfl) rfl ?_
  dsimp only [List.set]
  refine r_aload_n (i := 0) d_Model_costBy_11 rfl rfl ?_
  refine r_getr nf_Model_16 lm_0 rfl d_Model_costBy_12 ?_
  refine r_bipush 94 d_Model_costBy_15 bp_94 ?_
  refine r_iload_n (i := 1) d_Model_costBy_17 rfl rfl ?_
  refine r_iaddN (a := 94) (b := k) d_Model_costBy_18 rfl rfl ?_
  refine r_ia (q := (94 + k)) lm_3 rfl (by omega) (by decide) ((hS.grt (j := k) (by omega)).trans er) d_Model_costBy_19 ?_
  refine r_istore d_Model_costBy_20 (Nat.le_of_ble_eq_true rfl) rfl ?_
  dsimp only [List.set]
  refine r_aload_n (i := 0) d_Model_costBy_22 rfl rfl ?_
  refine r_iload d_Model_costBy_23 rfl ?_
  refine r_V1 v_Model_mayTrap w_1036 lm_0 (c_Model_mayTrap hS hw ht (show l < n by omega)) (Nat.le_of_ble_eq_true rfl) (Nat.le_of_ble_eq_true rfl) d_Model_costBy_25 ?_
  refine r_if_eq 44 d_Model_costBy_28 (by decide) (fun h_28 => ?_) (fun h_28 => ?_)
  · skip
    refine r_iconst 0 d_Model_costBy_44 ic_0 ?_
    refine r_istore d_Model_costBy_45 (Nat.le_of_ble_eq_true rfl) rfl ?_
    dsimp only [List.set]
    refine r_iload_n (i := 3) d_Model_costBy_47 rfl rfl ?_
    refine r_iconst 4 d_Model_costBy_48 ic_4 ?_
    refine r_icmp_ne 66 d_Model_costBy_49 (by decide) (fun h_49 => ?_) (fun h_49 => ?_)
    · skip
      refine r_iload_n (i := 3) d_Model_costBy_66 rfl rfl ?_
      refine r_iconst 2 d_Model_costBy_67 ic_2 ?_
      refine r_icmp_eq 76 d_Model_costBy_68 (by decide) (fun h_68 => ?_) (fun h_68 => ?_)
      · exact absurd h_68 (by decide)
      · skip
        refine r_iload_n (i := 3) d_Model_costBy_71 rfl rfl ?_
        refine r_iconst 3 d_Model_costBy_72 ic_3 ?_
        refine r_icmp_ne 89 d_Model_costBy_73 (by decide) (fun h_73 => ?_) (fun h_73 => ?_)
        · exact absurd h_73 (by decide)
        · skip
          refine r_iload d_Model_costBy_76 rfl ?_
          refine r_if_ne 85 d_Model_costBy_78 (by decide) (fun h_78 => ?_) (fun h_78 => ?_)
          · exact absurd h_78 (by decide)
          · skip
            refine r_iconst 1 d_Model_costBy_81 ic_1 ?_
            refine r_goto 90 d_Model_costBy_82 (by decide) ?_
            refine r_istore d_Model_costBy_90 (Nat.le_of_ble_eq_true rfl) rfl ?_
            dsimp only [List.set]
            refine r_iload d_Model_costBy_92 rfl ?_
            refine r_if_eq 117 d_Model_costBy_94 (by decide) (fun h_94 => ?_) (fun h_94 => ?_)
            · exact absurd h_94 (by decide)
            · skip
              refine r_iload_n (i := 2) d_Model_costBy_97 rfl rfl ?_
              refine r_iconst 2 d_Model_costBy_98 ic_2 ?_
              refine r_icmp_ge 120 d_Model_costBy_99 (by decide) (fun h_99 => ?_) (fun h_99 => ?_)
              · skip
                refine r_iload_n (i := 3) d_Model_costBy_120 rfl rfl ?_
                refine r_iconst 3 d_Model_costBy_121 ic_3 ?_
                refine r_icmp_ge 186 d_Model_costBy_122 (by decide) (fun h_122 => ?_) (fun h_122 => ?_)
                · skip
                  refine r_iload_n (i := 3) d_Model_costBy_186 rfl rfl ?_
                  refine r_iconst 5 d_Model_costBy_187 ic_5 ?_
                  refine r_icmp_ge 248 d_Model_costBy_188 (by decide) (fun h_188 => ?_) (fun h_188 => ?_)
                  · exact absurd h_188 (by decide)
                  · skip
                    refine r_iload_n (i := 3) d_Model_costBy_191 rfl rfl ?_
                    refine r_iconst 3 d_Model_costBy_192 ic_3 ?_
                    refine r_icmp_ne 223 d_Model_costBy_193 (by decide) (fun h_193 => ?_) (fun h_193 => ?_)
                    · exact absurd h_193 (by decide)
                    · skip
                      refine r_aload_n (i := 0) d_Model_costBy_196 rfl rfl ?_
                      refine r_iload d_Model_costBy_197 rfl ?_
                      refine r_iload_n (i := 2) d_Model_costBy_199 rfl rfl ?_
                      refine r_V2 v_Model_keptAt w_1091 lm_0 (c_Model_keptAt hS (by omega) (by omega) (hlv r (by omega)) (hC r (by omega) i hi1 hi)) (Nat.le_of_ble_eq_true rfl) (Nat.le_of_ble_eq_true rfl) d_Model_costBy_200 ?_
                      refine r_aload_n (i := 0) d_Model_costBy_203 rfl rfl ?_
                      refine r_iload d_Model_costBy_204 rfl ?_
                      refine r_iload_n (i := 2) d_Model_costBy_206 rfl rfl ?_
                      refine r_V2 v_Model_costAt w_1083 lm_0 (c_Model_costAt (by omega) (hC l (by omega) (i) (by omega) (by omega))) (Nat.le_of_ble_eq_true rfl) (Nat.le_of_ble_eq_true rfl) d_Model_costBy_207 ?_
                      refine r_iaddN (a := (if lv r = true then 0 else C r i + mc 2)) (b := (C l i)) d_Model_costBy_210 rfl rfl ?_
                      refine r_aload_n (i := 0) d_Model_costBy_211 rfl rfl ?_
                      refine r_getr nf_Model_16 lm_0 rfl d_Model_costBy_212 ?_
                      refine r_sipush 137 d_Model_costBy_215 sp_137 ?_
                      refine r_ia (q := 137) lm_3 rfl (by omega) (by decide) ((hS.gmc (j := 4) (by omega))) d_Model_costBy_218 ?_
                      refine r_iaddN (a := ((if lv r = true then 0 else C r i + mc 2) + (C l i))) (b := (mc 4)) d_Model_costBy_219 rfl rfl ?_
                      refine r_goto 247 d_Model_costBy_220 (by decide) ?_
                      refine r_iret rfl d_Model_costBy_247 ?_
                      refine ⟨?_, rfl⟩
                      first
                        | (have key : wMay i (!(tp l && tp r)) (o_comm (le k)) 3 = true := by
                            simp only [wMay]
                            first
                              | rfl
                              | (have i2 : 2 ≤ i := Nat.le_of_not_lt (fun q => nI_ge q (by omega) h_99)
                                 simp_all [bI]; done)
                              | (simp_all [bI]; done)
                           rw [key]; rfl)
                        | (have key : wMay i (!(tp l && tp r)) (o_comm (le k)) 3 = false := by
                            simp only [wMay]
                            first
                              | (have i2 : ¬ 2 ≤ i := fun q => h_99 (nI_le q (by omega))
                                 simp_all [bI]; done)
                              | (simp_all [bI]; done)
                           rw [key]; rfl)
                · exact absurd h_122 (by decide)
              · skip
                refine r_iload_n (i := 3) d_Model_costBy_102 rfl rfl ?_
                refine r_iconst 1 d_Model_costBy_103 ic_1 ?_
                refine r_icmp_eq 117 d_Model_costBy_104 (by decide) (fun h_104 => ?_) (fun h_104 => ?_)
                · exact absurd h_104 (by decide)
                · skip
                  refine r_iload_n (i := 3) d_Model_costBy_107 rfl rfl ?_
                  refine r_iconst 2 d_Model_costBy_108 ic_2 ?_
                  refine r_icmp_eq 117 d_Model_costBy_109 (by decide) (fun h_109 => ?_) (fun h_109 => ?_)
                  · exact absurd h_109 (by decide)
                  · skip
                    refine r_iload_n (i := 3) d_Model_costBy_112 rfl rfl ?_
                    refine r_iconst 5 d_Model_costBy_113 ic_5 ?_
                    refine r_icmp_ne 120 d_Model_costBy_114 (by decide) (fun h_114 => ?_) (fun h_114 => ?_)
                    · skip
                      refine r_iload_n (i := 3) d_Model_costBy_120 rfl rfl ?_
                      refine r_iconst 3 d_Model_costBy_121 ic_3 ?_
                      refine r_icmp_ge 186 d_Model_costBy_122 (by decide) (fun h_122 => ?_) (fun h_122 => ?_)
                      · skip
                        refine r_iload_n (i := 3) d_Model_costBy_186 rfl rfl ?_
                        refine r_iconst 5 d_Model_costBy_187 ic_5 ?_
                        refine r_icmp_ge 248 d_Model_costBy_188 (by decide) (fun h_188 => ?_) (fun h_188 => ?_)
                        · exact absurd h_188 (by decide)
                        · skip
                          refine r_iload_n (i := 3) d_Model_costBy_191 rfl rfl ?_
                          refine r_iconst 3 d_Model_costBy_192 ic_3 ?_
                          refine r_icmp_ne 223 d_Model_costBy_193 (by decide) (fun h_193 => ?_) (fun h_193 => ?_)
                          · exact absurd h_193 (by decide)
                          · skip
                            refine r_aload_n (i := 0) d_Model_costBy_196 rfl rfl ?_
                            refine r_iload d_Model_costBy_197 rfl ?_
                            refine r_iload_n (i := 2) d_Model_costBy_199 rfl rfl ?_
                            refine r_V2 v_Model_keptAt w_1091 lm_0 (c_Model_keptAt hS (by omega) (by omega) (hlv r (by omega)) (hC r (by omega) i hi1 hi)) (Nat.le_of_ble_eq_true rfl) (Nat.le_of_ble_eq_true rfl) d_Model_costBy_200 ?_
                            refine r_aload_n (i := 0) d_Model_costBy_203 rfl rfl ?_
                            refine r_iload d_Model_costBy_204 rfl ?_
                            refine r_iload_n (i := 2) d_Model_costBy_206 rfl rfl ?_
                            refine r_V2 v_Model_costAt w_1083 lm_0 (c_Model_costAt (by omega) (hC l (by omega) (i) (by omega) (by omega))) (Nat.le_of_ble_eq_true rfl) (Nat.le_of_ble_eq_true rfl) d_Model_costBy_207 ?_
                            refine r_iaddN (a := (if lv r = true then 0 else C r i + mc 2)) (b := (C l i)) d_Model_costBy_210 rfl rfl ?_
                            refine r_aload_n (i := 0) d_Model_costBy_211 rfl rfl ?_
                            refine r_getr nf_Model_16 lm_0 rfl d_Model_costBy_212 ?_
                            refine r_sipush 137 d_Model_costBy_215 sp_137 ?_
                            refine r_ia (q := 137) lm_3 rfl (by omega) (by decide) ((hS.gmc (j := 4) (by omega))) d_Model_costBy_218 ?_
                            refine r_iaddN (a := ((if lv r = true then 0 else C r i + mc 2) + (C l i))) (b := (mc 4)) d_Model_costBy_219 rfl rfl ?_
                            refine r_goto 247 d_Model_costBy_220 (by decide) ?_
                            refine r_iret rfl d_Model_costBy_247 ?_
                            refine ⟨?_, rfl⟩
                            first
                              | (have key : wMay i (!(tp l && tp r)) (o_comm (le k)) 3 = true := by
                                  simp only [wMay]
                                  first
                                    | rfl
                                    | (have i2 : 2 ≤ i := Nat.le_of_not_lt (fun q => nI_ge q (by omega) h_99)
                                       simp_all [bI]; done)
                                    | (simp_all [bI]; done)
                                 rw [key]; rfl)
                              | (have key : wMay i (!(tp l && tp r)) (o_comm (le k)) 3 = false := by
                                  simp only [wMay]
                                  first
                                    | (have i2 : ¬ 2 ≤ i := fun q => h_99 (nI_le q (by omega))
                                       simp_all [bI]; done)
                                    | (simp_all [bI]; done)
                                 rw [key]; rfl)
                      · exact absurd h_122 (by decide)
                    · exact absurd h_114 (by decide)
    · exact absurd h_49 (by decide)
  · skip
    refine r_aload_n (i := 0) d_Model_costBy_31 rfl rfl ?_
    refine r_iload d_Model_costBy_32 rfl ?_
    refine r_V1 v_Model_mayTrap w_1036 lm_0 (c_Model_mayTrap hS hw ht (show r < n by omega)) (Nat.le_of_ble_eq_true rfl) (Nat.le_of_ble_eq_true rfl) d_Model_costBy_34 ?_
    refine r_if_eq 44 d_Model_costBy_37 (by decide) (fun h_37 => ?_) (fun h_37 => ?_)
    · skip
      refine r_iconst 0 d_Model_costBy_44 ic_0 ?_
      refine r_istore d_Model_costBy_45 (Nat.le_of_ble_eq_true rfl) rfl ?_
      dsimp only [List.set]
      refine r_iload_n (i := 3) d_Model_costBy_47 rfl rfl ?_
      refine r_iconst 4 d_Model_costBy_48 ic_4 ?_
      refine r_icmp_ne 66 d_Model_costBy_49 (by decide) (fun h_49 => ?_) (fun h_49 => ?_)
      · skip
        refine r_iload_n (i := 3) d_Model_costBy_66 rfl rfl ?_
        refine r_iconst 2 d_Model_costBy_67 ic_2 ?_
        refine r_icmp_eq 76 d_Model_costBy_68 (by decide) (fun h_68 => ?_) (fun h_68 => ?_)
        · exact absurd h_68 (by decide)
        · skip
          refine r_iload_n (i := 3) d_Model_costBy_71 rfl rfl ?_
          refine r_iconst 3 d_Model_costBy_72 ic_3 ?_
          refine r_icmp_ne 89 d_Model_costBy_73 (by decide) (fun h_73 => ?_) (fun h_73 => ?_)
          · exact absurd h_73 (by decide)
          · skip
            refine r_iload d_Model_costBy_76 rfl ?_
            refine r_if_ne 85 d_Model_costBy_78 (by decide) (fun h_78 => ?_) (fun h_78 => ?_)
            · exact absurd h_78 (by decide)
            · skip
              refine r_iconst 1 d_Model_costBy_81 ic_1 ?_
              refine r_goto 90 d_Model_costBy_82 (by decide) ?_
              refine r_istore d_Model_costBy_90 (Nat.le_of_ble_eq_true rfl) rfl ?_
              dsimp only [List.set]
              refine r_iload d_Model_costBy_92 rfl ?_
              refine r_if_eq 117 d_Model_costBy_94 (by decide) (fun h_94 => ?_) (fun h_94 => ?_)
              · exact absurd h_94 (by decide)
              · skip
                refine r_iload_n (i := 2) d_Model_costBy_97 rfl rfl ?_
                refine r_iconst 2 d_Model_costBy_98 ic_2 ?_
                refine r_icmp_ge 120 d_Model_costBy_99 (by decide) (fun h_99 => ?_) (fun h_99 => ?_)
                · skip
                  refine r_iload_n (i := 3) d_Model_costBy_120 rfl rfl ?_
                  refine r_iconst 3 d_Model_costBy_121 ic_3 ?_
                  refine r_icmp_ge 186 d_Model_costBy_122 (by decide) (fun h_122 => ?_) (fun h_122 => ?_)
                  · skip
                    refine r_iload_n (i := 3) d_Model_costBy_186 rfl rfl ?_
                    refine r_iconst 5 d_Model_costBy_187 ic_5 ?_
                    refine r_icmp_ge 248 d_Model_costBy_188 (by decide) (fun h_188 => ?_) (fun h_188 => ?_)
                    · exact absurd h_188 (by decide)
                    · skip
                      refine r_iload_n (i := 3) d_Model_costBy_191 rfl rfl ?_
                      refine r_iconst 3 d_Model_costBy_192 ic_3 ?_
                      refine r_icmp_ne 223 d_Model_costBy_193 (by decide) (fun h_193 => ?_) (fun h_193 => ?_)
                      · exact absurd h_193 (by decide)
                      · skip
                        refine r_aload_n (i := 0) d_Model_costBy_196 rfl rfl ?_
                        refine r_iload d_Model_costBy_197 rfl ?_
                        refine r_iload_n (i := 2) d_Model_costBy_199 rfl rfl ?_
                        refine r_V2 v_Model_keptAt w_1091 lm_0 (c_Model_keptAt hS (by omega) (by omega) (hlv r (by omega)) (hC r (by omega) i hi1 hi)) (Nat.le_of_ble_eq_true rfl) (Nat.le_of_ble_eq_true rfl) d_Model_costBy_200 ?_
                        refine r_aload_n (i := 0) d_Model_costBy_203 rfl rfl ?_
                        refine r_iload d_Model_costBy_204 rfl ?_
                        refine r_iload_n (i := 2) d_Model_costBy_206 rfl rfl ?_
                        refine r_V2 v_Model_costAt w_1083 lm_0 (c_Model_costAt (by omega) (hC l (by omega) (i) (by omega) (by omega))) (Nat.le_of_ble_eq_true rfl) (Nat.le_of_ble_eq_true rfl) d_Model_costBy_207 ?_
                        refine r_iaddN (a := (if lv r = true then 0 else C r i + mc 2)) (b := (C l i)) d_Model_costBy_210 rfl rfl ?_
                        refine r_aload_n (i := 0) d_Model_costBy_211 rfl rfl ?_
                        refine r_getr nf_Model_16 lm_0 rfl d_Model_costBy_212 ?_
                        refine r_sipush 137 d_Model_costBy_215 sp_137 ?_
                        refine r_ia (q := 137) lm_3 rfl (by omega) (by decide) ((hS.gmc (j := 4) (by omega))) d_Model_costBy_218 ?_
                        refine r_iaddN (a := ((if lv r = true then 0 else C r i + mc 2) + (C l i))) (b := (mc 4)) d_Model_costBy_219 rfl rfl ?_
                        refine r_goto 247 d_Model_costBy_220 (by decide) ?_
                        refine r_iret rfl d_Model_costBy_247 ?_
                        refine ⟨?_, rfl⟩
                        first
                          | (have key : wMay i (!(tp l && tp r)) (o_comm (le k)) 3 = true := by
                              simp only [wMay]
                              first
                                | rfl
                                | (have i2 : 2 ≤ i := Nat.le_of_not_lt (fun q => nI_ge q (by omega) h_99)
                                   simp_all [bI]; done)
                                | (simp_all [bI]; done)
                             rw [key]; rfl)
                          | (have key : wMay i (!(tp l && tp r)) (o_comm (le k)) 3 = false := by
                              simp only [wMay]
                              first
                                | (have i2 : ¬ 2 ≤ i := fun q => h_99 (nI_le q (by omega))
                                   simp_all [bI]; done)
                                | (simp_all [bI]; done)
                             rw [key]; rfl)
                  · exact absurd h_122 (by decide)
                · skip
                  refine r_iload_n (i := 3) d_Model_costBy_102 rfl rfl ?_
                  refine r_iconst 1 d_Model_costBy_103 ic_1 ?_
                  refine r_icmp_eq 117 d_Model_costBy_104 (by decide) (fun h_104 => ?_) (fun h_104 => ?_)
                  · exact absurd h_104 (by decide)
                  · skip
                    refine r_iload_n (i := 3) d_Model_costBy_107 rfl rfl ?_
                    refine r_iconst 2 d_Model_costBy_108 ic_2 ?_
                    refine r_icmp_eq 117 d_Model_costBy_109 (by decide) (fun h_109 => ?_) (fun h_109 => ?_)
                    · exact absurd h_109 (by decide)
                    · skip
                      refine r_iload_n (i := 3) d_Model_costBy_112 rfl rfl ?_
                      refine r_iconst 5 d_Model_costBy_113 ic_5 ?_
                      refine r_icmp_ne 120 d_Model_costBy_114 (by decide) (fun h_114 => ?_) (fun h_114 => ?_)
                      · skip
                        refine r_iload_n (i := 3) d_Model_costBy_120 rfl rfl ?_
                        refine r_iconst 3 d_Model_costBy_121 ic_3 ?_
                        refine r_icmp_ge 186 d_Model_costBy_122 (by decide) (fun h_122 => ?_) (fun h_122 => ?_)
                        · skip
                          refine r_iload_n (i := 3) d_Model_costBy_186 rfl rfl ?_
                          refine r_iconst 5 d_Model_costBy_187 ic_5 ?_
                          refine r_icmp_ge 248 d_Model_costBy_188 (by decide) (fun h_188 => ?_) (fun h_188 => ?_)
                          · exact absurd h_188 (by decide)
                          · skip
                            refine r_iload_n (i := 3) d_Model_costBy_191 rfl rfl ?_
                            refine r_iconst 3 d_Model_costBy_192 ic_3 ?_
                            refine r_icmp_ne 223 d_Model_costBy_193 (by decide) (fun h_193 => ?_) (fun h_193 => ?_)
                            · exact absurd h_193 (by decide)
                            · skip
                              refine r_aload_n (i := 0) d_Model_costBy_196 rfl rfl ?_
                              refine r_iload d_Model_costBy_197 rfl ?_
                              refine r_iload_n (i := 2) d_Model_costBy_199 rfl rfl ?_
                              refine r_V2 v_Model_keptAt w_1091 lm_0 (c_Model_keptAt hS (by omega) (by omega) (hlv r (by omega)) (hC r (by omega) i hi1 hi)) (Nat.le_of_ble_eq_true rfl) (Nat.le_of_ble_eq_true rfl) d_Model_costBy_200 ?_
                              refine r_aload_n (i := 0) d_Model_costBy_203 rfl rfl ?_
                              refine r_iload d_Model_costBy_204 rfl ?_
                              refine r_iload_n (i := 2) d_Model_costBy_206 rfl rfl ?_
                              refine r_V2 v_Model_costAt w_1083 lm_0 (c_Model_costAt (by omega) (hC l (by omega) (i) (by omega) (by omega))) (Nat.le_of_ble_eq_true rfl) (Nat.le_of_ble_eq_true rfl) d_Model_costBy_207 ?_
                              refine r_iaddN (a := (if lv r = true then 0 else C r i + mc 2)) (b := (C l i)) d_Model_costBy_210 rfl rfl ?_
                              refine r_aload_n (i := 0) d_Model_costBy_211 rfl rfl ?_
                              refine r_getr nf_Model_16 lm_0 rfl d_Model_costBy_212 ?_
                              refine r_sipush 137 d_Model_costBy_215 sp_137 ?_
                              refine r_ia (q := 137) lm_3 rfl (by omega) (by decide) ((hS.gmc (j := 4) (by omega))) d_Model_costBy_218 ?_
                              refine r_iaddN (a := ((if lv r = true then 0 else C r i + mc 2) + (C l i))) (b := (mc 4)) d_Model_costBy_219 rfl rfl ?_
                              refine r_goto 247 d_Model_costBy_220 (by decide) ?_
                              refine r_iret rfl d_Model_costBy_247 ?_
                              refine ⟨?_, rfl⟩
                              first
                                | (have key : wMay i (!(tp l && tp r)) (o_comm (le k)) 3 = true := by
                                    simp only [wMay]
                                    first
                                      | rfl
                                      | (have i2 : 2 ≤ i := Nat.le_of_not_lt (fun q => nI_ge q (by omega) h_99)
                                         simp_all [bI]; done)
                                      | (simp_all [bI]; done)
                                   rw [key]; rfl)
                                | (have key : wMay i (!(tp l && tp r)) (o_comm (le k)) 3 = false := by
                                    simp only [wMay]
                                    first
                                      | (have i2 : ¬ 2 ≤ i := fun q => h_99 (nI_le q (by omega))
                                         simp_all [bI]; done)
                                      | (simp_all [bI]; done)
                                   rw [key]; rfl)
                        · exact absurd h_122 (by decide)
                      · exact absurd h_114 (by decide)
      · exact absurd h_49 (by decide)
    · skip
      refine r_iconst 1 d_Model_costBy_40 ic_1 ?_
      refine r_goto 45 d_Model_costBy_41 (by decide) ?_
      refine r_istore d_Model_costBy_45 (Nat.le_of_ble_eq_true rfl) rfl ?_
      dsimp only [List.set]
      refine r_iload_n (i := 3) d_Model_costBy_47 rfl rfl ?_
      refine r_iconst 4 d_Model_costBy_48 ic_4 ?_
      refine r_icmp_ne 66 d_Model_costBy_49 (by decide) (fun h_49 => ?_) (fun h_49 => ?_)
      · skip
        refine r_iload_n (i := 3) d_Model_costBy_66 rfl rfl ?_
        refine r_iconst 2 d_Model_costBy_67 ic_2 ?_
        refine r_icmp_eq 76 d_Model_costBy_68 (by decide) (fun h_68 => ?_) (fun h_68 => ?_)
        · exact absurd h_68 (by decide)
        · skip
          refine r_iload_n (i := 3) d_Model_costBy_71 rfl rfl ?_
          refine r_iconst 3 d_Model_costBy_72 ic_3 ?_
          refine r_icmp_ne 89 d_Model_costBy_73 (by decide) (fun h_73 => ?_) (fun h_73 => ?_)
          · exact absurd h_73 (by decide)
          · skip
            refine r_iload d_Model_costBy_76 rfl ?_
            refine r_if_ne 85 d_Model_costBy_78 (by decide) (fun h_78 => ?_) (fun h_78 => ?_)
            · skip
              refine r_iconst 0 d_Model_costBy_85 ic_0 ?_
              refine r_goto 90 d_Model_costBy_86 (by decide) ?_
              refine r_istore d_Model_costBy_90 (Nat.le_of_ble_eq_true rfl) rfl ?_
              dsimp only [List.set]
              refine r_iload d_Model_costBy_92 rfl ?_
              refine r_if_eq 117 d_Model_costBy_94 (by decide) (fun h_94 => ?_) (fun h_94 => ?_)
              · skip
                refine r_ldc w_1082 d_Model_costBy_117 ?_
                refine r_iret rfl d_Model_costBy_119 ?_
                refine ⟨?_, rfl⟩
                first
                  | (have key : wMay i (!(tp l && tp r)) (o_comm (le k)) 3 = true := by
                      simp only [wMay]
                      first
                        | rfl
                        | (have i2 : 2 ≤ i := Nat.le_of_not_lt (fun q => nI_ge q (by omega) h_99)
                           simp_all [bI]; done)
                        | (simp_all [bI]; done)
                     rw [key]; rfl)
                  | (have key : wMay i (!(tp l && tp r)) (o_comm (le k)) 3 = false := by
                      simp only [wMay]
                      first
                        | (have i2 : ¬ 2 ≤ i := fun q => h_99 (nI_le q (by omega))
                           simp_all [bI]; done)
                        | (simp_all [bI]; done)
                     rw [key]; rfl)
              · exact absurd h_94 (by decide)
            · exact absurd h_78 (by decide)
      · exact absurd h_49 (by decide)

set_option maxHeartbeats 2000000 in
theorem c_Model_costBy4 (hS : MS n le nu lf rt nm mc (M 3)) (hw : WF n le nu lf rt z) (ht : ∀ k, k < n → TPk le lf rt z tp k) (hmk : MOK mc) {k i l r : Nat} (hk : k < n) (hl : l < k) (hr : r < k) (el : lf k = nI l) (er : rt k = nI r) (hi1 : 1 ≤ i) (hi : i ≤ mc 0) (hlv : ∀ j, j < n → M 11 j = bI (lv j)) (hC : ∀ j, j < k → ∀ i, 1 ≤ i → i ≤ mc 0 → M 12 (7 * j + i) = nI (C j i)) : CF G LM m_Model_costBy 2 [.ref (G.2.2 0), .int (nI k), .int (nI i), .int 4] M (some (.int (nI (if wMay i (!(tp l && tp r)) (o_comm (le k)) 4 then wPr mc lv C l r i 4 else 99999)))) M := by
  have hn := hw.1
  have h6 := hmk.2.1
  refine CJ_of2 (n0 := 4) (by decide) rfl rfl ?_
  simp only [List.map_cons, List.map_nil, List.cons_append, List.nil_append, List.reduceReplicate]
  refine r_aload_n (i := 0) d_Model_costBy_0 rfl rfl ?_
  refine r_getr nf_Model_16 lm_0 rfl d_Model_costBy_1 ?_
  refine r_bipush 63 d_Model_costBy_4 bp_63 ?_
  refine r_iload_n (i := 1) d_Model_costBy_6 rfl rfl ?_
  refine r_iaddN (a := 63) (b := k) d_Model_costBy_7 rfl rfl ?_
  refine r_ia (q := (63 + k)) lm_3 rfl (by omega) (by decide) ((hS.glf (j := k) (by omega)).trans el) d_Model_costBy_8 ?_
  refine r_istore d_Model_costBy_9 (Nat.le_of_ble_eq_true rfl) rfl ?_
  dsimp only [List.set]
  refine r_aload_n (i := 0) d_Model_costBy_11 rfl rfl ?_
  refine r_getr nf_Model_16 lm_0 rfl d_Model_costBy_12 ?_
  refine r_bipush 94 d_Model_costBy_15 bp_94 ?_
  refine r_iload_n (i := 1) d_Model_costBy_17 rfl rfl ?_
  refine r_iaddN (a := 94) (b := k) d_Model_costBy_18 rfl rfl ?_
  refine r_ia (q := (94 + k)) lm_3 rfl (by omega) (by decide) ((hS.grt (j := k) (by omega)).trans er) d_Model_costBy_19 ?_
  refine r_istore d_Model_costBy_20 (Nat.le_of_ble_eq_true rfl) rfl ?_
  dsimp only [List.set]
  refine r_aload_n (i := 0) d_Model_costBy_22 rfl rfl ?_
  refine r_iload d_Model_costBy_23 rfl ?_
  refine r_V1 v_Model_mayTrap w_1036 lm_0 (c_Model_mayTrap hS hw ht (show l < n by omega)) (Nat.le_of_ble_eq_true rfl) (Nat.le_of_ble_eq_true rfl) d_Model_costBy_25 ?_
  refine r_if_eq 44 d_Model_costBy_28 (by decide) (fun h_28 => ?_) (fun h_28 => ?_)
  · skip
    refine r_iconst 0 d_Model_costBy_44 ic_0 ?_
    refine r_istore d_Model_costBy_45 (Nat.le_of_ble_eq_true rfl) rfl ?_
    dsimp only [List.set]
    refine r_iload_n (i := 3) d_Model_costBy_47 rfl rfl ?_
    refine r_iconst 4 d_Model_costBy_48 ic_4 ?_
    refine r_icmp_ne 66 d_Model_costBy_49 (by decide) (fun h_49 => ?_) (fun h_49 => ?_)
    · exact absurd h_49 (by decide)
    · skip
      refine r_aload_n (i := 0) d_Model_costBy_52 rfl rfl ?_
      refine r_getr nf_Model_16 lm_0 rfl d_Model_costBy_53 ?_
      refine r_iconst 1 d_Model_costBy_56 ic_1 ?_
      refine r_iload_n (i := 1) d_Model_costBy_57 rfl rfl ?_
      refine r_iaddN (a := 1) (b := k) d_Model_costBy_58 rfl rfl ?_
      refine r_ia (q := (1 + k)) lm_3 rfl (by omega) (by decide) ((hS.gle (j := k) (by omega))) d_Model_costBy_59 ?_
      refine r_S1 f_Model_commutes w_1029 (c_Model_commutes _ _ ) (Nat.le_of_ble_eq_true rfl) (Nat.le_of_ble_eq_true rfl) d_Model_costBy_60 ?_
      refine r_goto 90 d_Model_costBy_63 (by decide) ?_
      refine r_istore d_Model_costBy_90 (Nat.le_of_ble_eq_true rfl) rfl ?_
      dsimp only [List.set]
      refine r_iload d_Model_costBy_92 rfl ?_
      refine r_if_eq 117 d_Model_costBy_94 (by decide) (fun h_94 => ?_) (fun h_94 => ?_)
      · skip
        refine r_ldc w_1082 d_Model_costBy_117 ?_
        refine r_iret rfl d_Model_costBy_119 ?_
        refine ⟨?_, rfl⟩
        first
          | (have key : wMay i (!(tp l && tp r)) (o_comm (le k)) 4 = true := by
              simp only [wMay]
              first
                | rfl
                | (have i2 : 2 ≤ i := Nat.le_of_not_lt (fun q => nI_ge q (by omega) h_99)
                   simp_all [bI]; done)
                | (simp_all [bI]; done)
             rw [key]; rfl)
          | (have key : wMay i (!(tp l && tp r)) (o_comm (le k)) 4 = false := by
              simp only [wMay]
              first
                | (have i2 : ¬ 2 ≤ i := fun q => h_99 (nI_le q (by omega))
                   simp_all [bI]; done)
                | (simp_all [bI]; done)
             rw [key]; rfl)
      · skip
        refine r_iload_n (i := 2) d_Model_costBy_97 rfl rfl ?_
        refine r_iconst 2 d_Model_costBy_98 ic_2 ?_
        refine r_icmp_ge 120 d_Model_costBy_99 (by decide) (fun h_99 => ?_) (fun h_99 => ?_)
        · skip
          refine r_iload_n (i := 3) d_Model_costBy_120 rfl rfl ?_
          refine r_iconst 3 d_Model_costBy_121 ic_3 ?_
          refine r_icmp_ge 186 d_Model_costBy_122 (by decide) (fun h_122 => ?_) (fun h_122 => ?_)
          · skip
            refine r_iload_n (i := 3) d_Model_costBy_186 rfl rfl ?_
            refine r_iconst 5 d_Model_costBy_187 ic_5 ?_
            refine r_icmp_ge 248 d_Model_costBy_188 (by decide) (fun h_188 => ?_) (fun h_188 => ?_)
            · exact absurd h_188 (by decide)
            · skip
              refine r_iload_n (i := 3) d_Model_costBy_191 rfl rfl ?_
              refine r_iconst 3 d_Model_costBy_192 ic_3 ?_
              refine r_icmp_ne 223 d_Model_costBy_193 (by decide) (fun h_193 => ?_) (fun h_193 => ?_)
              · skip
                refine r_aload_n (i := 0) d_Model_costBy_223 rfl rfl ?_
                refine r_iload d_Model_costBy_224 rfl ?_
                refine r_iload_n (i := 2) d_Model_costBy_226 rfl rfl ?_
                refine r_V2 v_Model_keptAt w_1091 lm_0 (c_Model_keptAt hS (by omega) (by omega) (hlv l (by omega)) (hC l (by omega) i hi1 hi)) (Nat.le_of_ble_eq_true rfl) (Nat.le_of_ble_eq_true rfl) d_Model_costBy_227 ?_
                refine r_aload_n (i := 0) d_Model_costBy_230 rfl rfl ?_
                refine r_iload d_Model_costBy_231 rfl ?_
                refine r_iload_n (i := 2) d_Model_costBy_233 rfl rfl ?_
                refine r_V2 v_Model_costAt w_1083 lm_0 (c_Model_costAt (by omega) (hC r (by omega) (i) (by omega) (by omega))) (Nat.le_of_ble_eq_true rfl) (Nat.le_of_ble_eq_true rfl) d_Model_costBy_234 ?_
                refine r_iaddN (a := (if lv l = true then 0 else C l i + mc 2)) (b := (C r i)) d_Model_costBy_237 rfl rfl ?_
                refine r_aload_n (i := 0) d_Model_costBy_238 rfl rfl ?_
                refine r_getr nf_Model_16 lm_0 rfl d_Model_costBy_239 ?_
                refine r_sipush 137 d_Model_costBy_242 sp_137 ?_
                refine r_ia (q := 137) lm_3 rfl (by omega) (by decide) ((hS.gmc (j := 4) (by omega))) d_Model_costBy_245 ?_
                refine r_iaddN (a := ((if lv l = true then 0 else C l i + mc 2) + (C r i))) (b := (mc 4)) d_Model_costBy_246 rfl rfl ?_
                refine r_iret rfl d_Model_costBy_247 ?_
                refine ⟨?_, rfl⟩
                first
                  | (have key : wMay i (!(tp l && tp r)) (o_comm (le k)) 4 = true := by
                      simp only [wMay]
                      first
                        | rfl
                        | (have i2 : 2 ≤ i := Nat.le_of_not_lt (fun q => nI_ge q (by omega) h_99)
                           simp_all [bI]; done)
                        | (simp_all [bI]; done)
                     rw [key]; rfl)
                  | (have key : wMay i (!(tp l && tp r)) (o_comm (le k)) 4 = false := by
                      simp only [wMay]
                      first
                        | (have i2 : ¬ 2 ≤ i := fun q => h_99 (nI_le q (by omega))
                           simp_all [bI]; done)
                        | (simp_all [bI]; done)
                     rw [key]; rfl)
              · exact absurd h_193 (by decide)
          · exact absurd h_122 (by decide)
        · skip
          refine r_iload_n (i := 3) d_Model_costBy_102 rfl rfl ?_
          refine r_iconst 1 d_Model_costBy_103 ic_1 ?_
          refine r_icmp_eq 117 d_Model_costBy_104 (by decide) (fun h_104 => ?_) (fun h_104 => ?_)
          · exact absurd h_104 (by decide)
          · skip
            refine r_iload_n (i := 3) d_Model_costBy_107 rfl rfl ?_
            refine r_iconst 2 d_Model_costBy_108 ic_2 ?_
            refine r_icmp_eq 117 d_Model_costBy_109 (by decide) (fun h_109 => ?_) (fun h_109 => ?_)
            · exact absurd h_109 (by decide)
            · skip
              refine r_iload_n (i := 3) d_Model_costBy_112 rfl rfl ?_
              refine r_iconst 5 d_Model_costBy_113 ic_5 ?_
              refine r_icmp_ne 120 d_Model_costBy_114 (by decide) (fun h_114 => ?_) (fun h_114 => ?_)
              · skip
                refine r_iload_n (i := 3) d_Model_costBy_120 rfl rfl ?_
                refine r_iconst 3 d_Model_costBy_121 ic_3 ?_
                refine r_icmp_ge 186 d_Model_costBy_122 (by decide) (fun h_122 => ?_) (fun h_122 => ?_)
                · skip
                  refine r_iload_n (i := 3) d_Model_costBy_186 rfl rfl ?_
                  refine r_iconst 5 d_Model_costBy_187 ic_5 ?_
                  refine r_icmp_ge 248 d_Model_costBy_188 (by decide) (fun h_188 => ?_) (fun h_188 => ?_)
                  · exact absurd h_188 (by decide)
                  · skip
                    refine r_iload_n (i := 3) d_Model_costBy_191 rfl rfl ?_
                    refine r_iconst 3 d_Model_costBy_192 ic_3 ?_
                    refine r_icmp_ne 223 d_Model_costBy_193 (by decide) (fun h_193 => ?_) (fun h_193 => ?_)
                    · skip
                      refine r_aload_n (i := 0) d_Model_costBy_223 rfl rfl ?_
                      refine r_iload d_Model_costBy_224 rfl ?_
                      refine r_iload_n (i := 2) d_Model_costBy_226 rfl rfl ?_
                      refine r_V2 v_Model_keptAt w_1091 lm_0 (c_Model_keptAt hS (by omega) (by omega) (hlv l (by omega)) (hC l (by omega) i hi1 hi)) (Nat.le_of_ble_eq_true rfl) (Nat.le_of_ble_eq_true rfl) d_Model_costBy_227 ?_
                      refine r_aload_n (i := 0) d_Model_costBy_230 rfl rfl ?_
                      refine r_iload d_Model_costBy_231 rfl ?_
                      refine r_iload_n (i := 2) d_Model_costBy_233 rfl rfl ?_
                      refine r_V2 v_Model_costAt w_1083 lm_0 (c_Model_costAt (by omega) (hC r (by omega) (i) (by omega) (by omega))) (Nat.le_of_ble_eq_true rfl) (Nat.le_of_ble_eq_true rfl) d_Model_costBy_234 ?_
                      refine r_iaddN (a := (if lv l = true then 0 else C l i + mc 2)) (b := (C r i)) d_Model_costBy_237 rfl rfl ?_
                      refine r_aload_n (i := 0) d_Model_costBy_238 rfl rfl ?_
                      refine r_getr nf_Model_16 lm_0 rfl d_Model_costBy_239 ?_
                      refine r_sipush 137 d_Model_costBy_242 sp_137 ?_
                      refine r_ia (q := 137) lm_3 rfl (by omega) (by decide) ((hS.gmc (j := 4) (by omega))) d_Model_costBy_245 ?_
                      refine r_iaddN (a := ((if lv l = true then 0 else C l i + mc 2) + (C r i))) (b := (mc 4)) d_Model_costBy_246 rfl rfl ?_
                      refine r_iret rfl d_Model_costBy_247 ?_
                      refine ⟨?_, rfl⟩
                      first
                        | (have key : wMay i (!(tp l && tp r)) (o_comm (le k)) 4 = true := by
                            simp only [wMay]
                            first
                              | rfl
                              | (have i2 : 2 ≤ i := Nat.le_of_not_lt (fun q => nI_ge q (by omega) h_99)
                                 simp_all [bI]; done)
                              | (simp_all [bI]; done)
                           rw [key]; rfl)
                        | (have key : wMay i (!(tp l && tp r)) (o_comm (le k)) 4 = false := by
                            simp only [wMay]
                            first
                              | (have i2 : ¬ 2 ≤ i := fun q => h_99 (nI_le q (by omega))
                                 simp_all [bI]; done)
                              | (simp_all [bI]; done)
                           rw [key]; rfl)
                    · exact absurd h_193 (by decide)
                · exact absurd h_122 (by decide)
              · exact absurd h_114 (by decide)
  · skip
    refine r_aload_n (i := 0) d_Model_costBy_31 rfl rfl ?_
    refine r_iload d_Model_costBy_32 rfl ?_
    refine r_V1 v_Model_mayTrap w_1036 lm_0 (c_Model_mayTrap hS hw ht (show r < n by omega)) (Nat.le_of_ble_eq_true rfl) (Nat.le_of_ble_eq_true rfl) d_Model_costBy_34 ?_
    refine r_if_eq 44 d_Model_costBy_37 (by decide) (fun h_37 => ?_) (fun h_37 => ?_)
    · skip
      refine r_iconst 0 d_Model_costBy_44 ic_0 ?_
      refine r_istore d_Model_costBy_45 (Nat.le_of_ble_eq_true rfl) rfl ?_
      dsimp only [List.set]
      refine r_iload_n (i := 3) d_Model_costBy_47 rfl rfl ?_
      refine r_iconst 4 d_Model_costBy_48 ic_4 ?_
      refine r_icmp_ne 66 d_Model_costBy_49 (by decide) (fun h_49 => ?_) (fun h_49 => ?_)
      · exact absurd h_49 (by decide)
      · skip
        refine r_aload_n (i := 0) d_Model_costBy_52 rfl rfl ?_
        refine r_getr nf_Model_16 lm_0 rfl d_Model_costBy_53 ?_
        refine r_iconst 1 d_Model_costBy_56 ic_1 ?_
        refine r_iload_n (i := 1) d_Model_costBy_57 rfl rfl ?_
        refine r_iaddN (a := 1) (b := k) d_Model_costBy_58 rfl rfl ?_
        refine r_ia (q := (1 + k)) lm_3 rfl (by omega) (by decide) ((hS.gle (j := k) (by omega))) d_Model_costBy_59 ?_
        refine r_S1 f_Model_commutes w_1029 (c_Model_commutes _ _ ) (Nat.le_of_ble_eq_true rfl) (Nat.le_of_ble_eq_true rfl) d_Model_costBy_60 ?_
        refine r_goto 90 d_Model_costBy_63 (by decide) ?_
        refine r_istore d_Model_costBy_90 (Nat.le_of_ble_eq_true rfl) rfl ?_
        dsimp only [List.set]
        refine r_iload d_Model_costBy_92 rfl ?_
        refine r_if_eq 117 d_Model_costBy_94 (by decide) (fun h_94 => ?_) (fun h_94 => ?_)
        · skip
          refine r_ldc w_1082 d_Model_costBy_117 ?_
          refine r_iret rfl d_Model_costBy_119 ?_
          refine ⟨?_, rfl⟩
          first
            | (have key : wMay i (!(tp l && tp r)) (o_comm (le k)) 4 = true := by
                simp only [wMay]
                first
                  | rfl
                  | (have i2 : 2 ≤ i := Nat.le_of_not_lt (fun q => nI_ge q (by omega) h_99)
                     simp_all [bI]; done)
                  | (simp_all [bI]; done)
               rw [key]; rfl)
            | (have key : wMay i (!(tp l && tp r)) (o_comm (le k)) 4 = false := by
                simp only [wMay]
                first
                  | (have i2 : ¬ 2 ≤ i := fun q => h_99 (nI_le q (by omega))
                     simp_all [bI]; done)
                  | (simp_all [bI]; done)
               rw [key]; rfl)
        · skip
          refine r_iload_n (i := 2) d_Model_costBy_97 rfl rfl ?_
          refine r_iconst 2 d_Model_costBy_98 ic_2 ?_
          refine r_icmp_ge 120 d_Model_costBy_99 (by decide) (fun h_99 => ?_) (fun h_99 => ?_)
          · skip
            refine r_iload_n (i := 3) d_Model_costBy_120 rfl rfl ?_
            refine r_iconst 3 d_Model_costBy_121 ic_3 ?_
            refine r_icmp_ge 186 d_Model_costBy_122 (by decide) (fun h_122 => ?_) (fun h_122 => ?_)
            · skip
              refine r_iload_n (i := 3) d_Model_costBy_186 rfl rfl ?_
              refine r_iconst 5 d_Model_costBy_187 ic_5 ?_
              refine r_icmp_ge 248 d_Model_costBy_188 (by decide) (fun h_188 => ?_) (fun h_188 => ?_)
              · exact absurd h_188 (by decide)
              · skip
                refine r_iload_n (i := 3) d_Model_costBy_191 rfl rfl ?_
                refine r_iconst 3 d_Model_costBy_192 ic_3 ?_
                refine r_icmp_ne 223 d_Model_costBy_193 (by decide) (fun h_193 => ?_) (fun h_193 => ?_)
                · skip
                  refine r_aload_n (i := 0) d_Model_costBy_223 rfl rfl ?_
                  refine r_iload d_Model_costBy_224 rfl ?_
                  refine r_iload_n (i := 2) d_Model_costBy_226 rfl rfl ?_
                  refine r_V2 v_Model_keptAt w_1091 lm_0 (c_Model_keptAt hS (by omega) (by omega) (hlv l (by omega)) (hC l (by omega) i hi1 hi)) (Nat.le_of_ble_eq_true rfl) (Nat.le_of_ble_eq_true rfl) d_Model_costBy_227 ?_
                  refine r_aload_n (i := 0) d_Model_costBy_230 rfl rfl ?_
                  refine r_iload d_Model_costBy_231 rfl ?_
                  refine r_iload_n (i := 2) d_Model_costBy_233 rfl rfl ?_
                  refine r_V2 v_Model_costAt w_1083 lm_0 (c_Model_costAt (by omega) (hC r (by omega) (i) (by omega) (by omega))) (Nat.le_of_ble_eq_true rfl) (Nat.le_of_ble_eq_true rfl) d_Model_costBy_234 ?_
                  refine r_iaddN (a := (if lv l = true then 0 else C l i + mc 2)) (b := (C r i)) d_Model_costBy_237 rfl rfl ?_
                  refine r_aload_n (i := 0) d_Model_costBy_238 rfl rfl ?_
                  refine r_getr nf_Model_16 lm_0 rfl d_Model_costBy_239 ?_
                  refine r_sipush 137 d_Model_costBy_242 sp_137 ?_
                  refine r_ia (q := 137) lm_3 rfl (by omega) (by decide) ((hS.gmc (j := 4) (by omega))) d_Model_costBy_245 ?_
                  refine r_iaddN (a := ((if lv l = true then 0 else C l i + mc 2) + (C r i))) (b := (mc 4)) d_Model_costBy_246 rfl rfl ?_
                  refine r_iret rfl d_Model_costBy_247 ?_
                  refine ⟨?_, rfl⟩
                  first
                    | (have key : wMay i (!(tp l && tp r)) (o_comm (le k)) 4 = true := by
                        simp only [wMay]
                        first
                          | rfl
                          | (have i2 : 2 ≤ i := Nat.le_of_not_lt (fun q => nI_ge q (by omega) h_99)
                             simp_all [bI]; done)
                          | (simp_all [bI]; done)
                       rw [key]; rfl)
                    | (have key : wMay i (!(tp l && tp r)) (o_comm (le k)) 4 = false := by
                        simp only [wMay]
                        first
                          | (have i2 : ¬ 2 ≤ i := fun q => h_99 (nI_le q (by omega))
                             simp_all [bI]; done)
                          | (simp_all [bI]; done)
                       rw [key]; rfl)
                · exact absurd h_193 (by decide)
            · exact absurd h_122 (by decide)
          · skip
            refine r_iload_n (i := 3) d_Model_costBy_102 rfl rfl ?_
            refine r_iconst 1 d_Model_costBy_103 ic_1 ?_
            refine r_icmp_eq 117 d_Model_costBy_104 (by decide) (fun h_104 => ?_) (fun h_104 => ?_)
            · exact absurd h_104 (by decide)
            · skip
              refine r_iload_n (i := 3) d_Model_costBy_107 rfl rfl ?_
              refine r_iconst 2 d_Model_costBy_108 ic_2 ?_
              refine r_icmp_eq 117 d_Model_costBy_109 (by decide) (fun h_109 => ?_) (fun h_109 => ?_)
              · exact absurd h_109 (by decide)
              · skip
                refine r_iload_n (i := 3) d_Model_costBy_112 rfl rfl ?_
                refine r_iconst 5 d_Model_costBy_113 ic_5 ?_
                refine r_icmp_ne 120 d_Model_costBy_114 (by decide) (fun h_114 => ?_) (fun h_114 => ?_)
                · skip
                  refine r_iload_n (i := 3) d_Model_costBy_120 rfl rfl ?_
                  refine r_iconst 3 d_Model_costBy_121 ic_3 ?_
                  refine r_icmp_ge 186 d_Model_costBy_122 (by decide) (fun h_122 => ?_) (fun h_122 => ?_)
                  · skip
                    refine r_iload_n (i := 3) d_Model_costBy_186 rfl rfl ?_
                    refine r_iconst 5 d_Model_costBy_187 ic_5 ?_
                    refine r_icmp_ge 248 d_Model_costBy_188 (by decide) (fun h_188 => ?_) (fun h_188 => ?_)
                    · exact absurd h_188 (by decide)
                    · skip
                      refine r_iload_n (i := 3) d_Model_costBy_191 rfl rfl ?_
                      refine r_iconst 3 d_Model_costBy_192 ic_3 ?_
                      refine r_icmp_ne 223 d_Model_costBy_193 (by decide) (fun h_193 => ?_) (fun h_193 => ?_)
                      · skip
                        refine r_aload_n (i := 0) d_Model_costBy_223 rfl rfl ?_
                        refine r_iload d_Model_costBy_224 rfl ?_
                        refine r_iload_n (i := 2) d_Model_costBy_226 rfl rfl ?_
                        refine r_V2 v_Model_keptAt w_1091 lm_0 (c_Model_keptAt hS (by omega) (by omega) (hlv l (by omega)) (hC l (by omega) i hi1 hi)) (Nat.le_of_ble_eq_true rfl) (Nat.le_of_ble_eq_true rfl) d_Model_costBy_227 ?_
                        refine r_aload_n (i := 0) d_Model_costBy_230 rfl rfl ?_
                        refine r_iload d_Model_costBy_231 rfl ?_
                        refine r_iload_n (i := 2) d_Model_costBy_233 rfl rfl ?_
                        refine r_V2 v_Model_costAt w_1083 lm_0 (c_Model_costAt (by omega) (hC r (by omega) (i) (by omega) (by omega))) (Nat.le_of_ble_eq_true rfl) (Nat.le_of_ble_eq_true rfl) d_Model_costBy_234 ?_
                        refine r_iaddN (a := (if lv l = true then 0 else C l i + mc 2)) (b := (C r i)) d_Model_costBy_237 rfl rfl ?_
                        refine r_aload_n (i := 0) d_Model_costBy_238 rfl rfl ?_
                        refine r_getr nf_Model_16 lm_0 rfl d_Model_costBy_239 ?_
                        refine r_sipush 137 d_Model_costBy_242 sp_137 ?_
                        refine r_ia (q := 137) lm_3 rfl (by omega) (by decide) ((hS.gmc (j := 4) (by omega))) d_Model_costBy_245 ?_
                        refine r_iaddN (a := ((if lv l = true then 0 else C l i + mc 2) + (C r i))) (b := (mc 4)) d_Model_costBy_246 rfl rfl ?_
                        refine r_iret rfl d_Model_costBy_247 ?_
                        refine ⟨?_, rfl⟩
                        first
                          | (have key : wMay i (!(tp l && tp r)) (o_comm (le k)) 4 = true := by
                              simp only [wMay]
                              first
                                | rfl
                                | (have i2 : 2 ≤ i := Nat.le_of_not_lt (fun q => nI_ge q (by omega) h_99)
                                   simp_all [bI]; done)
                                | (simp_all [bI]; done)
                             rw [key]; rfl)
                          | (have key : wMay i (!(tp l && tp r)) (o_comm (le k)) 4 = false := by
                              simp only [wMay]
                              first
                                | (have i2 : ¬ 2 ≤ i := fun q => h_99 (nI_le q (by omega))
                                   simp_all [bI]; done)
                                | (simp_all [bI]; done)
                             rw [key]; rfl)
                      · exact absurd h_193 (by decide)
                  · exact absurd h_122 (by decide)
                · exact absurd h_114 (by decide)
    · skip
      refine r_iconst 1 d_Model_costBy_40 ic_1 ?_
      refine r_goto 45 d_Model_costBy_41 (by decide) ?_
      refine r_istore d_Model_costBy_45 (Nat.le_of_ble_eq_true rfl) rfl ?_
      dsimp only [List.set]
      refine r_iload_n (i := 3) d_Model_costBy_47 rfl rfl ?_
      refine r_iconst 4 d_Model_costBy_48 ic_4 ?_
      refine r_icmp_ne 66 d_Model_costBy_49 (by decide) (fun h_49 => ?_) (fun h_49 => ?_)
      · exact absurd h_49 (by decide)
      · skip
        refine r_aload_n (i := 0) d_Model_costBy_52 rfl rfl ?_
        refine r_getr nf_Model_16 lm_0 rfl d_Model_costBy_53 ?_
        refine r_iconst 1 d_Model_costBy_56 ic_1 ?_
        refine r_iload_n (i := 1) d_Model_costBy_57 rfl rfl ?_
        refine r_iaddN (a := 1) (b := k) d_Model_costBy_58 rfl rfl ?_
        refine r_ia (q := (1 + k)) lm_3 rfl (by omega) (by decide) ((hS.gle (j := k) (by omega))) d_Model_costBy_59 ?_
        refine r_S1 f_Model_commutes w_1029 (c_Model_commutes _ _ ) (Nat.le_of_ble_eq_true rfl) (Nat.le_of_ble_eq_true rfl) d_Model_costBy_60 ?_
        refine r_goto 90 d_Model_costBy_63 (by decide) ?_
        refine r_istore d_Model_costBy_90 (Nat.le_of_ble_eq_true rfl) rfl ?_
        dsimp only [List.set]
        refine r_iload d_Model_costBy_92 rfl ?_
        refine r_if_eq 117 d_Model_costBy_94 (by decide) (fun h_94 => ?_) (fun h_94 => ?_)
        · skip
          refine r_ldc w_1082 d_Model_costBy_117 ?_
          refine r_iret rfl d_Model_costBy_119 ?_
          refine ⟨?_, rfl⟩
          first
            | (have key : wMay i (!(tp l && tp r)) (o_comm (le k)) 4 = true := by
                simp only [wMay]
                first
                  | rfl
                  | (have i2 : 2 ≤ i := Nat.le_of_not_lt (fun q => nI_ge q (by omega) h_99)
                     simp_all [bI]; done)
                  | (simp_all [bI]; done)
               rw [key]; rfl)
            | (have key : wMay i (!(tp l && tp r)) (o_comm (le k)) 4 = false := by
                simp only [wMay]
                first
                  | (have i2 : ¬ 2 ≤ i := fun q => h_99 (nI_le q (by omega))
                     simp_all [bI]; done)
                  | (simp_all [bI]; done)
               rw [key]; rfl)
        · skip
          refine r_iload_n (i := 2) d_Model_costBy_97 rfl rfl ?_
          refine r_iconst 2 d_Model_costBy_98 ic_2 ?_
          refine r_icmp_ge 120 d_Model_costBy_99 (by decide) (fun h_99 => ?_) (fun h_99 => ?_)
          · skip
            refine r_iload_n (i := 3) d_Model_costBy_120 rfl rfl ?_
            refine r_iconst 3 d_Model_costBy_121 ic_3 ?_
            refine r_icmp_ge 186 d_Model_costBy_122 (by decide) (fun h_122 => ?_) (fun h_122 => ?_)
            · skip
              refine r_iload_n (i := 3) d_Model_costBy_186 rfl rfl ?_
              refine r_iconst 5 d_Model_costBy_187 ic_5 ?_
              refine r_icmp_ge 248 d_Model_costBy_188 (by decide) (fun h_188 => ?_) (fun h_188 => ?_)
              · exact absurd h_188 (by decide)
              · skip
                refine r_iload_n (i := 3) d_Model_costBy_191 rfl rfl ?_
                refine r_iconst 3 d_Model_costBy_192 ic_3 ?_
                refine r_icmp_ne 223 d_Model_costBy_193 (by decide) (fun h_193 => ?_) (fun h_193 => ?_)
                · skip
                  refine r_aload_n (i := 0) d_Model_costBy_223 rfl rfl ?_
                  refine r_iload d_Model_costBy_224 rfl ?_
                  refine r_iload_n (i := 2) d_Model_costBy_226 rfl rfl ?_
                  refine r_V2 v_Model_keptAt w_1091 lm_0 (c_Model_keptAt hS (by omega) (by omega) (hlv l (by omega)) (hC l (by omega) i hi1 hi)) (Nat.le_of_ble_eq_true rfl) (Nat.le_of_ble_eq_true rfl) d_Model_costBy_227 ?_
                  refine r_aload_n (i := 0) d_Model_costBy_230 rfl rfl ?_
                  refine r_iload d_Model_costBy_231 rfl ?_
                  refine r_iload_n (i := 2) d_Model_costBy_233 rfl rfl ?_
                  refine r_V2 v_Model_costAt w_1083 lm_0 (c_Model_costAt (by omega) (hC r (by omega) (i) (by omega) (by omega))) (Nat.le_of_ble_eq_true rfl) (Nat.le_of_ble_eq_true rfl) d_Model_costBy_234 ?_
                  refine r_iaddN (a := (if lv l = true then 0 else C l i + mc 2)) (b := (C r i)) d_Model_costBy_237 rfl rfl ?_
                  refine r_aload_n (i := 0) d_Model_costBy_238 rfl rfl ?_
                  refine r_getr nf_Model_16 lm_0 rfl d_Model_costBy_239 ?_
                  refine r_sipush 137 d_Model_costBy_242 sp_137 ?_
                  refine r_ia (q := 137) lm_3 rfl (by omega) (by decide) ((hS.gmc (j := 4) (by omega))) d_Model_costBy_245 ?_
                  refine r_iaddN (a := ((if lv l = true then 0 else C l i + mc 2) + (C r i))) (b := (mc 4)) d_Model_costBy_246 rfl rfl ?_
                  refine r_iret rfl d_Model_costBy_247 ?_
                  refine ⟨?_, rfl⟩
                  first
                    | (have key : wMay i (!(tp l && tp r)) (o_comm (le k)) 4 = true := by
                        simp only [wMay]
                        first
                          | rfl
                          | (have i2 : 2 ≤ i := Nat.le_of_not_lt (fun q => nI_ge q (by omega) h_99)
                             simp_all [bI]; done)
                          | (simp_all [bI]; done)
                       rw [key]; rfl)
                    | (have key : wMay i (!(tp l && tp r)) (o_comm (le k)) 4 = false := by
                        simp only [wMay]
                        first
                          | (have i2 : ¬ 2 ≤ i := fun q => h_99 (nI_le q (by omega))
                             simp_all [bI]; done)
                          | (simp_all [bI]; done)
                       rw [key]; rfl)
                · exact absurd h_193 (by decide)
            · exact absurd h_122 (by decide)
          · skip
            refine r_iload_n (i := 3) d_Model_costBy_102 rfl rfl ?_
            refine r_iconst 1 d_Model_costBy_103 ic_1 ?_
            refine r_icmp_eq 117 d_Model_costBy_104 (by decide) (fun h_104 => ?_) (fun h_104 => ?_)
            · exact absurd h_104 (by decide)
            · skip
              refine r_iload_n (i := 3) d_Model_costBy_107 rfl rfl ?_
              refine r_iconst 2 d_Model_costBy_108 ic_2 ?_
              refine r_icmp_eq 117 d_Model_costBy_109 (by decide) (fun h_109 => ?_) (fun h_109 => ?_)
              · exact absurd h_109 (by decide)
              · skip
                refine r_iload_n (i := 3) d_Model_costBy_112 rfl rfl ?_
                refine r_iconst 5 d_Model_costBy_113 ic_5 ?_
                refine r_icmp_ne 120 d_Model_costBy_114 (by decide) (fun h_114 => ?_) (fun h_114 => ?_)
                · skip
                  refine r_iload_n (i := 3) d_Model_costBy_120 rfl rfl ?_
                  refine r_iconst 3 d_Model_costBy_121 ic_3 ?_
                  refine r_icmp_ge 186 d_Model_costBy_122 (by decide) (fun h_122 => ?_) (fun h_122 => ?_)
                  · skip
                    refine r_iload_n (i := 3) d_Model_costBy_186 rfl rfl ?_
                    refine r_iconst 5 d_Model_costBy_187 ic_5 ?_
                    refine r_icmp_ge 248 d_Model_costBy_188 (by decide) (fun h_188 => ?_) (fun h_188 => ?_)
                    · exact absurd h_188 (by decide)
                    · skip
                      refine r_iload_n (i := 3) d_Model_costBy_191 rfl rfl ?_
                      refine r_iconst 3 d_Model_costBy_192 ic_3 ?_
                      refine r_icmp_ne 223 d_Model_costBy_193 (by decide) (fun h_193 => ?_) (fun h_193 => ?_)
                      · skip
                        refine r_aload_n (i := 0) d_Model_costBy_223 rfl rfl ?_
                        refine r_iload d_Model_costBy_224 rfl ?_
                        refine r_iload_n (i := 2) d_Model_costBy_226 rfl rfl ?_
                        refine r_V2 v_Model_keptAt w_1091 lm_0 (c_Model_keptAt hS (by omega) (by omega) (hlv l (by omega)) (hC l (by omega) i hi1 hi)) (Nat.le_of_ble_eq_true rfl) (Nat.le_of_ble_eq_true rfl) d_Model_costBy_227 ?_
                        refine r_aload_n (i := 0) d_Model_costBy_230 rfl rfl ?_
                        refine r_iload d_Model_costBy_231 rfl ?_
                        refine r_iload_n (i := 2) d_Model_costBy_233 rfl rfl ?_
                        refine r_V2 v_Model_costAt w_1083 lm_0 (c_Model_costAt (by omega) (hC r (by omega) (i) (by omega) (by omega))) (Nat.le_of_ble_eq_true rfl) (Nat.le_of_ble_eq_true rfl) d_Model_costBy_234 ?_
                        refine r_iaddN (a := (if lv l = true then 0 else C l i + mc 2)) (b := (C r i)) d_Model_costBy_237 rfl rfl ?_
                        refine r_aload_n (i := 0) d_Model_costBy_238 rfl rfl ?_
                        refine r_getr nf_Model_16 lm_0 rfl d_Model_costBy_239 ?_
                        refine r_sipush 137 d_Model_costBy_242 sp_137 ?_
                        refine r_ia (q := 137) lm_3 rfl (by omega) (by decide) ((hS.gmc (j := 4) (by omega))) d_Model_costBy_245 ?_
                        refine r_iaddN (a := ((if lv l = true then 0 else C l i + mc 2) + (C r i))) (b := (mc 4)) d_Model_costBy_246 rfl rfl ?_
                        refine r_iret rfl d_Model_costBy_247 ?_
                        refine ⟨?_, rfl⟩
                        first
                          | (have key : wMay i (!(tp l && tp r)) (o_comm (le k)) 4 = true := by
                              simp only [wMay]
                              first
                                | rfl
                                | (have i2 : 2 ≤ i := Nat.le_of_not_lt (fun q => nI_ge q (by omega) h_99)
                                   simp_all [bI]; done)
                                | (simp_all [bI]; done)
                             rw [key]; rfl)
                          | (have key : wMay i (!(tp l && tp r)) (o_comm (le k)) 4 = false := by
                              simp only [wMay]
                              first
                                | (have i2 : ¬ 2 ≤ i := fun q => h_99 (nI_le q (by omega))
                                   simp_all [bI]; done)
                                | (simp_all [bI]; done)
                             rw [key]; rfl)
                      · exact absurd h_193 (by decide)
                  · exact absurd h_122 (by decide)
                · exact absurd h_114 (by decide)

set_option maxHeartbeats 2000000 in
theorem c_Model_costBy5 (hS : MS n le nu lf rt nm mc (M 3)) (hw : WF n le nu lf rt z) (ht : ∀ k, k < n → TPk le lf rt z tp k) (hmk : MOK mc) {k i l r : Nat} (hk : k < n) (hl : l < k) (hr : r < k) (el : lf k = nI l) (er : rt k = nI r) (hi1 : 1 ≤ i) (hi : i ≤ mc 0) (hlv : ∀ j, j < n → M 11 j = bI (lv j)) (hC : ∀ j, j < k → ∀ i, 1 ≤ i → i ≤ mc 0 → M 12 (7 * j + i) = nI (C j i)) : CF G LM m_Model_costBy 2 [.ref (G.2.2 0), .int (nI k), .int (nI i), .int 5] M (some (.int (nI (if wMay i (!(tp l && tp r)) (o_comm (le k)) 5 then wPr mc lv C l r i 5 else 99999)))) M := by
  have hn := hw.1
  have h6 := hmk.2.1
  refine CJ_of2 (n0 := 4) (by decide) rfl rfl ?_
  simp only [List.map_cons, List.map_nil, List.cons_append, List.nil_append, List.reduceReplicate]
  refine r_aload_n (i := 0) d_Model_costBy_0 rfl rfl ?_
  refine r_getr nf_Model_16 lm_0 rfl d_Model_costBy_1 ?_
  refine r_bipush 63 d_Model_costBy_4 bp_63 ?_
  refine r_iload_n (i := 1) d_Model_costBy_6 rfl rfl ?_
  refine r_iaddN (a := 63) (b := k) d_Model_costBy_7 rfl rfl ?_
  refine r_ia (q := (63 + k)) lm_3 rfl (by omega) (by decide) ((hS.glf (j := k) (by omega)).trans el) d_Model_costBy_8 ?_
  refine r_istore d_Model_costBy_9 (Nat.le_of_ble_eq_true rfl) rfl ?_
  dsimp only [List.set]
  refine r_aload_n (i := 0) d_Model_costBy_11 rfl rfl ?_
  refine r_getr nf_Model_16 lm_0 rfl d_Model_costBy_12 ?_
  refine r_bipush 94 d_Model_costBy_15 bp_94 ?_
  refine r_iload_n (i := 1) d_Model_costBy_17 rfl rfl ?_
  refine r_iaddN (a := 94) (b := k) d_Model_costBy_18 rfl rfl ?_
  refine r_ia (q := (94 + k)) lm_3 rfl (by omega) (by decide) ((hS.grt (j := k) (by omega)).trans er) d_Model_costBy_19 ?_
  refine r_istore d_Model_costBy_20 (Nat.le_of_ble_eq_true rfl) rfl ?_
  dsimp only [List.set]
  refine r_aload_n (i := 0) d_Model_costBy_22 rfl rfl ?_
  refine r_iload d_Model_costBy_23 rfl ?_
  refine r_V1 v_Model_mayTrap w_1036 lm_0 (c_Model_mayTrap hS hw ht (show l < n by omega)) (Nat.le_of_ble_eq_true rfl) (Nat.le_of_ble_eq_true rfl) d_Model_costBy_25 ?_
  refine r_if_eq 44 d_Model_costBy_28 (by decide) (fun h_28 => ?_) (fun h_28 => ?_)
  · skip
    refine r_iconst 0 d_Model_costBy_44 ic_0 ?_
    refine r_istore d_Model_costBy_45 (Nat.le_of_ble_eq_true rfl) rfl ?_
    dsimp only [List.set]
    refine r_iload_n (i := 3) d_Model_costBy_47 rfl rfl ?_
    refine r_iconst 4 d_Model_costBy_48 ic_4 ?_
    refine r_icmp_ne 66 d_Model_costBy_49 (by decide) (fun h_49 => ?_) (fun h_49 => ?_)
    · skip
      refine r_iload_n (i := 3) d_Model_costBy_66 rfl rfl ?_
      refine r_iconst 2 d_Model_costBy_67 ic_2 ?_
      refine r_icmp_eq 76 d_Model_costBy_68 (by decide) (fun h_68 => ?_) (fun h_68 => ?_)
      · exact absurd h_68 (by decide)
      · skip
        refine r_iload_n (i := 3) d_Model_costBy_71 rfl rfl ?_
        refine r_iconst 3 d_Model_costBy_72 ic_3 ?_
        refine r_icmp_ne 89 d_Model_costBy_73 (by decide) (fun h_73 => ?_) (fun h_73 => ?_)
        · skip
          refine r_iconst 1 d_Model_costBy_89 ic_1 ?_
          refine r_istore d_Model_costBy_90 (Nat.le_of_ble_eq_true rfl) rfl ?_
          dsimp only [List.set]
          refine r_iload d_Model_costBy_92 rfl ?_
          refine r_if_eq 117 d_Model_costBy_94 (by decide) (fun h_94 => ?_) (fun h_94 => ?_)
          · exact absurd h_94 (by decide)
          · skip
            refine r_iload_n (i := 2) d_Model_costBy_97 rfl rfl ?_
            refine r_iconst 2 d_Model_costBy_98 ic_2 ?_
            refine r_icmp_ge 120 d_Model_costBy_99 (by decide) (fun h_99 => ?_) (fun h_99 => ?_)
            · skip
              refine r_iload_n (i := 3) d_Model_costBy_120 rfl rfl ?_
              refine r_iconst 3 d_Model_costBy_121 ic_3 ?_
              refine r_icmp_ge 186 d_Model_costBy_122 (by decide) (fun h_122 => ?_) (fun h_122 => ?_)
              · skip
                refine r_iload_n (i := 3) d_Model_costBy_186 rfl rfl ?_
                refine r_iconst 5 d_Model_costBy_187 ic_5 ?_
                refine r_icmp_ge 248 d_Model_costBy_188 (by decide) (fun h_188 => ?_) (fun h_188 => ?_)
                · skip
                  refine r_iload_n (i := 3) d_Model_costBy_248 rfl rfl ?_
                  refine r_iconst 5 d_Model_costBy_249 ic_5 ?_
                  refine r_icmp_ne 289 d_Model_costBy_250 (by decide) (fun h_250 => ?_) (fun h_250 => ?_)
                  · exact absurd h_250 (by decide)
                  · skip
                    refine r_aload_n (i := 0) d_Model_costBy_253 rfl rfl ?_
                    refine r_iload d_Model_costBy_254 rfl ?_
                    refine r_iload_n (i := 2) d_Model_costBy_256 rfl rfl ?_
                    refine r_V2 v_Model_keptAt w_1091 lm_0 (c_Model_keptAt hS (by omega) (by omega) (hlv l (by omega)) (hC l (by omega) i hi1 hi)) (Nat.le_of_ble_eq_true rfl) (Nat.le_of_ble_eq_true rfl) d_Model_costBy_257 ?_
                    refine r_aload_n (i := 0) d_Model_costBy_260 rfl rfl ?_
                    refine r_iload d_Model_costBy_261 rfl ?_
                    refine r_iload_n (i := 2) d_Model_costBy_263 rfl rfl ?_
                    refine r_V2 v_Model_costAt w_1083 lm_0 (c_Model_costAt (by omega) (hC r (by omega) (i) (by omega) (by omega))) (Nat.le_of_ble_eq_true rfl) (Nat.le_of_ble_eq_true rfl) d_Model_costBy_264 ?_
                    refine r_iaddN (a := (if lv l = true then 0 else C l i + mc 2)) (b := (C r i)) d_Model_costBy_267 rfl rfl ?_
                    refine r_aload_n (i := 0) d_Model_costBy_268 rfl rfl ?_
                    refine r_getr nf_Model_16 lm_0 rfl d_Model_costBy_269 ?_
                    refine r_sipush 134 d_Model_costBy_272 sp_134 ?_
                    refine r_ia (q := 134) lm_3 rfl (by omega) (by decide) ((hS.gmc (j := 1) (by omega))) d_Model_costBy_275 ?_
                    refine r_iaddN (a := ((if lv l = true then 0 else C l i + mc 2) + (C r i))) (b := (mc 1)) d_Model_costBy_276 rfl rfl ?_
                    refine r_aload_n (i := 0) d_Model_costBy_277 rfl rfl ?_
                    refine r_getr nf_Model_16 lm_0 rfl d_Model_costBy_278 ?_
                    refine r_sipush 136 d_Model_costBy_281 sp_136 ?_
                    refine r_ia (q := 136) lm_3 rfl (by omega) (by decide) ((hS.gmc (j := 3) (by omega))) d_Model_costBy_284 ?_
                    refine r_iaddN (a := (((if lv l = true then 0 else C l i + mc 2) + (C r i)) + (mc 1))) (b := (mc 3)) d_Model_costBy_285 rfl rfl ?_
                    refine r_goto 322 d_Model_costBy_286 (by decide) ?_
                    refine r_iret rfl d_Model_costBy_322 ?_
                    refine ⟨?_, rfl⟩
                    first
                      | (have key : wMay i (!(tp l && tp r)) (o_comm (le k)) 5 = true := by
                          simp only [wMay]
                          first
                            | rfl
                            | (have i2 : 2 ≤ i := Nat.le_of_not_lt (fun q => nI_ge q (by omega) h_99)
                               simp_all [bI]; done)
                            | (simp_all [bI]; done)
                         rw [key]; rfl)
                      | (have key : wMay i (!(tp l && tp r)) (o_comm (le k)) 5 = false := by
                          simp only [wMay]
                          first
                            | (have i2 : ¬ 2 ≤ i := fun q => h_99 (nI_le q (by omega))
                               simp_all [bI]; done)
                            | (simp_all [bI]; done)
                         rw [key]; rfl)
                · exact absurd h_188 (by decide)
              · exact absurd h_122 (by decide)
            · skip
              refine r_iload_n (i := 3) d_Model_costBy_102 rfl rfl ?_
              refine r_iconst 1 d_Model_costBy_103 ic_1 ?_
              refine r_icmp_eq 117 d_Model_costBy_104 (by decide) (fun h_104 => ?_) (fun h_104 => ?_)
              · exact absurd h_104 (by decide)
              · skip
                refine r_iload_n (i := 3) d_Model_costBy_107 rfl rfl ?_
                refine r_iconst 2 d_Model_costBy_108 ic_2 ?_
                refine r_icmp_eq 117 d_Model_costBy_109 (by decide) (fun h_109 => ?_) (fun h_109 => ?_)
                · exact absurd h_109 (by decide)
                · skip
                  refine r_iload_n (i := 3) d_Model_costBy_112 rfl rfl ?_
                  refine r_iconst 5 d_Model_costBy_113 ic_5 ?_
                  refine r_icmp_ne 120 d_Model_costBy_114 (by decide) (fun h_114 => ?_) (fun h_114 => ?_)
                  · exact absurd h_114 (by decide)
                  · skip
                    refine r_ldc w_1082 d_Model_costBy_117 ?_
                    refine r_iret rfl d_Model_costBy_119 ?_
                    refine ⟨?_, rfl⟩
                    first
                      | (have key : wMay i (!(tp l && tp r)) (o_comm (le k)) 5 = true := by
                          simp only [wMay]
                          first
                            | rfl
                            | (have i2 : 2 ≤ i := Nat.le_of_not_lt (fun q => nI_ge q (by omega) h_99)
                               simp_all [bI]; done)
                            | (simp_all [bI]; done)
                         rw [key]; rfl)
                      | (have key : wMay i (!(tp l && tp r)) (o_comm (le k)) 5 = false := by
                          simp only [wMay]
                          first
                            | (have i2 : ¬ 2 ≤ i := fun q => h_99 (nI_le q (by omega))
                               simp_all [bI]; done)
                            | (simp_all [bI]; done)
                         rw [key]; rfl)
        · exact absurd h_73 (by decide)
    · exact absurd h_49 (by decide)
  · skip
    refine r_aload_n (i := 0) d_Model_costBy_31 rfl rfl ?_
    refine r_iload d_Model_costBy_32 rfl ?_
    refine r_V1 v_Model_mayTrap w_1036 lm_0 (c_Model_mayTrap hS hw ht (show r < n by omega)) (Nat.le_of_ble_eq_true rfl) (Nat.le_of_ble_eq_true rfl) d_Model_costBy_34 ?_
    refine r_if_eq 44 d_Model_costBy_37 (by decide) (fun h_37 => ?_) (fun h_37 => ?_)
    · skip
      refine r_iconst 0 d_Model_costBy_44 ic_0 ?_
      refine r_istore d_Model_costBy_45 (Nat.le_of_ble_eq_true rfl) rfl ?_
      dsimp only [List.set]
      refine r_iload_n (i := 3) d_Model_costBy_47 rfl rfl ?_
      refine r_iconst 4 d_Model_costBy_48 ic_4 ?_
      refine r_icmp_ne 66 d_Model_costBy_49 (by decide) (fun h_49 => ?_) (fun h_49 => ?_)
      · skip
        refine r_iload_n (i := 3) d_Model_costBy_66 rfl rfl ?_
        refine r_iconst 2 d_Model_costBy_67 ic_2 ?_
        refine r_icmp_eq 76 d_Model_costBy_68 (by decide) (fun h_68 => ?_) (fun h_68 => ?_)
        · exact absurd h_68 (by decide)
        · skip
          refine r_iload_n (i := 3) d_Model_costBy_71 rfl rfl ?_
          refine r_iconst 3 d_Model_costBy_72 ic_3 ?_
          refine r_icmp_ne 89 d_Model_costBy_73 (by decide) (fun h_73 => ?_) (fun h_73 => ?_)
          · skip
            refine r_iconst 1 d_Model_costBy_89 ic_1 ?_
            refine r_istore d_Model_costBy_90 (Nat.le_of_ble_eq_true rfl) rfl ?_
            dsimp only [List.set]
            refine r_iload d_Model_costBy_92 rfl ?_
            refine r_if_eq 117 d_Model_costBy_94 (by decide) (fun h_94 => ?_) (fun h_94 => ?_)
            · exact absurd h_94 (by decide)
            · skip
              refine r_iload_n (i := 2) d_Model_costBy_97 rfl rfl ?_
              refine r_iconst 2 d_Model_costBy_98 ic_2 ?_
              refine r_icmp_ge 120 d_Model_costBy_99 (by decide) (fun h_99 => ?_) (fun h_99 => ?_)
              · skip
                refine r_iload_n (i := 3) d_Model_costBy_120 rfl rfl ?_
                refine r_iconst 3 d_Model_costBy_121 ic_3 ?_
                refine r_icmp_ge 186 d_Model_costBy_122 (by decide) (fun h_122 => ?_) (fun h_122 => ?_)
                · skip
                  refine r_iload_n (i := 3) d_Model_costBy_186 rfl rfl ?_
                  refine r_iconst 5 d_Model_costBy_187 ic_5 ?_
                  refine r_icmp_ge 248 d_Model_costBy_188 (by decide) (fun h_188 => ?_) (fun h_188 => ?_)
                  · skip
                    refine r_iload_n (i := 3) d_Model_costBy_248 rfl rfl ?_
                    refine r_iconst 5 d_Model_costBy_249 ic_5 ?_
                    refine r_icmp_ne 289 d_Model_costBy_250 (by decide) (fun h_250 => ?_) (fun h_250 => ?_)
                    · exact absurd h_250 (by decide)
                    · skip
                      refine r_aload_n (i := 0) d_Model_costBy_253 rfl rfl ?_
                      refine r_iload d_Model_costBy_254 rfl ?_
                      refine r_iload_n (i := 2) d_Model_costBy_256 rfl rfl ?_
                      refine r_V2 v_Model_keptAt w_1091 lm_0 (c_Model_keptAt hS (by omega) (by omega) (hlv l (by omega)) (hC l (by omega) i hi1 hi)) (Nat.le_of_ble_eq_true rfl) (Nat.le_of_ble_eq_true rfl) d_Model_costBy_257 ?_
                      refine r_aload_n (i := 0) d_Model_costBy_260 rfl rfl ?_
                      refine r_iload d_Model_costBy_261 rfl ?_
                      refine r_iload_n (i := 2) d_Model_costBy_263 rfl rfl ?_
                      refine r_V2 v_Model_costAt w_1083 lm_0 (c_Model_costAt (by omega) (hC r (by omega) (i) (by omega) (by omega))) (Nat.le_of_ble_eq_true rfl) (Nat.le_of_ble_eq_true rfl) d_Model_costBy_264 ?_
                      refine r_iaddN (a := (if lv l = true then 0 else C l i + mc 2)) (b := (C r i)) d_Model_costBy_267 rfl rfl ?_
                      refine r_aload_n (i := 0) d_Model_costBy_268 rfl rfl ?_
                      refine r_getr nf_Model_16 lm_0 rfl d_Model_costBy_269 ?_
                      refine r_sipush 134 d_Model_costBy_272 sp_134 ?_
                      refine r_ia (q := 134) lm_3 rfl (by omega) (by decide) ((hS.gmc (j := 1) (by omega))) d_Model_costBy_275 ?_
                      refine r_iaddN (a := ((if lv l = true then 0 else C l i + mc 2) + (C r i))) (b := (mc 1)) d_Model_costBy_276 rfl rfl ?_
                      refine r_aload_n (i := 0) d_Model_costBy_277 rfl rfl ?_
                      refine r_getr nf_Model_16 lm_0 rfl d_Model_costBy_278 ?_
                      refine r_sipush 136 d_Model_costBy_281 sp_136 ?_
                      refine r_ia (q := 136) lm_3 rfl (by omega) (by decide) ((hS.gmc (j := 3) (by omega))) d_Model_costBy_284 ?_
                      refine r_iaddN (a := (((if lv l = true then 0 else C l i + mc 2) + (C r i)) + (mc 1))) (b := (mc 3)) d_Model_costBy_285 rfl rfl ?_
                      refine r_goto 322 d_Model_costBy_286 (by decide) ?_
                      refine r_iret rfl d_Model_costBy_322 ?_
                      refine ⟨?_, rfl⟩
                      first
                        | (have key : wMay i (!(tp l && tp r)) (o_comm (le k)) 5 = true := by
                            simp only [wMay]
                            first
                              | rfl
                              | (have i2 : 2 ≤ i := Nat.le_of_not_lt (fun q => nI_ge q (by omega) h_99)
                                 simp_all [bI]; done)
                              | (simp_all [bI]; done)
                           rw [key]; rfl)
                        | (have key : wMay i (!(tp l && tp r)) (o_comm (le k)) 5 = false := by
                            simp only [wMay]
                            first
                              | (have i2 : ¬ 2 ≤ i := fun q => h_99 (nI_le q (by omega))
                                 simp_all [bI]; done)
                              | (simp_all [bI]; done)
                           rw [key]; rfl)
                  · exact absurd h_188 (by decide)
                · exact absurd h_122 (by decide)
              · skip
                refine r_iload_n (i := 3) d_Model_costBy_102 rfl rfl ?_
                refine r_iconst 1 d_Model_costBy_103 ic_1 ?_
                refine r_icmp_eq 117 d_Model_costBy_104 (by decide) (fun h_104 => ?_) (fun h_104 => ?_)
                · exact absurd h_104 (by decide)
                · skip
                  refine r_iload_n (i := 3) d_Model_costBy_107 rfl rfl ?_
                  refine r_iconst 2 d_Model_costBy_108 ic_2 ?_
                  refine r_icmp_eq 117 d_Model_costBy_109 (by decide) (fun h_109 => ?_) (fun h_109 => ?_)
                  · exact absurd h_109 (by decide)
                  · skip
                    refine r_iload_n (i := 3) d_Model_costBy_112 rfl rfl ?_
                    refine r_iconst 5 d_Model_costBy_113 ic_5 ?_
                    refine r_icmp_ne 120 d_Model_costBy_114 (by decide) (fun h_114 => ?_) (fun h_114 => ?_)
                    · exact absurd h_114 (by decide)
                    · skip
                      refine r_ldc w_1082 d_Model_costBy_117 ?_
                      refine r_iret rfl d_Model_costBy_119 ?_
                      refine ⟨?_, rfl⟩
                      first
                        | (have key : wMay i (!(tp l && tp r)) (o_comm (le k)) 5 = true := by
                            simp only [wMay]
                            first
                              | rfl
                              | (have i2 : 2 ≤ i := Nat.le_of_not_lt (fun q => nI_ge q (by omega) h_99)
                                 simp_all [bI]; done)
                              | (simp_all [bI]; done)
                           rw [key]; rfl)
                        | (have key : wMay i (!(tp l && tp r)) (o_comm (le k)) 5 = false := by
                            simp only [wMay]
                            first
                              | (have i2 : ¬ 2 ≤ i := fun q => h_99 (nI_le q (by omega))
                                 simp_all [bI]; done)
                              | (simp_all [bI]; done)
                           rw [key]; rfl)
          · exact absurd h_73 (by decide)
      · exact absurd h_49 (by decide)
    · skip
      refine r_iconst 1 d_Model_costBy_40 ic_1 ?_
      refine r_goto 45 d_Model_costBy_41 (by decide) ?_
      refine r_istore d_Model_costBy_45 (Nat.le_of_ble_eq_true rfl) rfl ?_
      dsimp only [List.set]
      refine r_iload_n (i := 3) d_Model_costBy_47 rfl rfl ?_
      refine r_iconst 4 d_Model_costBy_48 ic_4 ?_
      refine r_icmp_ne 66 d_Model_costBy_49 (by decide) (fun h_49 => ?_) (fun h_49 => ?_)
      · skip
        refine r_iload_n (i := 3) d_Model_costBy_66 rfl rfl ?_
        refine r_iconst 2 d_Model_costBy_67 ic_2 ?_
        refine r_icmp_eq 76 d_Model_costBy_68 (by decide) (fun h_68 => ?_) (fun h_68 => ?_)
        · exact absurd h_68 (by decide)
        · skip
          refine r_iload_n (i := 3) d_Model_costBy_71 rfl rfl ?_
          refine r_iconst 3 d_Model_costBy_72 ic_3 ?_
          refine r_icmp_ne 89 d_Model_costBy_73 (by decide) (fun h_73 => ?_) (fun h_73 => ?_)
          · skip
            refine r_iconst 1 d_Model_costBy_89 ic_1 ?_
            refine r_istore d_Model_costBy_90 (Nat.le_of_ble_eq_true rfl) rfl ?_
            dsimp only [List.set]
            refine r_iload d_Model_costBy_92 rfl ?_
            refine r_if_eq 117 d_Model_costBy_94 (by decide) (fun h_94 => ?_) (fun h_94 => ?_)
            · exact absurd h_94 (by decide)
            · skip
              refine r_iload_n (i := 2) d_Model_costBy_97 rfl rfl ?_
              refine r_iconst 2 d_Model_costBy_98 ic_2 ?_
              refine r_icmp_ge 120 d_Model_costBy_99 (by decide) (fun h_99 => ?_) (fun h_99 => ?_)
              · skip
                refine r_iload_n (i := 3) d_Model_costBy_120 rfl rfl ?_
                refine r_iconst 3 d_Model_costBy_121 ic_3 ?_
                refine r_icmp_ge 186 d_Model_costBy_122 (by decide) (fun h_122 => ?_) (fun h_122 => ?_)
                · skip
                  refine r_iload_n (i := 3) d_Model_costBy_186 rfl rfl ?_
                  refine r_iconst 5 d_Model_costBy_187 ic_5 ?_
                  refine r_icmp_ge 248 d_Model_costBy_188 (by decide) (fun h_188 => ?_) (fun h_188 => ?_)
                  · skip
                    refine r_iload_n (i := 3) d_Model_costBy_248 rfl rfl ?_
                    refine r_iconst 5 d_Model_costBy_249 ic_5 ?_
                    refine r_icmp_ne 289 d_Model_costBy_250 (by decide) (fun h_250 => ?_) (fun h_250 => ?_)
                    · exact absurd h_250 (by decide)
                    · skip
                      refine r_aload_n (i := 0) d_Model_costBy_253 rfl rfl ?_
                      refine r_iload d_Model_costBy_254 rfl ?_
                      refine r_iload_n (i := 2) d_Model_costBy_256 rfl rfl ?_
                      refine r_V2 v_Model_keptAt w_1091 lm_0 (c_Model_keptAt hS (by omega) (by omega) (hlv l (by omega)) (hC l (by omega) i hi1 hi)) (Nat.le_of_ble_eq_true rfl) (Nat.le_of_ble_eq_true rfl) d_Model_costBy_257 ?_
                      refine r_aload_n (i := 0) d_Model_costBy_260 rfl rfl ?_
                      refine r_iload d_Model_costBy_261 rfl ?_
                      refine r_iload_n (i := 2) d_Model_costBy_263 rfl rfl ?_
                      refine r_V2 v_Model_costAt w_1083 lm_0 (c_Model_costAt (by omega) (hC r (by omega) (i) (by omega) (by omega))) (Nat.le_of_ble_eq_true rfl) (Nat.le_of_ble_eq_true rfl) d_Model_costBy_264 ?_
                      refine r_iaddN (a := (if lv l = true then 0 else C l i + mc 2)) (b := (C r i)) d_Model_costBy_267 rfl rfl ?_
                      refine r_aload_n (i := 0) d_Model_costBy_268 rfl rfl ?_
                      refine r_getr nf_Model_16 lm_0 rfl d_Model_costBy_269 ?_
                      refine r_sipush 134 d_Model_costBy_272 sp_134 ?_
                      refine r_ia (q := 134) lm_3 rfl (by omega) (by decide) ((hS.gmc (j := 1) (by omega))) d_Model_costBy_275 ?_
                      refine r_iaddN (a := ((if lv l = true then 0 else C l i + mc 2) + (C r i))) (b := (mc 1)) d_Model_costBy_276 rfl rfl ?_
                      refine r_aload_n (i := 0) d_Model_costBy_277 rfl rfl ?_
                      refine r_getr nf_Model_16 lm_0 rfl d_Model_costBy_278 ?_
                      refine r_sipush 136 d_Model_costBy_281 sp_136 ?_
                      refine r_ia (q := 136) lm_3 rfl (by omega) (by decide) ((hS.gmc (j := 3) (by omega))) d_Model_costBy_284 ?_
                      refine r_iaddN (a := (((if lv l = true then 0 else C l i + mc 2) + (C r i)) + (mc 1))) (b := (mc 3)) d_Model_costBy_285 rfl rfl ?_
                      refine r_goto 322 d_Model_costBy_286 (by decide) ?_
                      refine r_iret rfl d_Model_costBy_322 ?_
                      refine ⟨?_, rfl⟩
                      first
                        | (have key : wMay i (!(tp l && tp r)) (o_comm (le k)) 5 = true := by
                            simp only [wMay]
                            first
                              | rfl
                              | (have i2 : 2 ≤ i := Nat.le_of_not_lt (fun q => nI_ge q (by omega) h_99)
                                 simp_all [bI]; done)
                              | (simp_all [bI]; done)
                           rw [key]; rfl)
                        | (have key : wMay i (!(tp l && tp r)) (o_comm (le k)) 5 = false := by
                            simp only [wMay]
                            first
                              | (have i2 : ¬ 2 ≤ i := fun q => h_99 (nI_le q (by omega))
                                 simp_all [bI]; done)
                              | (simp_all [bI]; done)
                           rw [key]; rfl)
                  · exact absurd h_188 (by decide)
                · exact absurd h_122 (by decide)
              · skip
                refine r_iload_n (i := 3) d_Model_costBy_102 rfl rfl ?_
                refine r_iconst 1 d_Model_costBy_103 ic_1 ?_
                refine r_icmp_eq 117 d_Model_costBy_104 (by decide) (fun h_104 => ?_) (fun h_104 => ?_)
                · exact absurd h_104 (by decide)
                · skip
                  refine r_iload_n (i := 3) d_Model_costBy_107 rfl rfl ?_
                  refine r_iconst 2 d_Model_costBy_108 ic_2 ?_
                  refine r_icmp_eq 117 d_Model_costBy_109 (by decide) (fun h_109 => ?_) (fun h_109 => ?_)
                  · exact absurd h_109 (by decide)
                  · skip
                    refine r_iload_n (i := 3) d_Model_costBy_112 rfl rfl ?_
                    refine r_iconst 5 d_Model_costBy_113 ic_5 ?_
                    refine r_icmp_ne 120 d_Model_costBy_114 (by decide) (fun h_114 => ?_) (fun h_114 => ?_)
                    · exact absurd h_114 (by decide)
                    · skip
                      refine r_ldc w_1082 d_Model_costBy_117 ?_
                      refine r_iret rfl d_Model_costBy_119 ?_
                      refine ⟨?_, rfl⟩
                      first
                        | (have key : wMay i (!(tp l && tp r)) (o_comm (le k)) 5 = true := by
                            simp only [wMay]
                            first
                              | rfl
                              | (have i2 : 2 ≤ i := Nat.le_of_not_lt (fun q => nI_ge q (by omega) h_99)
                                 simp_all [bI]; done)
                              | (simp_all [bI]; done)
                           rw [key]; rfl)
                        | (have key : wMay i (!(tp l && tp r)) (o_comm (le k)) 5 = false := by
                            simp only [wMay]
                            first
                              | (have i2 : ¬ 2 ≤ i := fun q => h_99 (nI_le q (by omega))
                                 simp_all [bI]; done)
                              | (simp_all [bI]; done)
                           rw [key]; rfl)
          · exact absurd h_73 (by decide)
      · exact absurd h_49 (by decide)

set_option maxHeartbeats 2000000 in
theorem c_Model_costBy6 (hS : MS n le nu lf rt nm mc (M 3)) (hw : WF n le nu lf rt z) (ht : ∀ k, k < n → TPk le lf rt z tp k) (hmk : MOK mc) {k i l r : Nat} (hk : k < n) (hl : l < k) (hr : r < k) (el : lf k = nI l) (er : rt k = nI r) (hi1 : 1 ≤ i) (hi : i ≤ mc 0) (hlv : ∀ j, j < n → M 11 j = bI (lv j)) (hC : ∀ j, j < k → ∀ i, 1 ≤ i → i ≤ mc 0 → M 12 (7 * j + i) = nI (C j i)) : CF G LM m_Model_costBy 2 [.ref (G.2.2 0), .int (nI k), .int (nI i), .int 6] M (some (.int (nI (if wMay i (!(tp l && tp r)) (o_comm (le k)) 6 then wPr mc lv C l r i 6 else 99999)))) M := by
  have hn := hw.1
  have h6 := hmk.2.1
  refine CJ_of2 (n0 := 4) (by decide) rfl rfl ?_
  simp only [List.map_cons, List.map_nil, List.cons_append, List.nil_append, List.reduceReplicate]
  refine r_aload_n (i := 0) d_Model_costBy_0 rfl rfl ?_
  refine r_getr nf_Model_16 lm_0 rfl d_Model_costBy_1 ?_
  refine r_bipush 63 d_Model_costBy_4 bp_63 ?_
  refine r_iload_n (i := 1) d_Model_costBy_6 rfl rfl ?_
  refine r_iaddN (a := 63) (b := k) d_Model_costBy_7 rfl rfl ?_
  refine r_ia (q := (63 + k)) lm_3 rfl (by omega) (by decide) ((hS.glf (j := k) (by omega)).trans el) d_Model_costBy_8 ?_
  refine r_istore d_Model_costBy_9 (Nat.le_of_ble_eq_true rfl) rfl ?_
  dsimp only [List.set]
  refine r_aload_n (i := 0) d_Model_costBy_11 rfl rfl ?_
  refine r_getr nf_Model_16 lm_0 rfl d_Model_costBy_12 ?_
  refine r_bipush 94 d_Model_costBy_15 bp_94 ?_
  refine r_iload_n (i := 1) d_Model_costBy_17 rfl rfl ?_
  refine r_iaddN (a := 94) (b := k) d_Model_costBy_18 rfl rfl ?_
  refine r_ia (q := (94 + k)) lm_3 rfl (by omega) (by decide) ((hS.grt (j := k) (by omega)).trans er) d_Model_costBy_19 ?_
  refine r_istore d_Model_costBy_20 (Nat.le_of_ble_eq_true rfl) rfl ?_
  dsimp only [List.set]
  refine r_aload_n (i := 0) d_Model_costBy_22 rfl rfl ?_
  refine r_iload d_Model_costBy_23 rfl ?_
  refine r_V1 v_Model_mayTrap w_1036 lm_0 (c_Model_mayTrap hS hw ht (show l < n by omega)) (Nat.le_of_ble_eq_true rfl) (Nat.le_of_ble_eq_true rfl) d_Model_costBy_25 ?_
  refine r_if_eq 44 d_Model_costBy_28 (by decide) (fun h_28 => ?_) (fun h_28 => ?_)
  · skip
    refine r_iconst 0 d_Model_costBy_44 ic_0 ?_
    refine r_istore d_Model_costBy_45 (Nat.le_of_ble_eq_true rfl) rfl ?_
    dsimp only [List.set]
    refine r_iload_n (i := 3) d_Model_costBy_47 rfl rfl ?_
    refine r_iconst 4 d_Model_costBy_48 ic_4 ?_
    refine r_icmp_ne 66 d_Model_costBy_49 (by decide) (fun h_49 => ?_) (fun h_49 => ?_)
    · skip
      refine r_iload_n (i := 3) d_Model_costBy_66 rfl rfl ?_
      refine r_iconst 2 d_Model_costBy_67 ic_2 ?_
      refine r_icmp_eq 76 d_Model_costBy_68 (by decide) (fun h_68 => ?_) (fun h_68 => ?_)
      · exact absurd h_68 (by decide)
      · skip
        refine r_iload_n (i := 3) d_Model_costBy_71 rfl rfl ?_
        refine r_iconst 3 d_Model_costBy_72 ic_3 ?_
        refine r_icmp_ne 89 d_Model_costBy_73 (by decide) (fun h_73 => ?_) (fun h_73 => ?_)
        · skip
          refine r_iconst 1 d_Model_costBy_89 ic_1 ?_
          refine r_istore d_Model_costBy_90 (Nat.le_of_ble_eq_true rfl) rfl ?_
          dsimp only [List.set]
          refine r_iload d_Model_costBy_92 rfl ?_
          refine r_if_eq 117 d_Model_costBy_94 (by decide) (fun h_94 => ?_) (fun h_94 => ?_)
          · exact absurd h_94 (by decide)
          · skip
            refine r_iload_n (i := 2) d_Model_costBy_97 rfl rfl ?_
            refine r_iconst 2 d_Model_costBy_98 ic_2 ?_
            refine r_icmp_ge 120 d_Model_costBy_99 (by decide) (fun h_99 => ?_) (fun h_99 => ?_)
            · skip
              refine r_iload_n (i := 3) d_Model_costBy_120 rfl rfl ?_
              refine r_iconst 3 d_Model_costBy_121 ic_3 ?_
              refine r_icmp_ge 186 d_Model_costBy_122 (by decide) (fun h_122 => ?_) (fun h_122 => ?_)
              · skip
                refine r_iload_n (i := 3) d_Model_costBy_186 rfl rfl ?_
                refine r_iconst 5 d_Model_costBy_187 ic_5 ?_
                refine r_icmp_ge 248 d_Model_costBy_188 (by decide) (fun h_188 => ?_) (fun h_188 => ?_)
                · skip
                  refine r_iload_n (i := 3) d_Model_costBy_248 rfl rfl ?_
                  refine r_iconst 5 d_Model_costBy_249 ic_5 ?_
                  refine r_icmp_ne 289 d_Model_costBy_250 (by decide) (fun h_250 => ?_) (fun h_250 => ?_)
                  · skip
                    refine r_aload_n (i := 0) d_Model_costBy_289 rfl rfl ?_
                    refine r_iload d_Model_costBy_290 rfl ?_
                    refine r_iload_n (i := 2) d_Model_costBy_292 rfl rfl ?_
                    refine r_V2 v_Model_keptAt w_1091 lm_0 (c_Model_keptAt hS (by omega) (by omega) (hlv l (by omega)) (hC l (by omega) i hi1 hi)) (Nat.le_of_ble_eq_true rfl) (Nat.le_of_ble_eq_true rfl) d_Model_costBy_293 ?_
                    refine r_aload_n (i := 0) d_Model_costBy_296 rfl rfl ?_
                    refine r_iload d_Model_costBy_297 rfl ?_
                    refine r_iload_n (i := 2) d_Model_costBy_299 rfl rfl ?_
                    refine r_V2 v_Model_keptAt w_1091 lm_0 (c_Model_keptAt hS (by omega) (by omega) (hlv r (by omega)) (hC r (by omega) i hi1 hi)) (Nat.le_of_ble_eq_true rfl) (Nat.le_of_ble_eq_true rfl) d_Model_costBy_300 ?_
                    refine r_iaddN (a := (if lv l = true then 0 else C l i + mc 2)) (b := (if lv r = true then 0 else C r i + mc 2)) d_Model_costBy_303 rfl rfl ?_
                    refine r_aload_n (i := 0) d_Model_costBy_304 rfl rfl ?_
                    refine r_getr nf_Model_16 lm_0 rfl d_Model_costBy_305 ?_
                    refine r_sipush 134 d_Model_costBy_308 sp_134 ?_
                    refine r_ia (q := 134) lm_3 rfl (by omega) (by decide) ((hS.gmc (j := 1) (by omega))) d_Model_costBy_311 ?_
                    refine r_iaddN (a := ((if lv l = true then 0 else C l i + mc 2) + (if lv r = true then 0 else C r i + mc 2))) (b := (mc 1)) d_Model_costBy_312 rfl rfl ?_
                    refine r_aload_n (i := 0) d_Model_costBy_313 rfl rfl ?_
                    refine r_getr nf_Model_16 lm_0 rfl d_Model_costBy_314 ?_
                    refine r_sipush 137 d_Model_costBy_317 sp_137 ?_
                    refine r_ia (q := 137) lm_3 rfl (by omega) (by decide) ((hS.gmc (j := 4) (by omega))) d_Model_costBy_320 ?_
                    refine r_iaddN (a := (((if lv l = true then 0 else C l i + mc 2) + (if lv r = true then 0 else C r i + mc 2)) + (mc 1))) (b := (mc 4)) d_Model_costBy_321 rfl rfl ?_
                    refine r_iret rfl d_Model_costBy_322 ?_
                    refine ⟨?_, rfl⟩
                    first
                      | (have key : wMay i (!(tp l && tp r)) (o_comm (le k)) 6 = true := by
                          simp only [wMay]
                          first
                            | rfl
                            | (have i2 : 2 ≤ i := Nat.le_of_not_lt (fun q => nI_ge q (by omega) h_99)
                               simp_all [bI]; done)
                            | (simp_all [bI]; done)
                         rw [key]; rfl)
                      | (have key : wMay i (!(tp l && tp r)) (o_comm (le k)) 6 = false := by
                          simp only [wMay]
                          first
                            | (have i2 : ¬ 2 ≤ i := fun q => h_99 (nI_le q (by omega))
                               simp_all [bI]; done)
                            | (simp_all [bI]; done)
                         rw [key]; rfl)
                  · exact absurd h_250 (by decide)
                · exact absurd h_188 (by decide)
              · exact absurd h_122 (by decide)
            · skip
              refine r_iload_n (i := 3) d_Model_costBy_102 rfl rfl ?_
              refine r_iconst 1 d_Model_costBy_103 ic_1 ?_
              refine r_icmp_eq 117 d_Model_costBy_104 (by decide) (fun h_104 => ?_) (fun h_104 => ?_)
              · exact absurd h_104 (by decide)
              · skip
                refine r_iload_n (i := 3) d_Model_costBy_107 rfl rfl ?_
                refine r_iconst 2 d_Model_costBy_108 ic_2 ?_
                refine r_icmp_eq 117 d_Model_costBy_109 (by decide) (fun h_109 => ?_) (fun h_109 => ?_)
                · exact absurd h_109 (by decide)
                · skip
                  refine r_iload_n (i := 3) d_Model_costBy_112 rfl rfl ?_
                  refine r_iconst 5 d_Model_costBy_113 ic_5 ?_
                  refine r_icmp_ne 120 d_Model_costBy_114 (by decide) (fun h_114 => ?_) (fun h_114 => ?_)
                  · skip
                    refine r_iload_n (i := 3) d_Model_costBy_120 rfl rfl ?_
                    refine r_iconst 3 d_Model_costBy_121 ic_3 ?_
                    refine r_icmp_ge 186 d_Model_costBy_122 (by decide) (fun h_122 => ?_) (fun h_122 => ?_)
                    · skip
                      refine r_iload_n (i := 3) d_Model_costBy_186 rfl rfl ?_
                      refine r_iconst 5 d_Model_costBy_187 ic_5 ?_
                      refine r_icmp_ge 248 d_Model_costBy_188 (by decide) (fun h_188 => ?_) (fun h_188 => ?_)
                      · skip
                        refine r_iload_n (i := 3) d_Model_costBy_248 rfl rfl ?_
                        refine r_iconst 5 d_Model_costBy_249 ic_5 ?_
                        refine r_icmp_ne 289 d_Model_costBy_250 (by decide) (fun h_250 => ?_) (fun h_250 => ?_)
                        · skip
                          refine r_aload_n (i := 0) d_Model_costBy_289 rfl rfl ?_
                          refine r_iload d_Model_costBy_290 rfl ?_
                          refine r_iload_n (i := 2) d_Model_costBy_292 rfl rfl ?_
                          refine r_V2 v_Model_keptAt w_1091 lm_0 (c_Model_keptAt hS (by omega) (by omega) (hlv l (by omega)) (hC l (by omega) i hi1 hi)) (Nat.le_of_ble_eq_true rfl) (Nat.le_of_ble_eq_true rfl) d_Model_costBy_293 ?_
                          refine r_aload_n (i := 0) d_Model_costBy_296 rfl rfl ?_
                          refine r_iload d_Model_costBy_297 rfl ?_
                          refine r_iload_n (i := 2) d_Model_costBy_299 rfl rfl ?_
                          refine r_V2 v_Model_keptAt w_1091 lm_0 (c_Model_keptAt hS (by omega) (by omega) (hlv r (by omega)) (hC r (by omega) i hi1 hi)) (Nat.le_of_ble_eq_true rfl) (Nat.le_of_ble_eq_true rfl) d_Model_costBy_300 ?_
                          refine r_iaddN (a := (if lv l = true then 0 else C l i + mc 2)) (b := (if lv r = true then 0 else C r i + mc 2)) d_Model_costBy_303 rfl rfl ?_
                          refine r_aload_n (i := 0) d_Model_costBy_304 rfl rfl ?_
                          refine r_getr nf_Model_16 lm_0 rfl d_Model_costBy_305 ?_
                          refine r_sipush 134 d_Model_costBy_308 sp_134 ?_
                          refine r_ia (q := 134) lm_3 rfl (by omega) (by decide) ((hS.gmc (j := 1) (by omega))) d_Model_costBy_311 ?_
                          refine r_iaddN (a := ((if lv l = true then 0 else C l i + mc 2) + (if lv r = true then 0 else C r i + mc 2))) (b := (mc 1)) d_Model_costBy_312 rfl rfl ?_
                          refine r_aload_n (i := 0) d_Model_costBy_313 rfl rfl ?_
                          refine r_getr nf_Model_16 lm_0 rfl d_Model_costBy_314 ?_
                          refine r_sipush 137 d_Model_costBy_317 sp_137 ?_
                          refine r_ia (q := 137) lm_3 rfl (by omega) (by decide) ((hS.gmc (j := 4) (by omega))) d_Model_costBy_320 ?_
                          refine r_iaddN (a := (((if lv l = true then 0 else C l i + mc 2) + (if lv r = true then 0 else C r i + mc 2)) + (mc 1))) (b := (mc 4)) d_Model_costBy_321 rfl rfl ?_
                          refine r_iret rfl d_Model_costBy_322 ?_
                          refine ⟨?_, rfl⟩
                          first
                            | (have key : wMay i (!(tp l && tp r)) (o_comm (le k)) 6 = true := by
                                simp only [wMay]
                                first
                                  | rfl
                                  | (have i2 : 2 ≤ i := Nat.le_of_not_lt (fun q => nI_ge q (by omega) h_99)
                                     simp_all [bI]; done)
                                  | (simp_all [bI]; done)
                               rw [key]; rfl)
                            | (have key : wMay i (!(tp l && tp r)) (o_comm (le k)) 6 = false := by
                                simp only [wMay]
                                first
                                  | (have i2 : ¬ 2 ≤ i := fun q => h_99 (nI_le q (by omega))
                                     simp_all [bI]; done)
                                  | (simp_all [bI]; done)
                               rw [key]; rfl)
                        · exact absurd h_250 (by decide)
                      · exact absurd h_188 (by decide)
                    · exact absurd h_122 (by decide)
                  · exact absurd h_114 (by decide)
        · exact absurd h_73 (by decide)
    · exact absurd h_49 (by decide)
  · skip
    refine r_aload_n (i := 0) d_Model_costBy_31 rfl rfl ?_
    refine r_iload d_Model_costBy_32 rfl ?_
    refine r_V1 v_Model_mayTrap w_1036 lm_0 (c_Model_mayTrap hS hw ht (show r < n by omega)) (Nat.le_of_ble_eq_true rfl) (Nat.le_of_ble_eq_true rfl) d_Model_costBy_34 ?_
    refine r_if_eq 44 d_Model_costBy_37 (by decide) (fun h_37 => ?_) (fun h_37 => ?_)
    · skip
      refine r_iconst 0 d_Model_costBy_44 ic_0 ?_
      refine r_istore d_Model_costBy_45 (Nat.le_of_ble_eq_true rfl) rfl ?_
      dsimp only [List.set]
      refine r_iload_n (i := 3) d_Model_costBy_47 rfl rfl ?_
      refine r_iconst 4 d_Model_costBy_48 ic_4 ?_
      refine r_icmp_ne 66 d_Model_costBy_49 (by decide) (fun h_49 => ?_) (fun h_49 => ?_)
      · skip
        refine r_iload_n (i := 3) d_Model_costBy_66 rfl rfl ?_
        refine r_iconst 2 d_Model_costBy_67 ic_2 ?_
        refine r_icmp_eq 76 d_Model_costBy_68 (by decide) (fun h_68 => ?_) (fun h_68 => ?_)
        · exact absurd h_68 (by decide)
        · skip
          refine r_iload_n (i := 3) d_Model_costBy_71 rfl rfl ?_
          refine r_iconst 3 d_Model_costBy_72 ic_3 ?_
          refine r_icmp_ne 89 d_Model_costBy_73 (by decide) (fun h_73 => ?_) (fun h_73 => ?_)
          · skip
            refine r_iconst 1 d_Model_costBy_89 ic_1 ?_
            refine r_istore d_Model_costBy_90 (Nat.le_of_ble_eq_true rfl) rfl ?_
            dsimp only [List.set]
            refine r_iload d_Model_costBy_92 rfl ?_
            refine r_if_eq 117 d_Model_costBy_94 (by decide) (fun h_94 => ?_) (fun h_94 => ?_)
            · exact absurd h_94 (by decide)
            · skip
              refine r_iload_n (i := 2) d_Model_costBy_97 rfl rfl ?_
              refine r_iconst 2 d_Model_costBy_98 ic_2 ?_
              refine r_icmp_ge 120 d_Model_costBy_99 (by decide) (fun h_99 => ?_) (fun h_99 => ?_)
              · skip
                refine r_iload_n (i := 3) d_Model_costBy_120 rfl rfl ?_
                refine r_iconst 3 d_Model_costBy_121 ic_3 ?_
                refine r_icmp_ge 186 d_Model_costBy_122 (by decide) (fun h_122 => ?_) (fun h_122 => ?_)
                · skip
                  refine r_iload_n (i := 3) d_Model_costBy_186 rfl rfl ?_
                  refine r_iconst 5 d_Model_costBy_187 ic_5 ?_
                  refine r_icmp_ge 248 d_Model_costBy_188 (by decide) (fun h_188 => ?_) (fun h_188 => ?_)
                  · skip
                    refine r_iload_n (i := 3) d_Model_costBy_248 rfl rfl ?_
                    refine r_iconst 5 d_Model_costBy_249 ic_5 ?_
                    refine r_icmp_ne 289 d_Model_costBy_250 (by decide) (fun h_250 => ?_) (fun h_250 => ?_)
                    · skip
                      refine r_aload_n (i := 0) d_Model_costBy_289 rfl rfl ?_
                      refine r_iload d_Model_costBy_290 rfl ?_
                      refine r_iload_n (i := 2) d_Model_costBy_292 rfl rfl ?_
                      refine r_V2 v_Model_keptAt w_1091 lm_0 (c_Model_keptAt hS (by omega) (by omega) (hlv l (by omega)) (hC l (by omega) i hi1 hi)) (Nat.le_of_ble_eq_true rfl) (Nat.le_of_ble_eq_true rfl) d_Model_costBy_293 ?_
                      refine r_aload_n (i := 0) d_Model_costBy_296 rfl rfl ?_
                      refine r_iload d_Model_costBy_297 rfl ?_
                      refine r_iload_n (i := 2) d_Model_costBy_299 rfl rfl ?_
                      refine r_V2 v_Model_keptAt w_1091 lm_0 (c_Model_keptAt hS (by omega) (by omega) (hlv r (by omega)) (hC r (by omega) i hi1 hi)) (Nat.le_of_ble_eq_true rfl) (Nat.le_of_ble_eq_true rfl) d_Model_costBy_300 ?_
                      refine r_iaddN (a := (if lv l = true then 0 else C l i + mc 2)) (b := (if lv r = true then 0 else C r i + mc 2)) d_Model_costBy_303 rfl rfl ?_
                      refine r_aload_n (i := 0) d_Model_costBy_304 rfl rfl ?_
                      refine r_getr nf_Model_16 lm_0 rfl d_Model_costBy_305 ?_
                      refine r_sipush 134 d_Model_costBy_308 sp_134 ?_
                      refine r_ia (q := 134) lm_3 rfl (by omega) (by decide) ((hS.gmc (j := 1) (by omega))) d_Model_costBy_311 ?_
                      refine r_iaddN (a := ((if lv l = true then 0 else C l i + mc 2) + (if lv r = true then 0 else C r i + mc 2))) (b := (mc 1)) d_Model_costBy_312 rfl rfl ?_
                      refine r_aload_n (i := 0) d_Model_costBy_313 rfl rfl ?_
                      refine r_getr nf_Model_16 lm_0 rfl d_Model_costBy_314 ?_
                      refine r_sipush 137 d_Model_costBy_317 sp_137 ?_
                      refine r_ia (q := 137) lm_3 rfl (by omega) (by decide) ((hS.gmc (j := 4) (by omega))) d_Model_costBy_320 ?_
                      refine r_iaddN (a := (((if lv l = true then 0 else C l i + mc 2) + (if lv r = true then 0 else C r i + mc 2)) + (mc 1))) (b := (mc 4)) d_Model_costBy_321 rfl rfl ?_
                      refine r_iret rfl d_Model_costBy_322 ?_
                      refine ⟨?_, rfl⟩
                      first
                        | (have key : wMay i (!(tp l && tp r)) (o_comm (le k)) 6 = true := by
                            simp only [wMay]
                            first
                              | rfl
                              | (have i2 : 2 ≤ i := Nat.le_of_not_lt (fun q => nI_ge q (by omega) h_99)
                                 simp_all [bI]; done)
                              | (simp_all [bI]; done)
                           rw [key]; rfl)
                        | (have key : wMay i (!(tp l && tp r)) (o_comm (le k)) 6 = false := by
                            simp only [wMay]
                            first
                              | (have i2 : ¬ 2 ≤ i := fun q => h_99 (nI_le q (by omega))
                                 simp_all [bI]; done)
                              | (simp_all [bI]; done)
                           rw [key]; rfl)
                    · exact absurd h_250 (by decide)
                  · exact absurd h_188 (by decide)
                · exact absurd h_122 (by decide)
              · skip
                refine r_iload_n (i := 3) d_Model_costBy_102 rfl rfl ?_
                refine r_iconst 1 d_Model_costBy_103 ic_1 ?_
                refine r_icmp_eq 117 d_Model_costBy_104 (by decide) (fun h_104 => ?_) (fun h_104 => ?_)
                · exact absurd h_104 (by decide)
                · skip
                  refine r_iload_n (i := 3) d_Model_costBy_107 rfl rfl ?_
                  refine r_iconst 2 d_Model_costBy_108 ic_2 ?_
                  refine r_icmp_eq 117 d_Model_costBy_109 (by decide) (fun h_109 => ?_) (fun h_109 => ?_)
                  · exact absurd h_109 (by decide)
                  · skip
                    refine r_iload_n (i := 3) d_Model_costBy_112 rfl rfl ?_
                    refine r_iconst 5 d_Model_costBy_113 ic_5 ?_
                    refine r_icmp_ne 120 d_Model_costBy_114 (by decide) (fun h_114 => ?_) (fun h_114 => ?_)
                    · skip
                      refine r_iload_n (i := 3) d_Model_costBy_120 rfl rfl ?_
                      refine r_iconst 3 d_Model_costBy_121 ic_3 ?_
                      refine r_icmp_ge 186 d_Model_costBy_122 (by decide) (fun h_122 => ?_) (fun h_122 => ?_)
                      · skip
                        refine r_iload_n (i := 3) d_Model_costBy_186 rfl rfl ?_
                        refine r_iconst 5 d_Model_costBy_187 ic_5 ?_
                        refine r_icmp_ge 248 d_Model_costBy_188 (by decide) (fun h_188 => ?_) (fun h_188 => ?_)
                        · skip
                          refine r_iload_n (i := 3) d_Model_costBy_248 rfl rfl ?_
                          refine r_iconst 5 d_Model_costBy_249 ic_5 ?_
                          refine r_icmp_ne 289 d_Model_costBy_250 (by decide) (fun h_250 => ?_) (fun h_250 => ?_)
                          · skip
                            refine r_aload_n (i := 0) d_Model_costBy_289 rfl rfl ?_
                            refine r_iload d_Model_costBy_290 rfl ?_
                            refine r_iload_n (i := 2) d_Model_costBy_292 rfl rfl ?_
                            refine r_V2 v_Model_keptAt w_1091 lm_0 (c_Model_keptAt hS (by omega) (by omega) (hlv l (by omega)) (hC l (by omega) i hi1 hi)) (Nat.le_of_ble_eq_true rfl) (Nat.le_of_ble_eq_true rfl) d_Model_costBy_293 ?_
                            refine r_aload_n (i := 0) d_Model_costBy_296 rfl rfl ?_
                            refine r_iload d_Model_costBy_297 rfl ?_
                            refine r_iload_n (i := 2) d_Model_costBy_299 rfl rfl ?_
                            refine r_V2 v_Model_keptAt w_1091 lm_0 (c_Model_keptAt hS (by omega) (by omega) (hlv r (by omega)) (hC r (by omega) i hi1 hi)) (Nat.le_of_ble_eq_true rfl) (Nat.le_of_ble_eq_true rfl) d_Model_costBy_300 ?_
                            refine r_iaddN (a := (if lv l = true then 0 else C l i + mc 2)) (b := (if lv r = true then 0 else C r i + mc 2)) d_Model_costBy_303 rfl rfl ?_
                            refine r_aload_n (i := 0) d_Model_costBy_304 rfl rfl ?_
                            refine r_getr nf_Model_16 lm_0 rfl d_Model_costBy_305 ?_
                            refine r_sipush 134 d_Model_costBy_308 sp_134 ?_
                            refine r_ia (q := 134) lm_3 rfl (by omega) (by decide) ((hS.gmc (j := 1) (by omega))) d_Model_costBy_311 ?_
                            refine r_iaddN (a := ((if lv l = true then 0 else C l i + mc 2) + (if lv r = true then 0 else C r i + mc 2))) (b := (mc 1)) d_Model_costBy_312 rfl rfl ?_
                            refine r_aload_n (i := 0) d_Model_costBy_313 rfl rfl ?_
                            refine r_getr nf_Model_16 lm_0 rfl d_Model_costBy_314 ?_
                            refine r_sipush 137 d_Model_costBy_317 sp_137 ?_
                            refine r_ia (q := 137) lm_3 rfl (by omega) (by decide) ((hS.gmc (j := 4) (by omega))) d_Model_costBy_320 ?_
                            refine r_iaddN (a := (((if lv l = true then 0 else C l i + mc 2) + (if lv r = true then 0 else C r i + mc 2)) + (mc 1))) (b := (mc 4)) d_Model_costBy_321 rfl rfl ?_
                            refine r_iret rfl d_Model_costBy_322 ?_
                            refine ⟨?_, rfl⟩
                            first
                              | (have key : wMay i (!(tp l && tp r)) (o_comm (le k)) 6 = true := by
                                  simp only [wMay]
                                  first
                                    | rfl
                                    | (have i2 : 2 ≤ i := Nat.le_of_not_lt (fun q => nI_ge q (by omega) h_99)
                                       simp_all [bI]; done)
                                    | (simp_all [bI]; done)
                                 rw [key]; rfl)
                              | (have key : wMay i (!(tp l && tp r)) (o_comm (le k)) 6 = false := by
                                  simp only [wMay]
                                  first
                                    | (have i2 : ¬ 2 ≤ i := fun q => h_99 (nI_le q (by omega))
                                       simp_all [bI]; done)
                                    | (simp_all [bI]; done)
                                 rw [key]; rfl)
                          · exact absurd h_250 (by decide)
                        · exact absurd h_188 (by decide)
                      · exact absurd h_122 (by decide)
                    · exact absurd h_114 (by decide)
          · exact absurd h_73 (by decide)
      · exact absurd h_49 (by decide)
    · skip
      refine r_iconst 1 d_Model_costBy_40 ic_1 ?_
      refine r_goto 45 d_Model_costBy_41 (by decide) ?_
      refine r_istore d_Model_costBy_45 (Nat.le_of_ble_eq_true rfl) rfl ?_
      dsimp only [List.set]
      refine r_iload_n (i := 3) d_Model_costBy_47 rfl rfl ?_
      refine r_iconst 4 d_Model_costBy_48 ic_4 ?_
      refine r_icmp_ne 66 d_Model_costBy_49 (by decide) (fun h_49 => ?_) (fun h_49 => ?_)
      · skip
        refine r_iload_n (i := 3) d_Model_costBy_66 rfl rfl ?_
        refine r_iconst 2 d_Model_costBy_67 ic_2 ?_
        refine r_icmp_eq 76 d_Model_costBy_68 (by decide) (fun h_68 => ?_) (fun h_68 => ?_)
        · exact absurd h_68 (by decide)
        · skip
          refine r_iload_n (i := 3) d_Model_costBy_71 rfl rfl ?_
          refine r_iconst 3 d_Model_costBy_72 ic_3 ?_
          refine r_icmp_ne 89 d_Model_costBy_73 (by decide) (fun h_73 => ?_) (fun h_73 => ?_)
          · skip
            refine r_iconst 1 d_Model_costBy_89 ic_1 ?_
            refine r_istore d_Model_costBy_90 (Nat.le_of_ble_eq_true rfl) rfl ?_
            dsimp only [List.set]
            refine r_iload d_Model_costBy_92 rfl ?_
            refine r_if_eq 117 d_Model_costBy_94 (by decide) (fun h_94 => ?_) (fun h_94 => ?_)
            · exact absurd h_94 (by decide)
            · skip
              refine r_iload_n (i := 2) d_Model_costBy_97 rfl rfl ?_
              refine r_iconst 2 d_Model_costBy_98 ic_2 ?_
              refine r_icmp_ge 120 d_Model_costBy_99 (by decide) (fun h_99 => ?_) (fun h_99 => ?_)
              · skip
                refine r_iload_n (i := 3) d_Model_costBy_120 rfl rfl ?_
                refine r_iconst 3 d_Model_costBy_121 ic_3 ?_
                refine r_icmp_ge 186 d_Model_costBy_122 (by decide) (fun h_122 => ?_) (fun h_122 => ?_)
                · skip
                  refine r_iload_n (i := 3) d_Model_costBy_186 rfl rfl ?_
                  refine r_iconst 5 d_Model_costBy_187 ic_5 ?_
                  refine r_icmp_ge 248 d_Model_costBy_188 (by decide) (fun h_188 => ?_) (fun h_188 => ?_)
                  · skip
                    refine r_iload_n (i := 3) d_Model_costBy_248 rfl rfl ?_
                    refine r_iconst 5 d_Model_costBy_249 ic_5 ?_
                    refine r_icmp_ne 289 d_Model_costBy_250 (by decide) (fun h_250 => ?_) (fun h_250 => ?_)
                    · skip
                      refine r_aload_n (i := 0) d_Model_costBy_289 rfl rfl ?_
                      refine r_iload d_Model_costBy_290 rfl ?_
                      refine r_iload_n (i := 2) d_Model_costBy_292 rfl rfl ?_
                      refine r_V2 v_Model_keptAt w_1091 lm_0 (c_Model_keptAt hS (by omega) (by omega) (hlv l (by omega)) (hC l (by omega) i hi1 hi)) (Nat.le_of_ble_eq_true rfl) (Nat.le_of_ble_eq_true rfl) d_Model_costBy_293 ?_
                      refine r_aload_n (i := 0) d_Model_costBy_296 rfl rfl ?_
                      refine r_iload d_Model_costBy_297 rfl ?_
                      refine r_iload_n (i := 2) d_Model_costBy_299 rfl rfl ?_
                      refine r_V2 v_Model_keptAt w_1091 lm_0 (c_Model_keptAt hS (by omega) (by omega) (hlv r (by omega)) (hC r (by omega) i hi1 hi)) (Nat.le_of_ble_eq_true rfl) (Nat.le_of_ble_eq_true rfl) d_Model_costBy_300 ?_
                      refine r_iaddN (a := (if lv l = true then 0 else C l i + mc 2)) (b := (if lv r = true then 0 else C r i + mc 2)) d_Model_costBy_303 rfl rfl ?_
                      refine r_aload_n (i := 0) d_Model_costBy_304 rfl rfl ?_
                      refine r_getr nf_Model_16 lm_0 rfl d_Model_costBy_305 ?_
                      refine r_sipush 134 d_Model_costBy_308 sp_134 ?_
                      refine r_ia (q := 134) lm_3 rfl (by omega) (by decide) ((hS.gmc (j := 1) (by omega))) d_Model_costBy_311 ?_
                      refine r_iaddN (a := ((if lv l = true then 0 else C l i + mc 2) + (if lv r = true then 0 else C r i + mc 2))) (b := (mc 1)) d_Model_costBy_312 rfl rfl ?_
                      refine r_aload_n (i := 0) d_Model_costBy_313 rfl rfl ?_
                      refine r_getr nf_Model_16 lm_0 rfl d_Model_costBy_314 ?_
                      refine r_sipush 137 d_Model_costBy_317 sp_137 ?_
                      refine r_ia (q := 137) lm_3 rfl (by omega) (by decide) ((hS.gmc (j := 4) (by omega))) d_Model_costBy_320 ?_
                      refine r_iaddN (a := (((if lv l = true then 0 else C l i + mc 2) + (if lv r = true then 0 else C r i + mc 2)) + (mc 1))) (b := (mc 4)) d_Model_costBy_321 rfl rfl ?_
                      refine r_iret rfl d_Model_costBy_322 ?_
                      refine ⟨?_, rfl⟩
                      first
                        | (have key : wMay i (!(tp l && tp r)) (o_comm (le k)) 6 = true := by
                            simp only [wMay]
                            first
                              | rfl
                              | (have i2 : 2 ≤ i := Nat.le_of_not_lt (fun q => nI_ge q (by omega) h_99)
                                 simp_all [bI]; done)
                              | (simp_all [bI]; done)
                           rw [key]; rfl)
                        | (have key : wMay i (!(tp l && tp r)) (o_comm (le k)) 6 = false := by
                            simp only [wMay]
                            first
                              | (have i2 : ¬ 2 ≤ i := fun q => h_99 (nI_le q (by omega))
                                 simp_all [bI]; done)
                              | (simp_all [bI]; done)
                           rw [key]; rfl)
                    · exact absurd h_250 (by decide)
                  · exact absurd h_188 (by decide)
                · exact absurd h_122 (by decide)
              · skip
                refine r_iload_n (i := 3) d_Model_costBy_102 rfl rfl ?_
                refine r_iconst 1 d_Model_costBy_103 ic_1 ?_
                refine r_icmp_eq 117 d_Model_costBy_104 (by decide) (fun h_104 => ?_) (fun h_104 => ?_)
                · exact absurd h_104 (by decide)
                · skip
                  refine r_iload_n (i := 3) d_Model_costBy_107 rfl rfl ?_
                  refine r_iconst 2 d_Model_costBy_108 ic_2 ?_
                  refine r_icmp_eq 117 d_Model_costBy_109 (by decide) (fun h_109 => ?_) (fun h_109 => ?_)
                  · exact absurd h_109 (by decide)
                  · skip
                    refine r_iload_n (i := 3) d_Model_costBy_112 rfl rfl ?_
                    refine r_iconst 5 d_Model_costBy_113 ic_5 ?_
                    refine r_icmp_ne 120 d_Model_costBy_114 (by decide) (fun h_114 => ?_) (fun h_114 => ?_)
                    · skip
                      refine r_iload_n (i := 3) d_Model_costBy_120 rfl rfl ?_
                      refine r_iconst 3 d_Model_costBy_121 ic_3 ?_
                      refine r_icmp_ge 186 d_Model_costBy_122 (by decide) (fun h_122 => ?_) (fun h_122 => ?_)
                      · skip
                        refine r_iload_n (i := 3) d_Model_costBy_186 rfl rfl ?_
                        refine r_iconst 5 d_Model_costBy_187 ic_5 ?_
                        refine r_icmp_ge 248 d_Model_costBy_188 (by decide) (fun h_188 => ?_) (fun h_188 => ?_)
                        · skip
                          refine r_iload_n (i := 3) d_Model_costBy_248 rfl rfl ?_
                          refine r_iconst 5 d_Model_costBy_249 ic_5 ?_
                          refine r_icmp_ne 289 d_Model_costBy_250 (by decide) (fun h_250 => ?_) (fun h_250 => ?_)
                          · skip
                            refine r_aload_n (i := 0) d_Model_costBy_289 rfl rfl ?_
                            refine r_iload d_Model_costBy_290 rfl ?_
                            refine r_iload_n (i := 2) d_Model_costBy_292 rfl rfl ?_
                            refine r_V2 v_Model_keptAt w_1091 lm_0 (c_Model_keptAt hS (by omega) (by omega) (hlv l (by omega)) (hC l (by omega) i hi1 hi)) (Nat.le_of_ble_eq_true rfl) (Nat.le_of_ble_eq_true rfl) d_Model_costBy_293 ?_
                            refine r_aload_n (i := 0) d_Model_costBy_296 rfl rfl ?_
                            refine r_iload d_Model_costBy_297 rfl ?_
                            refine r_iload_n (i := 2) d_Model_costBy_299 rfl rfl ?_
                            refine r_V2 v_Model_keptAt w_1091 lm_0 (c_Model_keptAt hS (by omega) (by omega) (hlv r (by omega)) (hC r (by omega) i hi1 hi)) (Nat.le_of_ble_eq_true rfl) (Nat.le_of_ble_eq_true rfl) d_Model_costBy_300 ?_
                            refine r_iaddN (a := (if lv l = true then 0 else C l i + mc 2)) (b := (if lv r = true then 0 else C r i + mc 2)) d_Model_costBy_303 rfl rfl ?_
                            refine r_aload_n (i := 0) d_Model_costBy_304 rfl rfl ?_
                            refine r_getr nf_Model_16 lm_0 rfl d_Model_costBy_305 ?_
                            refine r_sipush 134 d_Model_costBy_308 sp_134 ?_
                            refine r_ia (q := 134) lm_3 rfl (by omega) (by decide) ((hS.gmc (j := 1) (by omega))) d_Model_costBy_311 ?_
                            refine r_iaddN (a := ((if lv l = true then 0 else C l i + mc 2) + (if lv r = true then 0 else C r i + mc 2))) (b := (mc 1)) d_Model_costBy_312 rfl rfl ?_
                            refine r_aload_n (i := 0) d_Model_costBy_313 rfl rfl ?_
                            refine r_getr nf_Model_16 lm_0 rfl d_Model_costBy_314 ?_
                            refine r_sipush 137 d_Model_costBy_317 sp_137 ?_
                            refine r_ia (q := 137) lm_3 rfl (by omega) (by decide) ((hS.gmc (j := 4) (by omega))) d_Model_costBy_320 ?_
                            refine r_iaddN (a := (((if lv l = true then 0 else C l i + mc 2) + (if lv r = true then 0 else C r i + mc 2)) + (mc 1))) (b := (mc 4)) d_Model_costBy_321 rfl rfl ?_
                            refine r_iret rfl d_Model_costBy_322 ?_
                            refine ⟨?_, rfl⟩
                            first
                              | (have key : wMay i (!(tp l && tp r)) (o_comm (le k)) 6 = true := by
                                  simp only [wMay]
                                  first
                                    | rfl
                                    | (have i2 : 2 ≤ i := Nat.le_of_not_lt (fun q => nI_ge q (by omega) h_99)
                                       simp_all [bI]; done)
                                    | (simp_all [bI]; done)
                                 rw [key]; rfl)
                              | (have key : wMay i (!(tp l && tp r)) (o_comm (le k)) 6 = false := by
                                  simp only [wMay]
                                  first
                                    | (have i2 : ¬ 2 ≤ i := fun q => h_99 (nI_le q (by omega))
                                       simp_all [bI]; done)
                                    | (simp_all [bI]; done)
                                 rw [key]; rfl)
                          · exact absurd h_250 (by decide)
                        · exact absurd h_188 (by decide)
                      · exact absurd h_122 (by decide)
                    · exact absurd h_114 (by decide)
          · exact absurd h_73 (by decide)
      · exact absurd h_49 (by decide)

theorem six {w : Nat} (h1 : 1 ≤ w) (h : w < 7) : w = 1 ∨ w = 2 ∨ w = 3 ∨ w = 4 ∨ w = 5 ∨ w = 6 := by omega
theorem c_Model_costBy (hS : MS n le nu lf rt nm mc (M 3)) (hw : WF n le nu lf rt z) (ht : ∀ k, k < n → TPk le lf rt z tp k) (hmk : MOK mc) {k i l r : Nat} (hk : k < n) (hl : l < k) (hr : r < k) (el : lf k = nI l) (er : rt k = nI r) (hi1 : 1 ≤ i) (hi : i ≤ mc 0) (hlv : ∀ j, j < n → M 11 j = bI (lv j)) (hC : ∀ j, j < k → ∀ i, 1 ≤ i → i ≤ mc 0 → M 12 (7 * j + i) = nI (C j i)) {w : Nat} (hw1 : 1 ≤ w) (hw7 : w < 7) : CF G LM m_Model_costBy 2 [.ref (G.2.2 0), .int (nI k), .int (nI i), .int (nI w)] M (some (.int (nI (if wMay i (!(tp l && tp r)) (o_comm (le k)) w then wPr mc lv C l r i w else 99999)))) M := by
  rcases six hw1 hw7 with rfl | rfl | rfl | rfl | rfl | rfl
  · exact c_Model_costBy1 hS hw ht hmk hk hl hr el er hi1 hi hlv hC
  · exact c_Model_costBy2 hS hw ht hmk hk hl hr el er hi1 hi hlv hC
  · exact c_Model_costBy3 hS hw ht hmk hk hl hr el er hi1 hi hlv hC
  · exact c_Model_costBy4 hS hw ht hmk hk hl hr el er hi1 hi hlv hC
  · exact c_Model_costBy5 hS hw ht hmk hk hl hr el er hi1 hi hlv hC
  · exact c_Model_costBy6 hS hw ht hmk hk hl hr el er hi1 hi hlv hC
end MM6
