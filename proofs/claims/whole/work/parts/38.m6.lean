-- the model: the table of costs
section MM7
variable {G : nw_G} {n : Nat} {le nu lf rt nm : Nat → Int32} {mc z : Nat → Nat} {tp lv sh : Nat → Bool} {C : Nat → Nat → Nat} {M : nw_M}
theorem wPr_lt (hmk : MOK mc) {l r i w : Nat} (h : ∀ j i, C j i ≤ 1116 ∨ (j ≠ l ∧ j ≠ r)) : wPr mc lv C l r i w < 99999 := by
  have h1 := hmk.2.2 1 (by omega) (by omega)
  have h2 := hmk.2.2 2 (by omega) (by omega)
  have h3 := hmk.2.2 3 (by omega) (by omega)
  have h4 := hmk.2.2 4 (by omega) (by omega)
  have a1 : ∀ i, C l i ≤ 1116 := fun i => (h l i).resolve_right (fun q => q.1 rfl)
  have a2 : ∀ i, C r i ≤ 1116 := fun i => (h r i).resolve_right (fun q => q.2 rfl)
  have b1 := a1 i
  have b2 := a1 (i - 1)
  have b3 := a2 i
  have b4 := a2 (i - 1)
  unfold wPr kpt
  repeat' split
  all_goals omega
/-- the table while NODE k is reckoned, by fewer than i REGISTERS so far -/
def IM (k i : Nat) (mc : Nat → Nat) (C W : Nat → Nat → Nat) (M N : nw_M) : Prop := (∀ e, e ≠ 12 → e ≠ 13 → N e = M e) ∧ TB k mc C W N ∧ ∀ a, 1 ≤ a → a < i → N 12 (7 * k + a) = nI (C k a) ∧ N 13 (7 * k + a) = nI (W k a)
theorem IM.put {k i : Nat} {C W : Nat → Nat → Nat} {N : nw_M} {x y : Int32} (h : IM k i mc C W M N) (h6 : mc 0 ≤ 6) (hi : i ≤ mc 0) (hx : x = nI (C k i)) (hy : y = nI (W k i)) : IM k (i + 1) mc C W M (ms (ms N 12 (upd (N 12) (7 * k + i) x)) 13 (upd (N 13) (7 * k + i) y)) := by
  refine ⟨fun e h1 h2 => by rw [ms_ne _ _ h2, ms_ne _ _ h1]; exact h.1 e h1 h2, fun j hj a ha1 ha2 => ?_, fun a ha1 ha2 => ?_⟩
  · rw [ms_same, ms_ne _ _ (by decide), ms_same, upd_ne _ _ (by omega), upd_ne _ _ (by omega)]
    exact h.2.1 j hj a ha1 ha2
  · rw [ms_same, ms_ne _ _ (by decide), ms_same]
    by_cases q : a = i
    · subst q; rw [upd_at, upd_at]; exact ⟨hx, hy⟩
    · rw [upd_ne _ _ (by omega), upd_ne _ _ (by omega)]
      exact h.2.2 a ha1 (by omega)
theorem IM.next {k i : Nat} {C W : Nat → Nat → Nat} {N : nw_M} (h : IM k i mc C W M N) (hi : mc 0 < i) : IM (k + 1) 1 mc C W M N := by
  refine ⟨h.1, fun j hj a ha1 ha2 => ?_, fun a h1 h2 => by omega⟩
  by_cases q : j = k
  · subst q; exact h.2.2 a ha1 (by omega)
  · exact h.2.1 j (by omega) a ha1 ha2
def wyM (mc : Nat → Nat) (le lf rt : Nat → Int32) (z : Nat → Nat) (tp lv : Nat → Bool) (C : Nat → Nat → Nat) (k i : Nat) : Nat := if lv k then 0 else (cX mc le lf rt z tp lv C k i).1
theorem ct_leaf (hC : CTb n mc le lf rt z tp lv sh C) {k i : Nat} (hk : k < n) (h : lv k = true) : C k i = mc 1 ∧ wyM mc le lf rt z tp lv C k i = 0 := by
  refine ⟨?_, by unfold wyM; rw [if_pos h]⟩
  rw [hC.2 k i hk]
  by_cases q : sh k = true
  · rw [if_pos q]
  · rw [if_neg q]
    have := hC.1 k hk
    rw [h] at this
    have hl : lf k = -9 := by simpa [q] using this
    unfold cX
    rw [if_pos hl]
theorem ct_node (hC : CTb n mc le lf rt z tp lv sh C) {k i : Nat} (hk : k < n) (h : lv k = false) : lf k ≠ -9 ∧ C k i = (cX mc le lf rt z tp lv C k i).2 ∧ wyM mc le lf rt z tp lv C k i = (cX mc le lf rt z tp lv C k i).1 := by
  have := hC.1 k hk
  rw [h] at this
  have q : decide (lf k = -9) = false ∧ sh k = false := Bool.or_eq_false_iff.mp this.symm
  refine ⟨of_decide_eq_false q.1, ?_, by unfold wyM; rw [if_neg (by simp [h])]⟩
  rw [hC.2 k i hk, if_neg (by simp [q.2])]
theorem l1_Model_reckons (hS : MS n le nu lf rt nm mc (M 3)) (hw : WF n le nu lf rt z) (ht : ∀ k, k < n → TPk le lf rt z tp k) (hmk : MOK mc) (hC : CTb n mc le lf rt z tp lv sh C) (hlv : ∀ j, j < n → M 11 j = bI (lv j)) {k i l r : Nat} (hk : k < n) (hl : l < k) (hr : r < k) (el : lf k = nI l) (er : rt k = nI r) (hi1 : 1 ≤ i) (hi : i ≤ mc 0) {N : nw_M} (hI : IM k i mc C (wyM mc le lf rt z tp lv C) M N) {P : Option Value → nw_M → Prop} (hP : ∀ (x y : Int32) (o5 o6 : Option Value), OfM (best mc lv C l r i (!(tp l && tp r)) (o_comm (le k))) x y → RJ G LM m_Model_reckons 3 P 147 [some (.ref (G.2.2 0)), some (.int (nI k)), some (.int (nI i)), some (.int y), some (.int x), o5, o6] [] N) : ∀ (d w : Nat) (x y : Int32) (o6 : Option Value), w + d = 6 → OfM (bst mc lv C l r i (!(tp l && tp r)) (o_comm (le k)) w) x y → RJ G LM m_Model_reckons 3 P 96 [some (.ref (G.2.2 0)), some (.int (nI k)), some (.int (nI i)), some (.int y), some (.int x), some (.int (nI (w + 1))), o6] [] N := by
  have hn := hw.1
  have hb : ∀ j i, j < n → C j i ≤ 1116 := fun j i hj => by have := (cX_le hmk hw hC j i hj).1; have := hw.zb j hj; omega
  have hS2 : MS n le nu lf rt nm mc (N 3) := by rw [hI.1 3 (by decide) (by decide)]; exact hS
  have hlv2 : ∀ j, j < n → N 11 j = bI (lv j) := by rw [hI.1 11 (by decide) (by decide)]; exact hlv
  have hC2 : ∀ j, j < k → ∀ i, 1 ≤ i → i ≤ mc 0 → N 12 (7 * j + i) = nI (C j i) := fun j hj a h1 h2 => (hI.2.1 j hj a h1 h2).1
  have hpr : ∀ w, wPr mc lv C l r i w < 99999 := fun w => wPr_lt hmk (fun j a => by
    by_cases q : j < n
    · exact Or.inl (hb j a q)
    · exact Or.inr ⟨by omega, by omega⟩)
  intro d
  induction d with
  | zero =>
    intro w x y o6 hd hO
    simp only [Nat.add_zero] at hd
    subst hd
    refine r_iload d_Model_reckons_96 rfl ?_
    refine r_bipush 7 d_Model_reckons_98 bp_7 ?_
    refine r_icmp_ge 147 d_Model_reckons_100 (by decide) (fun _ => ?_) (fun h9 => absurd (show (7 : Int32) ≤ nI (6 + 1) by decide) h9)
    exact hP x y _ _ hO
  | succ d ih =>
    intro w x y o6 hd hO
    have key := c_Model_costBy (G := G) hS2 hw ht hmk hk hl hr el er hi1 hi hlv2 hC2 (show 1 ≤ w + 1 by omega) (show w + 1 < 7 by omega)
    have stp := ofm_step hO (show w + 1 ≠ 0 by omega) (by omega) (hpr (w + 1)) (b := wMay i (!(tp l && tp r)) (o_comm (le k)) (w + 1)) rfl
    generalize (nI (if wMay i (!(tp l && tp r)) (o_comm (le k)) (w + 1) = true then wPr mc lv C l r i (w + 1) else 99999)) = c at key stp
    refine r_iload d_Model_reckons_96 rfl ?_
    refine r_bipush 7 d_Model_reckons_98 bp_7 ?_
    refine r_icmp_ge 147 d_Model_reckons_100 (by decide) (fun h_100 => ?_) (fun h_100 => ?_)
    · skip
      exact absurd h_100 (Int32.not_le.mpr (nI_lt (a := w + 1) (b := 7) (by omega) (by omega)))
    · skip
      refine r_aload_n (i := 0) d_Model_reckons_103 rfl rfl ?_
      refine r_iload_n (i := 1) d_Model_reckons_104 rfl rfl ?_
      refine r_iload_n (i := 2) d_Model_reckons_105 rfl rfl ?_
      refine r_iload d_Model_reckons_106 rfl ?_
      refine r_V3 v_Model_costBy w_1087 lm_0 key (Nat.le_of_ble_eq_true rfl) (Nat.le_of_ble_eq_true rfl) d_Model_reckons_108 ?_
      refine r_istore d_Model_reckons_111 (Nat.le_of_ble_eq_true rfl) rfl ?_
      dsimp only [List.set]
      refine r_iload d_Model_reckons_113 rfl ?_
      refine r_iload_n (i := 3) d_Model_reckons_115 rfl rfl ?_
      refine r_icmp_ge 124 d_Model_reckons_116 (by decide) (fun h_116 => ?_) (fun h_116 => ?_)
      · skip
        refine r_iload d_Model_reckons_124 rfl ?_
        refine r_istore d_Model_reckons_126 (Nat.le_of_ble_eq_true rfl) rfl ?_
        dsimp only [List.set]
        refine r_iload d_Model_reckons_128 rfl ?_
        refine r_iload_n (i := 3) d_Model_reckons_130 rfl rfl ?_
        refine r_icmp_ge 139 d_Model_reckons_131 (by decide) (fun h_131 => ?_) (fun h_131 => ?_)
        · skip
          refine r_iload_n (i := 3) d_Model_reckons_139 rfl rfl ?_
          refine r_istore_n (i := 3) d_Model_reckons_140 rfl (Nat.le_of_ble_eq_true rfl) rfl ?_
          dsimp only [List.set]
          refine r_iinc d_Model_reckons_141 rfl (nI_inc _) (Nat.le_of_ble_eq_true rfl) rfl ?_
          dsimp only [List.set]
          refine r_goto 96 d_Model_reckons_144 (by decide) ?_
          rw [if_pos h_116, if_pos h_116] at stp
          exact ih (w + 1) _ _ _ (by omega) stp
        · first | exact absurd h_131 h_116 | exact absurd h_116 h_131
      · skip
        refine r_iload d_Model_reckons_119 rfl ?_
        refine r_goto 126 d_Model_reckons_121 (by decide) ?_
        refine r_istore d_Model_reckons_126 (Nat.le_of_ble_eq_true rfl) rfl ?_
        dsimp only [List.set]
        refine r_iload d_Model_reckons_128 rfl ?_
        refine r_iload_n (i := 3) d_Model_reckons_130 rfl rfl ?_
        refine r_icmp_ge 139 d_Model_reckons_131 (by decide) (fun h_131 => ?_) (fun h_131 => ?_)
        · first | exact absurd h_131 h_116 | exact absurd h_116 h_131
        · skip
          refine r_iload d_Model_reckons_134 rfl ?_
          refine r_goto 140 d_Model_reckons_136 (by decide) ?_
          refine r_istore_n (i := 3) d_Model_reckons_140 rfl (Nat.le_of_ble_eq_true rfl) rfl ?_
          dsimp only [List.set]
          refine r_iinc d_Model_reckons_141 rfl (nI_inc _) (Nat.le_of_ble_eq_true rfl) rfl ?_
          dsimp only [List.set]
          refine r_goto 96 d_Model_reckons_144 (by decide) ?_
          rw [if_neg h_116, if_neg h_116] at stp
          exact ih (w + 1) _ _ _ (by omega) stp

theorem offr_1 {a : Nat × Nat} {w p : Nat} (hw : w ≠ 0) : (offr a w true p).1 ≠ 0 := by
  unfold offr
  by_cases q : a.1 = 0
  · rw [if_pos (by simp [q])]; exact hw
  · split
    · exact hw
    · exact q
theorem best_1 (mc : Nat → Nat) (lv : Nat → Bool) (C : Nat → Nat → Nat) (l r i : Nat) (rf cm : Bool) : (best mc lv C l r i rf cm).1 ≠ 0 := offr_1 (by decide)
set_option maxHeartbeats 1000000 in
theorem l2_Model_reckons (hS : MS n le nu lf rt nm mc (M 3)) (hw : WF n le nu lf rt z) (ht : ∀ k, k < n → TPk le lf rt z tp k) (hmk : MOK mc) (hC : CTb n mc le lf rt z tp lv sh C) (hlv : ∀ j, j < n → M 11 j = bI (lv j)) {k : Nat} (hk : k < n) {P : Option Value → nw_M → Prop} (hP : ∀ (o3 o4 o5 o6 : Option Value) (N : nw_M), IM (k + 1) 1 mc C (wyM mc le lf rt z tp lv C) M N → RJ G LM m_Model_reckons 3 P 2 [some (.ref (G.2.2 0)), some (.int (nI (k + 1))), some (.int (nI (mc 0 + 1))), o3, o4, o5, o6] [] N) : ∀ (d i : Nat) (o3 o4 o5 o6 : Option Value) (N : nw_M), 1 ≤ i → i + d = mc 0 + 1 → IM k i mc C (wyM mc le lf rt z tp lv C) M N → RJ G LM m_Model_reckons 3 P 14 [some (.ref (G.2.2 0)), some (.int (nI k)), some (.int (nI i)), o3, o4, o5, o6] [] N := by
  have hn := hw.1
  have h6 := hmk.2.1
  intro d
  induction d with
  | zero =>
    intro i o3 o4 o5 o6 N hi1 hd hI
    have hS2 : MS n le nu lf rt nm mc (N 3) := by rw [hI.1 3 (by decide) (by decide)]; exact hS
    simp only [Nat.add_zero] at hd
    subst hd
    refine r_iload_n (i := 2) d_Model_reckons_14 rfl rfl ?_
    refine r_aload_n (i := 0) d_Model_reckons_15 rfl rfl ?_
    refine r_getr nf_Model_16 lm_0 rfl d_Model_reckons_16 ?_
    refine r_sipush 133 d_Model_reckons_19 sp_133 ?_
    refine r_ia (q := 133) lm_3 rfl (by omega) (by decide) (hS2.gmc (j := 0) (by omega)) d_Model_reckons_22 ?_
    refine r_icmp_gt 178 d_Model_reckons_23 (by decide) (fun _ => ?_) (fun h9 => absurd (nI_lt (by omega) (by omega)) h9)
    refine r_iinc d_Model_reckons_178 rfl (nI_inc _) (Nat.le_of_ble_eq_true rfl) rfl ?_
    dsimp only [List.set]
    refine r_goto 2 d_Model_reckons_181 (by decide) ?_
    exact hP _ _ _ _ _ (hI.next (by omega))
  | succ d ih =>
    intro i o3 o4 o5 o6 N hi1 hd hI
    have hS2 : MS n le nu lf rt nm mc (N 3) := by rw [hI.1 3 (by decide) (by decide)]; exact hS
    refine r_iload_n (i := 2) d_Model_reckons_14 rfl rfl ?_
    refine r_aload_n (i := 0) d_Model_reckons_15 rfl rfl ?_
    refine r_getr nf_Model_16 lm_0 rfl d_Model_reckons_16 ?_
    refine r_sipush 133 d_Model_reckons_19 sp_133 ?_
    refine r_ia (q := 133) lm_3 rfl (by omega) (by decide) ((hS2.gmc (j := 0) (by omega))) d_Model_reckons_22 ?_
    refine r_icmp_gt 178 d_Model_reckons_23 (by decide) (fun h_23 => ?_) (fun h_23 => ?_)
    · skip
      exact absurd h_23 (Int32.not_lt.mpr (nI_le (by omega) (by omega)))
    · skip
      refine r_ldc w_1082 d_Model_reckons_26 ?_
      refine r_istore_n (i := 3) d_Model_reckons_28 rfl (Nat.le_of_ble_eq_true rfl) rfl ?_
      dsimp only [List.set]
      refine r_iconst 0 d_Model_reckons_29 ic_0 ?_
      refine r_istore d_Model_reckons_30 (Nat.le_of_ble_eq_true rfl) rfl ?_
      dsimp only [List.set]
      refine r_aload_n (i := 0) d_Model_reckons_32 rfl rfl ?_
      refine r_getr nf_Model_41 lm_0 rfl d_Model_reckons_33 ?_
      refine r_iload_n (i := 1) d_Model_reckons_36 rfl rfl ?_
      refine r_za (q := k) lm_11 rfl (by omega) (by decide) ((congrFun (hI.1 11 (by decide) (by decide)) k).trans (hlv k hk)) d_Model_reckons_37 ?_
      refine r_if_eq 53 d_Model_reckons_38 (by decide) (fun h_38 => ?_) (fun h_38 => ?_)
      · skip
        have nl := ct_node (i := i) hC hk ((bI_f _).mp h_38)
        refine r_aload_n (i := 0) d_Model_reckons_53 rfl rfl ?_
        refine r_getr nf_Model_16 lm_0 rfl d_Model_reckons_54 ?_
        refine r_iconst 1 d_Model_reckons_57 ic_1 ?_
        refine r_iload_n (i := 1) d_Model_reckons_58 rfl rfl ?_
        refine r_iaddN (a := 1) (b := k) d_Model_reckons_59 rfl rfl ?_
        refine r_ia (q := (1 + k)) lm_3 rfl (by omega) (by decide) ((hS2.gle (j := k) (by omega))) d_Model_reckons_60 ?_
        refine r_bipush 126 d_Model_reckons_61 bp_126 ?_
        refine r_icmp_ne 93 d_Model_reckons_63 (by decide) (fun h_63 => ?_) (fun h_63 => ?_)
        · skip
          refine r_iconst 1 d_Model_reckons_93 ic_1 ?_
          refine r_istore d_Model_reckons_94 (Nat.le_of_ble_eq_true rfl) rfl ?_
          dsimp only [List.set]
          have hr9 := not126 hw hk h_63 nl.1
          have pr := hw.pair hk hr9
          refine l1_Model_reckons (l := k - 1 - z (k - 1)) (r := k - 1) hS hw ht hmk hC hlv hk (by omega) (by omega) pr.2.2.2.2.2.1 pr.2.2.2.1 hi1 (by omega) hI (fun x y q5 q6 hO => ?_) 6 0 _ _ _ (by omega) ⟨rfl, rfl, show 0 < 99999 by decide, show 0 < 7 by decide⟩
          have hne : (best mc lv C (k - 1 - z (k - 1)) (k - 1) i (!(tp (k - 1 - z (k - 1)) && tp (k - 1))) (o_comm (le k))).1 ≠ 0 := best_1 _ _ _ _ _ _ _ _
          obtain ⟨hO1, hO2, hO3, hO4⟩ := hO
          rw [if_neg hne] at hO2
          have cx : cX mc le lf rt z tp lv C k i = best mc lv C (k - 1 - z (k - 1)) (k - 1) i (!(tp (k - 1 - z (k - 1)) && tp (k - 1))) (o_comm (le k)) := by unfold cX; rw [if_neg nl.1, if_neg hr9]
          refine r_aload_n (i := 0) d_Model_reckons_147 rfl rfl ?_
          refine r_getr nf_Model_44 lm_0 rfl d_Model_reckons_148 ?_
          refine r_bipush 7 d_Model_reckons_151 bp_7 ?_
          refine r_iload_n (i := 1) d_Model_reckons_153 rfl rfl ?_
          refine r_imulN (a := 7) (b := k) d_Model_reckons_154 rfl rfl ?_
          refine r_iload_n (i := 2) d_Model_reckons_155 rfl rfl ?_
          refine r_iaddN (a := (7 * k)) (b := i) d_Model_reckons_156 rfl rfl ?_
          refine r_iload_n (i := 3) d_Model_reckons_157 rfl rfl ?_
          refine r_ias (q := ((7 * k) + i)) lm_12 rfl (by omega) (by decide) d_Model_reckons_158 ?_
          refine r_aload_n (i := 0) d_Model_reckons_159 rfl rfl ?_
          refine r_getr nf_Model_47 lm_0 rfl d_Model_reckons_160 ?_
          refine r_bipush 7 d_Model_reckons_163 bp_7 ?_
          refine r_iload_n (i := 1) d_Model_reckons_165 rfl rfl ?_
          refine r_imulN (a := 7) (b := k) d_Model_reckons_166 rfl rfl ?_
          refine r_iload_n (i := 2) d_Model_reckons_167 rfl rfl ?_
          refine r_iaddN (a := (7 * k)) (b := i) d_Model_reckons_168 rfl rfl ?_
          refine r_iload d_Model_reckons_169 rfl ?_
          refine r_ias (q := ((7 * k) + i)) lm_13 rfl (by omega) (by decide) d_Model_reckons_171 ?_
          refine r_iinc d_Model_reckons_172 rfl (nI_inc _) (Nat.le_of_ble_eq_true rfl) rfl ?_
          dsimp only [List.set]
          refine r_goto 14 d_Model_reckons_175 (by decide) ?_
          exact ih (i + 1) _ _ _ _ _ (by omega) (by omega) (hI.put h6 (by omega) (by rw [nl.2.1, cx]; exact hO2) (by rw [nl.2.2, cx]; exact hO1))
        · skip
          have hr9 := (leaf_le hw hk h_63).2
          have sg := hw.single hk nl.1 hr9
          refine r_aload_n (i := 0) d_Model_reckons_66 rfl rfl ?_
          refine r_aload_n (i := 0) d_Model_reckons_67 rfl rfl ?_
          refine r_getr nf_Model_16 lm_0 rfl d_Model_reckons_68 ?_
          refine r_bipush 63 d_Model_reckons_71 bp_63 ?_
          refine r_iload_n (i := 1) d_Model_reckons_73 rfl rfl ?_
          refine r_iaddN (a := 63) (b := k) d_Model_reckons_74 rfl rfl ?_
          refine r_ia (q := (63 + k)) lm_3 rfl (by omega) (by decide) ((hS2.glf (j := k) hk).trans sg.2.2.2.1) d_Model_reckons_75 ?_
          refine r_iload_n (i := 2) d_Model_reckons_76 rfl rfl ?_
          refine r_V2 v_Model_costAt w_1083 lm_0 (c_Model_costAt (by omega) (hI.2.1 (k - 1) (by omega) i hi1 (by omega)).1) (Nat.le_of_ble_eq_true rfl) (Nat.le_of_ble_eq_true rfl) d_Model_reckons_77 ?_
          refine r_aload_n (i := 0) d_Model_reckons_80 rfl rfl ?_
          refine r_getr nf_Model_16 lm_0 rfl d_Model_reckons_81 ?_
          refine r_sipush 136 d_Model_reckons_84 sp_136 ?_
          refine r_ia (q := 136) lm_3 rfl (by omega) (by decide) ((hS2.gmc (j := 3) (by omega))) d_Model_reckons_87 ?_
          refine r_iaddN (a := (C (k - 1) i)) (b := (mc 3)) d_Model_reckons_88 rfl rfl ?_
          refine r_istore_n (i := 3) d_Model_reckons_89 rfl (Nat.le_of_ble_eq_true rfl) rfl ?_
          dsimp only [List.set]
          refine r_goto 147 d_Model_reckons_90 (by decide) ?_
          refine r_aload_n (i := 0) d_Model_reckons_147 rfl rfl ?_
          refine r_getr nf_Model_44 lm_0 rfl d_Model_reckons_148 ?_
          refine r_bipush 7 d_Model_reckons_151 bp_7 ?_
          refine r_iload_n (i := 1) d_Model_reckons_153 rfl rfl ?_
          refine r_imulN (a := 7) (b := k) d_Model_reckons_154 rfl rfl ?_
          refine r_iload_n (i := 2) d_Model_reckons_155 rfl rfl ?_
          refine r_iaddN (a := (7 * k)) (b := i) d_Model_reckons_156 rfl rfl ?_
          refine r_iload_n (i := 3) d_Model_reckons_157 rfl rfl ?_
          refine r_ias (q := ((7 * k) + i)) lm_12 rfl (by omega) (by decide) d_Model_reckons_158 ?_
          refine r_aload_n (i := 0) d_Model_reckons_159 rfl rfl ?_
          refine r_getr nf_Model_47 lm_0 rfl d_Model_reckons_160 ?_
          refine r_bipush 7 d_Model_reckons_163 bp_7 ?_
          refine r_iload_n (i := 1) d_Model_reckons_165 rfl rfl ?_
          refine r_imulN (a := 7) (b := k) d_Model_reckons_166 rfl rfl ?_
          refine r_iload_n (i := 2) d_Model_reckons_167 rfl rfl ?_
          refine r_iaddN (a := (7 * k)) (b := i) d_Model_reckons_168 rfl rfl ?_
          refine r_iload d_Model_reckons_169 rfl ?_
          refine r_ias (q := ((7 * k) + i)) lm_13 rfl (by omega) (by decide) d_Model_reckons_171 ?_
          refine r_iinc d_Model_reckons_172 rfl (nI_inc _) (Nat.le_of_ble_eq_true rfl) rfl ?_
          dsimp only [List.set]
          refine r_goto 14 d_Model_reckons_175 (by decide) ?_
          have cx : cX mc le lf rt z tp lv C k i = (0, C (k - 1) i + mc 3) := by unfold cX; rw [if_neg nl.1, if_pos hr9]
          exact ih (i + 1) _ _ _ _ _ (by omega) (by omega) (hI.put h6 (by omega) (by rw [nl.2.1, cx]) (by rw [nl.2.2, cx]; rfl))
      · skip
        refine r_aload_n (i := 0) d_Model_reckons_41 rfl rfl ?_
        refine r_getr nf_Model_16 lm_0 rfl d_Model_reckons_42 ?_
        refine r_sipush 134 d_Model_reckons_45 sp_134 ?_
        refine r_ia (q := 134) lm_3 rfl (by omega) (by decide) ((hS2.gmc (j := 1) (by omega))) d_Model_reckons_48 ?_
        refine r_istore_n (i := 3) d_Model_reckons_49 rfl (Nat.le_of_ble_eq_true rfl) rfl ?_
        dsimp only [List.set]
        refine r_goto 147 d_Model_reckons_50 (by decide) ?_
        refine r_aload_n (i := 0) d_Model_reckons_147 rfl rfl ?_
        refine r_getr nf_Model_44 lm_0 rfl d_Model_reckons_148 ?_
        refine r_bipush 7 d_Model_reckons_151 bp_7 ?_
        refine r_iload_n (i := 1) d_Model_reckons_153 rfl rfl ?_
        refine r_imulN (a := 7) (b := k) d_Model_reckons_154 rfl rfl ?_
        refine r_iload_n (i := 2) d_Model_reckons_155 rfl rfl ?_
        refine r_iaddN (a := (7 * k)) (b := i) d_Model_reckons_156 rfl rfl ?_
        refine r_iload_n (i := 3) d_Model_reckons_157 rfl rfl ?_
        refine r_ias (q := ((7 * k) + i)) lm_12 rfl (by omega) (by decide) d_Model_reckons_158 ?_
        refine r_aload_n (i := 0) d_Model_reckons_159 rfl rfl ?_
        refine r_getr nf_Model_47 lm_0 rfl d_Model_reckons_160 ?_
        refine r_bipush 7 d_Model_reckons_163 bp_7 ?_
        refine r_iload_n (i := 1) d_Model_reckons_165 rfl rfl ?_
        refine r_imulN (a := 7) (b := k) d_Model_reckons_166 rfl rfl ?_
        refine r_iload_n (i := 2) d_Model_reckons_167 rfl rfl ?_
        refine r_iaddN (a := (7 * k)) (b := i) d_Model_reckons_168 rfl rfl ?_
        refine r_iload d_Model_reckons_169 rfl ?_
        refine r_ias (q := ((7 * k) + i)) lm_13 rfl (by omega) (by decide) d_Model_reckons_171 ?_
        refine r_iinc d_Model_reckons_172 rfl (nI_inc _) (Nat.le_of_ble_eq_true rfl) rfl ?_
        dsimp only [List.set]
        refine r_goto 14 d_Model_reckons_175 (by decide) ?_
        have lf0 := ct_leaf (i := i) hC hk ((bI_t _).mp h_38)
        exact ih (i + 1) _ _ _ _ _ (by omega) (by omega) (hI.put h6 (by omega) (by rw [lf0.1]) (by rw [lf0.2]; rfl))

theorem l3_Model_reckons (hS : MS n le nu lf rt nm mc (M 3)) (hw : WF n le nu lf rt z) (ht : ∀ k, k < n → TPk le lf rt z tp k) (hmk : MOK mc) (hC : CTb n mc le lf rt z tp lv sh C) (hlv : ∀ j, j < n → M 11 j = bI (lv j)) {P : Option Value → nw_M → Prop} (hP : ∀ N, (∀ e, e ≠ 12 → e ≠ 13 → N e = M e) → TB n mc C (wyM mc le lf rt z tp lv C) N → P none N) : ∀ (d k : Nat) (o2 o3 o4 o5 o6 : Option Value) (N : nw_M), k + d = n → IM k 1 mc C (wyM mc le lf rt z tp lv C) M N → RJ G LM m_Model_reckons 3 P 2 [some (.ref (G.2.2 0)), some (.int (nI k)), o2, o3, o4, o5, o6] [] N := by
  have hn := hw.1
  have h6 := hmk.2.1
  intro d
  induction d with
  | zero =>
    intro k o2 o3 o4 o5 o6 N hd hI
    have hS2 : MS n le nu lf rt nm mc (N 3) := by rw [hI.1 3 (by decide) (by decide)]; exact hS
    simp only [Nat.add_zero] at hd
    subst hd
    refine r_iload_n (i := 1) d_Model_reckons_2 rfl rfl ?_
    refine r_aload_n (i := 0) d_Model_reckons_3 rfl rfl ?_
    refine r_getr nf_Model_16 lm_0 rfl d_Model_reckons_4 ?_
    refine r_iconst 0 d_Model_reckons_7 ic_0 ?_
    refine r_ia (q := 0) lm_3 rfl (by omega) (by decide) hS2.1 d_Model_reckons_8 ?_
    refine r_icmp_ge 184 d_Model_reckons_9 (by decide) (fun _ => ?_) (fun h9 => absurd (nI_le (Nat.le_refl _) (by omega)) h9)
    exact r_vret rfl d_Model_reckons_184 (hP N hI.1 hI.2.1)
  | succ d ih =>
    intro k o2 o3 o4 o5 o6 N hd hI
    have hS2 : MS n le nu lf rt nm mc (N 3) := by rw [hI.1 3 (by decide) (by decide)]; exact hS
    refine r_iload_n (i := 1) d_Model_reckons_2 rfl rfl ?_
    refine r_aload_n (i := 0) d_Model_reckons_3 rfl rfl ?_
    refine r_getr nf_Model_16 lm_0 rfl d_Model_reckons_4 ?_
    refine r_iconst 0 d_Model_reckons_7 ic_0 ?_
    refine r_ia (q := 0) lm_3 rfl (by omega) (by decide) (hS2.1) d_Model_reckons_8 ?_
    refine r_icmp_ge 184 d_Model_reckons_9 (by decide) (fun h_9 => ?_) (fun h_9 => ?_)
    · skip
      exact absurd h_9 (nI_ge (by omega) (by omega))
    · skip
      refine r_iconst 1 d_Model_reckons_12 ic_1 ?_
      refine r_istore_n (i := 2) d_Model_reckons_13 rfl (Nat.le_of_ble_eq_true rfl) rfl ?_
      dsimp only [List.set]
      exact l2_Model_reckons hS hw ht hmk hC hlv (show k < n by omega) (fun q3 q4 q5 q6 N2 hI2 => ih (k + 1) _ _ _ _ _ _ (by omega) hI2) (mc 0) 1 _ _ _ _ _ (by omega) (by omega) hI

theorem c_Model_reckons (hS : MS n le nu lf rt nm mc (M 3)) (hw : WF n le nu lf rt z) (ht : ∀ k, k < n → TPk le lf rt z tp k) (hmk : MOK mc) (hC : CTb n mc le lf rt z tp lv sh C) (hlv : ∀ j, j < n → M 11 j = bI (lv j)) : CJ G LM m_Model_reckons 3 [.ref (G.2.2 0)] M (fun v N => v = none ∧ (∀ e, e ≠ 12 → e ≠ 13 → N e = M e) ∧ TB n mc C (wyM mc le lf rt z tp lv C) N) := by
  refine CJ_of2 (n0 := 6) (by decide) rfl rfl ?_
  simp only [List.map_cons, List.map_nil, List.cons_append, List.nil_append, List.reduceReplicate]
  refine r_iconst 0 d_Model_reckons_0 ic_0 ?_
  refine r_istore_n (i := 1) d_Model_reckons_1 rfl (Nat.le_of_ble_eq_true rfl) rfl ?_
  dsimp only [List.set]
  exact l3_Model_reckons hS hw ht hmk hC hlv (fun N h1 h2 => ⟨rfl, h1, h2⟩) n 0 _ _ _ _ _ _ (by omega) ⟨fun _ _ _ => rfl, fun j hj => absurd hj (Nat.not_lt_zero j), fun a h1 h2 => by omega⟩

/-- what isLeaf says, noted for each NODE -/
def LFI (k : Nat) (lf : Nat → Int32) (M N : nw_M) : Prop := (∀ e, e ≠ 11 → N e = M e) ∧ ∀ j, j < k → N 11 j = bI (decide (lf j = -9))
theorem LFI.put {k : Nat} {N : nw_M} (h : LFI k lf M N) : LFI (k + 1) lf M (ms N 11 (upd (N 11) k (bI (decide (lf k = -9))))) := by
  refine ⟨fun e he => by rw [ms_ne _ _ he]; exact h.1 e he, fun j hj => ?_⟩
  rw [ms_same]
  by_cases q : j = k
  · subst q; rw [upd_at]
  · rw [upd_ne _ _ q]; exact h.2 j (by omega)
theorem l_Model_reckonsAll (hS : MS n le nu lf rt nm mc (M 3)) (hw : WF n le nu lf rt z) {P : Option Value → nw_M → Prop} (hP : ∀ N, LFI n lf M N → RJ G LM m_Model_reckonsAll 4 P 29 [some (.ref (G.2.2 0)), some (.int (nI n))] [] N) : ∀ (d k : Nat) (N : nw_M), k + d = n → LFI k lf M N → RJ G LM m_Model_reckonsAll 4 P 2 [some (.ref (G.2.2 0)), some (.int (nI k))] [] N := by
  have hn := hw.1
  intro d
  induction d with
  | zero =>
    intro k N hd hI
    have hS2 : MS n le nu lf rt nm mc (N 3) := by rw [hI.1 3 (by decide)]; exact hS
    simp only [Nat.add_zero] at hd
    subst hd
    refine r_iload_n (i := 1) d_Model_reckonsAll_2 rfl rfl ?_
    refine r_aload_n (i := 0) d_Model_reckonsAll_3 rfl rfl ?_
    refine r_getr nf_Model_16 lm_0 rfl d_Model_reckonsAll_4 ?_
    refine r_iconst 0 d_Model_reckonsAll_7 ic_0 ?_
    refine r_ia (q := 0) lm_3 rfl (by omega) (by decide) hS2.1 d_Model_reckonsAll_8 ?_
    refine r_icmp_ge 29 d_Model_reckonsAll_9 (by decide) (fun _ => ?_) (fun h9 => absurd (nI_le (Nat.le_refl _) (by omega)) h9)
    exact hP N hI
  | succ d ih =>
    intro k N hd hI
    have hS2 : MS n le nu lf rt nm mc (N 3) := by rw [hI.1 3 (by decide)]; exact hS
    refine r_iload_n (i := 1) d_Model_reckonsAll_2 rfl rfl ?_
    refine r_aload_n (i := 0) d_Model_reckonsAll_3 rfl rfl ?_
    refine r_getr nf_Model_16 lm_0 rfl d_Model_reckonsAll_4 ?_
    refine r_iconst 0 d_Model_reckonsAll_7 ic_0 ?_
    refine r_ia (q := 0) lm_3 rfl (by omega) (by decide) (hS2.1) d_Model_reckonsAll_8 ?_
    refine r_icmp_ge 29 d_Model_reckonsAll_9 (by decide) (fun h_9 => ?_) (fun h_9 => ?_)
    · skip
      exact absurd h_9 (nI_ge (by omega) (by omega))
    · skip
      refine r_aload_n (i := 0) d_Model_reckonsAll_12 rfl rfl ?_
      refine r_getr nf_Model_41 lm_0 rfl d_Model_reckonsAll_13 ?_
      refine r_iload_n (i := 1) d_Model_reckonsAll_16 rfl rfl ?_
      refine r_aload_n (i := 0) d_Model_reckonsAll_17 rfl rfl ?_
      refine r_iload_n (i := 1) d_Model_reckonsAll_18 rfl rfl ?_
      refine r_V1 v_Model_isLeaf w_1019 lm_0 (c_Model_isLeaf hS2 hw (show k < n by omega)) (Nat.le_of_ble_eq_true rfl) (Nat.le_of_ble_eq_true rfl) d_Model_reckonsAll_19 ?_
      refine r_zas (q := k) lm_11 rfl (by omega) (by decide) (bI_01 _) d_Model_reckonsAll_22 ?_
      refine r_iinc d_Model_reckonsAll_23 rfl (nI_inc _) (Nat.le_of_ble_eq_true rfl) rfl ?_
      dsimp only [List.set]
      refine r_goto 2 d_Model_reckonsAll_26 (by decide) ?_
      exact ih (k + 1) _ (by omega) hI.put

theorem CTb.W0 (hC : CTb n mc le lf rt z tp (fun k => decide (lf k = -9)) (fun _ => false) C) {k i : Nat} : wyM mc le lf rt z tp (fun k => decide (lf k = -9)) C k i = (cX mc le lf rt z tp (fun k => decide (lf k = -9)) C k i).1 := by
  unfold wyM
  by_cases q : lf k = -9
  · rw [if_pos (decide_eq_true q)]; unfold cX; rw [if_pos q]
  · rw [if_neg (by simp [q])]
theorem c_Model_reckonsAll (hS : MS n le nu lf rt nm mc (M 3)) (hw : WF n le nu lf rt z) (ht : ∀ k, k < n → TPk le lf rt z tp k) (hmk : MOK mc) (hC : CTb n mc le lf rt z tp (fun k => decide (lf k = -9)) (fun _ => false) C) : CJ G LM m_Model_reckonsAll 4 [.ref (G.2.2 0)] M (fun v N => v = none ∧ (∀ e, e ≠ 11 → e ≠ 12 → e ≠ 13 → N e = M e) ∧ (∀ j, j < n → N 11 j = bI (decide (lf j = -9))) ∧ TB n mc C (fun k i => (cX mc le lf rt z tp (fun k => decide (lf k = -9)) C k i).1) N) := by
  refine CJ_of2 (n0 := 1) (by decide) rfl rfl ?_
  simp only [List.map_cons, List.map_nil, List.cons_append, List.nil_append, List.reduceReplicate]
  refine r_iconst 0 d_Model_reckonsAll_0 ic_0 ?_
  refine r_istore_n (i := 1) d_Model_reckonsAll_1 rfl (Nat.le_of_ble_eq_true rfl) rfl ?_
  dsimp only [List.set]
  refine l_Model_reckonsAll hS hw (fun N hI => ?_) n 0 _ (by omega) ⟨fun _ _ => rfl, fun j hj => absurd hj (Nat.not_lt_zero j)⟩
  have hS2 : MS n le nu lf rt nm mc (N 3) := by rw [hI.1 3 (by decide)]; exact hS
  refine r_aload_n (i := 0) d_Model_reckonsAll_29 rfl rfl ?_
  refine r_W0 v_Model_reckons w_1078 lm_0 (c_Model_reckons hS2 hw ht hmk hC hI.2) (Nat.le_of_ble_eq_true rfl) (Nat.le_of_ble_eq_true rfl) d_Model_reckonsAll_30 (fun v N2 hv => ?_)
  obtain ⟨rfl, h1, h2⟩ := hv
  refine r_vret rfl d_Model_reckonsAll_33 ?_
  refine ⟨rfl, fun e a b c => (h1 e b c).trans (hI.1 e a), fun j hj => by rw [h1 11 (by decide) (by decide)]; exact hI.2 j hj, fun j hj i a b => ?_⟩
  have := h2 j hj i a b
  rw [CTb.W0 hC] at this
  exact this

theorem RA_mf {M N : nw_M} (h : ∀ e, e ≠ 11 → e ≠ 12 → e ≠ 13 → N e = M e) : MF M N (M 0 12) (M 0 13) := MF.sc (fun e h1 h2 h4 => h e (by omega) (by omega) (by omega))
def rootC (n : Nat) (mc : Nat → Nat) (C : Nat → Nat → Nat) : Nat := if n = 0 then 0 else C (n - 1) (mc 0)
theorem c_Model_rootCost (hS : MS n le nu lf rt nm mc (M 3)) (hw : WF n le nu lf rt z) (ht : ∀ k, k < n → TPk le lf rt z tp k) (hmk : MOK mc) (hC : CTb n mc le lf rt z tp (fun k => decide (lf k = -9)) (fun _ => false) C) : CJ G LM m_Model_rootCost 5 [.ref (G.2.2 0)] M (fun v N => v = some (.int (nI (rootC n mc C))) ∧ MF M N (M 0 12) (M 0 13)) := by
  have hn := hw.1
  have h6 := hmk.2
  refine CJ_of2 (n0 := 0) (by decide) rfl rfl ?_
  simp only [List.map_cons, List.map_nil, List.cons_append, List.nil_append, List.reduceReplicate]
  refine r_aload_n (i := 0) d_Model_rootCost_0 rfl rfl ?_
  refine r_W0 v_Model_reckonsAll w_1074 lm_0 (c_Model_reckonsAll hS hw ht hmk hC) (Nat.le_of_ble_eq_true rfl) (Nat.le_of_ble_eq_true rfl) d_Model_rootCost_1 (fun v N hv => ?_)
  obtain ⟨rfl, h1, h2, h3⟩ := hv
  have hS2 : MS n le nu lf rt nm mc (N 3) := by rw [h1 3 (by decide) (by decide) (by decide)]; exact hS
  refine r_aload_n (i := 0) d_Model_rootCost_4 rfl rfl ?_
  refine r_getr nf_Model_16 lm_0 rfl d_Model_rootCost_5 ?_
  refine r_iconst 0 d_Model_rootCost_8 ic_0 ?_
  refine r_ia (q := 0) lm_3 rfl (by omega) (by decide) (hS2.1) d_Model_rootCost_9 ?_
  refine r_if_ne 17 d_Model_rootCost_10 (by decide) (fun h_10 => ?_) (fun h_10 => ?_)
  · skip
    have n0 : n ≠ 0 := fun q => h_10 (by rw [q]; rfl)
    refine r_aload_n (i := 0) d_Model_rootCost_17 rfl rfl ?_
    refine r_aload_n (i := 0) d_Model_rootCost_18 rfl rfl ?_
    refine r_getr nf_Model_16 lm_0 rfl d_Model_rootCost_19 ?_
    refine r_iconst 0 d_Model_rootCost_22 ic_0 ?_
    refine r_ia (q := 0) lm_3 rfl (by omega) (by decide) (hS2.1) d_Model_rootCost_23 ?_
    refine r_iconst 1 d_Model_rootCost_24 ic_1 ?_
    refine r_isubN (a := n) (b := 1) d_Model_rootCost_25 rfl rfl (by omega) ?_
    refine r_aload_n (i := 0) d_Model_rootCost_26 rfl rfl ?_
    refine r_getr nf_Model_16 lm_0 rfl d_Model_rootCost_27 ?_
    refine r_sipush 133 d_Model_rootCost_30 sp_133 ?_
    refine r_ia (q := 133) lm_3 rfl (by omega) (by decide) ((hS2.gmc (j := 0) (by omega))) d_Model_rootCost_33 ?_
    refine r_V2 v_Model_costAt w_1083 lm_0 (c_Model_costAt (by omega) (h3 (n - 1) (by omega) (mc 0) hmk.1 (Nat.le_refl _)).1) (Nat.le_of_ble_eq_true rfl) (Nat.le_of_ble_eq_true rfl) d_Model_rootCost_34 ?_
    refine r_iret rfl d_Model_rootCost_37 ?_
    exact ⟨by rw [rootC, if_neg n0], RA_mf h1⟩
  · skip
    refine r_iconst 0 d_Model_rootCost_13 ic_0 ?_
    refine r_goto 37 d_Model_rootCost_14 (by decide) ?_
    refine r_iret rfl d_Model_rootCost_37 ?_
    have n0 : n = 0 := (nI_eq (by omega) (by omega)).mp (show nI n = nI 0 from h_10)
    exact ⟨by rw [rootC, if_pos n0]; rfl, RA_mf h1⟩

theorem isR_ex {i : Int32} {m : Nat} (hm : m < 2 ^ 30) (h : decide (¬ i < 1 ∧ ¬ nI m < i) = true) : ∃ a, 1 ≤ a ∧ a ≤ m ∧ i = nI a := by
  have q := of_decide_eq_true h
  have e := in_isN (m := m) i (by omega)
  have h0 : ¬ i < 0 := fun x => q.1 (Int32.lt_trans x (by decide))
  rw [decide_eq_true (show ¬ i < 0 ∧ ¬ nI m < i from ⟨h0, q.2⟩)] at e
  obtain ⟨a, ha, rfl⟩ := isN_ex e.symm (by omega)
  refine ⟨a, Nat.le_of_not_lt (fun x => q.1 ?_), by omega, rfl⟩
  exact nI_lt (b := 1) x (by decide)
theorem c_Model_isRegisters (hS : MS n le nu lf rt nm mc (M 3)) (i : Int32) : CF G LM m_Model_isRegisters 1 [.ref (G.2.2 0), .int i] M (some (.int (bI (decide (¬ i < 1 ∧ ¬ nI (mc 0) < i))))) M := by
  refine CJ_of (by decide) rfl (Nat.le_of_ble_eq_true rfl) ?_
  refine r_iload_n (i := 1) d_Model_isRegisters_0 rfl rfl ?_
  refine r_iconst 1 d_Model_isRegisters_1 ic_1 ?_
  refine r_aload_n (i := 0) d_Model_isRegisters_2 rfl rfl ?_
  refine r_getr nf_Model_16 lm_0 rfl d_Model_isRegisters_3 ?_
  refine r_sipush 133 d_Model_isRegisters_6 sp_133 ?_
  refine r_ia (q := 133) lm_3 rfl (by omega) (by decide) ((hS.gmc (j := 0) (by omega))) d_Model_isRegisters_9 ?_
  refine r_S3 f_Model_in w_942 (c_Model_in _ _ _ _ ) (Nat.le_of_ble_eq_true rfl) (Nat.le_of_ble_eq_true rfl) d_Model_isRegisters_10 ?_
  refine r_zret rfl (bI_01 _) d_Model_isRegisters_13 ?_
  exact ⟨rfl, rfl⟩

theorem c_Model_cost (hS : MS n le nu lf rt nm mc (M 3)) (hw : WF n le nu lf rt z) (ht : ∀ k, k < n → TPk le lf rt z tp k) (hmk : MOK mc) (hC : CTb n mc le lf rt z tp (fun k => decide (lf k = -9)) (fun _ => false) C) (k i : Int32) : CJ G LM m_Model_cost 5 [.ref (G.2.2 0), .int k, .int i] M (fun v N => MF M N (M 0 12) (M 0 13) ∧ (((isN n k = false ∨ decide (¬ i < 1 ∧ ¬ nI (mc 0) < i) = false) ∧ v = some (.int (-1))) ∨ ∃ j a, j < n ∧ 1 ≤ a ∧ a ≤ mc 0 ∧ k = nI j ∧ i = nI a ∧ v = some (.int (nI (C j a))))) := by
  have hn := hw.1
  have h6 := hmk.2.1
  refine CJ_of2 (n0 := 0) (by decide) rfl rfl ?_
  simp only [List.map_cons, List.map_nil, List.cons_append, List.nil_append, List.reduceReplicate]
  refine r_aload_n (i := 0) d_Model_cost_0 rfl rfl ?_
  refine r_iconst 0 d_Model_cost_1 ic_0 ?_
  refine r_puti nf_Model_75 nfin_Model_0 lm_0 rfl d_Model_cost_2 ?_
  refine r_aload_n (i := 0) d_Model_cost_5 rfl rfl ?_
  refine r_iload_n (i := 1) d_Model_cost_6 rfl rfl ?_
  refine r_V1 v_Model_isNode w_1007 lm_0 (c_Model_isNode (M := m0 M) (n := n) hS hn k) (Nat.le_of_ble_eq_true rfl) (Nat.le_of_ble_eq_true rfl) d_Model_cost_7 ?_
  refine r_if_eq 21 d_Model_cost_10 (by decide) (fun h_10 => ?_) (fun h_10 => ?_)
  · skip
    refine r_iconst (-1) d_Model_cost_21 ic_m1 ?_
    refine r_iret rfl d_Model_cost_22 ?_
    first
      | exact ⟨MF.th M, Or.inl ⟨Or.inr ((bI_f _).mp h_18), rfl⟩⟩
      | exact ⟨MF.th M, Or.inl ⟨Or.inl ((bI_f _).mp h_10), rfl⟩⟩
  · skip
    refine r_aload_n (i := 0) d_Model_cost_13 rfl rfl ?_
    refine r_iload_n (i := 2) d_Model_cost_14 rfl rfl ?_
    refine r_V1 v_Model_isRegisters w_1070 lm_0 (c_Model_isRegisters (M := m0 M) (mc := mc) hS i) (Nat.le_of_ble_eq_true rfl) (Nat.le_of_ble_eq_true rfl) d_Model_cost_15 ?_
    refine r_if_ne 23 d_Model_cost_18 (by decide) (fun h_18 => ?_) (fun h_18 => ?_)
    · skip
      refine r_aload_n (i := 0) d_Model_cost_23 rfl rfl ?_
      refine r_W0 v_Model_reckonsAll w_1074 lm_0 (c_Model_reckonsAll (M := m0 M) hS hw ht hmk hC) (Nat.le_of_ble_eq_true rfl) (Nat.le_of_ble_eq_true rfl) d_Model_cost_24 (fun v N hv => ?_)
      obtain ⟨rfl, h1, h2, h3⟩ := hv
      obtain ⟨j, hj, rfl⟩ := isN_ex ((bI_t _).mp h_10) (by omega)
      obtain ⟨a, ha1, ha2, rfl⟩ := isR_ex (by omega) ((bI_t _).mp h_18)
      refine r_aload_n (i := 0) d_Model_cost_27 rfl rfl ?_
      refine r_iload_n (i := 1) d_Model_cost_28 rfl rfl ?_
      refine r_iload_n (i := 2) d_Model_cost_29 rfl rfl ?_
      refine r_V2 v_Model_costAt w_1083 lm_0 (c_Model_costAt (by omega) (h3 j hj a ha1 ha2).1) (Nat.le_of_ble_eq_true rfl) (Nat.le_of_ble_eq_true rfl) d_Model_cost_30 ?_
      refine r_iret rfl d_Model_cost_33 ?_
      exact ⟨(MF.th M).tr (RA_mf h1), Or.inr ⟨j, a, hj, ha1, ha2, rfl, rfl, rfl⟩⟩
    · skip
      refine r_iconst (-1) d_Model_cost_21 ic_m1 ?_
      refine r_iret rfl d_Model_cost_22 ?_
      first
        | exact ⟨MF.th M, Or.inl ⟨Or.inr ((bI_f _).mp h_18), rfl⟩⟩
        | exact ⟨MF.th M, Or.inl ⟨Or.inl ((bI_f _).mp h_10), rfl⟩⟩

theorem c_Model_way (hS : MS n le nu lf rt nm mc (M 3)) (hw : WF n le nu lf rt z) (ht : ∀ k, k < n → TPk le lf rt z tp k) (hmk : MOK mc) (hC : CTb n mc le lf rt z tp (fun k => decide (lf k = -9)) (fun _ => false) C) (k i : Int32) : CJ G LM m_Model_way 5 [.ref (G.2.2 0), .int k, .int i] M (fun v N => MF M N (M 0 12) (M 0 13) ∧ (((isN n k = false ∨ decide (¬ i < 1 ∧ ¬ nI (mc 0) < i) = false) ∧ v = some (.int (-1))) ∨ ∃ j a, j < n ∧ 1 ≤ a ∧ a ≤ mc 0 ∧ k = nI j ∧ i = nI a ∧ v = some (.int (nI ((cX mc le lf rt z tp (fun k => decide (lf k = -9)) C j a).1))))) := by
  have hn := hw.1
  have h6 := hmk.2.1
  refine CJ_of2 (n0 := 0) (by decide) rfl rfl ?_
  simp only [List.map_cons, List.map_nil, List.cons_append, List.nil_append, List.reduceReplicate]
  refine r_aload_n (i := 0) d_Model_way_0 rfl rfl ?_
  refine r_iconst 0 d_Model_way_1 ic_0 ?_
  refine r_puti nf_Model_75 nfin_Model_0 lm_0 rfl d_Model_way_2 ?_
  refine r_aload_n (i := 0) d_Model_way_5 rfl rfl ?_
  refine r_iload_n (i := 1) d_Model_way_6 rfl rfl ?_
  refine r_V1 v_Model_isNode w_1007 lm_0 (c_Model_isNode (M := m0 M) (n := n) hS hn k) (Nat.le_of_ble_eq_true rfl) (Nat.le_of_ble_eq_true rfl) d_Model_way_7 ?_
  refine r_if_eq 21 d_Model_way_10 (by decide) (fun h_10 => ?_) (fun h_10 => ?_)
  · skip
    refine r_iconst (-1) d_Model_way_21 ic_m1 ?_
    refine r_iret rfl d_Model_way_22 ?_
    first
      | exact ⟨MF.th M, Or.inl ⟨Or.inr ((bI_f _).mp h_18), rfl⟩⟩
      | exact ⟨MF.th M, Or.inl ⟨Or.inl ((bI_f _).mp h_10), rfl⟩⟩
  · skip
    refine r_aload_n (i := 0) d_Model_way_13 rfl rfl ?_
    refine r_iload_n (i := 2) d_Model_way_14 rfl rfl ?_
    refine r_V1 v_Model_isRegisters w_1070 lm_0 (c_Model_isRegisters (M := m0 M) (mc := mc) hS i) (Nat.le_of_ble_eq_true rfl) (Nat.le_of_ble_eq_true rfl) d_Model_way_15 ?_
    refine r_if_ne 23 d_Model_way_18 (by decide) (fun h_18 => ?_) (fun h_18 => ?_)
    · skip
      refine r_aload_n (i := 0) d_Model_way_23 rfl rfl ?_
      refine r_W0 v_Model_reckonsAll w_1074 lm_0 (c_Model_reckonsAll (M := m0 M) hS hw ht hmk hC) (Nat.le_of_ble_eq_true rfl) (Nat.le_of_ble_eq_true rfl) d_Model_way_24 (fun v N hv => ?_)
      obtain ⟨rfl, h1, h2, h3⟩ := hv
      obtain ⟨j, hj, rfl⟩ := isN_ex ((bI_t _).mp h_10) (by omega)
      obtain ⟨a, ha1, ha2, rfl⟩ := isR_ex (by omega) ((bI_t _).mp h_18)
      refine r_aload_n (i := 0) d_Model_way_27 rfl rfl ?_
      refine r_getr nf_Model_47 lm_0 rfl d_Model_way_28 ?_
      refine r_bipush 7 d_Model_way_31 bp_7 ?_
      refine r_iload_n (i := 1) d_Model_way_33 rfl rfl ?_
      refine r_imulN (a := 7) (b := j) d_Model_way_34 rfl rfl ?_
      refine r_iload_n (i := 2) d_Model_way_35 rfl rfl ?_
      refine r_iaddN (a := (7 * j)) (b := a) d_Model_way_36 rfl rfl ?_
      refine r_ia (q := ((7 * j) + a)) lm_13 rfl (by omega) (by decide) ((h3 j hj a ha1 ha2).2) d_Model_way_37 ?_
      refine r_iret rfl d_Model_way_38 ?_
      exact ⟨(MF.th M).tr (RA_mf h1), Or.inr ⟨j, a, hj, ha1, ha2, rfl, rfl, rfl⟩⟩
    · skip
      refine r_iconst (-1) d_Model_way_21 ic_m1 ?_
      refine r_iret rfl d_Model_way_22 ?_
      first
        | exact ⟨MF.th M, Or.inl ⟨Or.inr ((bI_f _).mp h_18), rfl⟩⟩
        | exact ⟨MF.th M, Or.inl ⟨Or.inl ((bI_f _).mp h_10), rfl⟩⟩

end MM7
