-- Shares: find, isOfSet
/-- what find leaves, behind k NODES: a list, in rows -/
def SF (n : Nat) (ak : Nat → Nat) (l : List Nat) (N : nw_M) : Prop := N 129 3 = nI l.length ∧ ∀ (c x : Nat), l[c]? = some x → N 131 c = nI x ∧ N 133 c = nI (occ ak x n)
section MShr2
variable {G : nw_G}
set_option maxHeartbeats 1000000 in
theorem l_Shares_find {n : Nat} {M0 : nw_M} {le nu lf rt : Nat → Int32} {z : Nat → Nat} {tp : Nat → Bool} {ak : Nat → Nat} (hn : n ≤ 31) (hs : M0 11 9 = nI n) (hlf : M0 17 = lf) (htp : ∀ j, j < n → M0 25 j = bI (tp j)) (ha : ∀ j, j < n → M0 29 j = nI (ak j)) (hak : ∀ j, j < n → ak j ≤ j) {P : Option Value → nw_M → Prop} (hP : ∀ N, (∀ e, e ≠ 129 → e ≠ 131 → e ≠ 133 → N e = M0 e) → N 129 6 = 0 → SF n ak (shL n lf tp ak) N → P none N) : ∀ (d k : Nat) (o3 : Option Value) (N : nw_M), k + d = n → (∀ e, e ≠ 129 → e ≠ 131 → e ≠ 133 → N e = M0 e) → N 129 6 = 0 → (shl n lf tp ak k).length ≤ 5 → SF n ak (shl n lf tp ak k) N → RJ G LC m_Shares_find 3 P 12 [some (.ref (G.2.2 129)), some (.ref (G.2.2 11)), some (.int (nI k)), o3] [] N := by
  intro d
  induction d with
  | zero =>
    intro k o3 N hk hF h6 hS5 hSF
    simp only [Nat.add_zero] at hk
    subst hk
    have qt : N 11 = M0 11 := hF _ (by omega) (by omega) (by omega)
    refine r_iload_n (i := 2) d_Shares_find_12 rfl rfl ?_
    refine r_aload_n (i := 1) d_Shares_find_13 rfl rfl ?_
    refine r_geti nf_Shares_38 tree_11.1 rfl d_Shares_find_14 ?_
    rw [qt, hs]
    refine r_icmp_ge 107 d_Shares_find_17 (by decide) (fun _ => ?_) (fun h9 => absurd (nI_le (Nat.le_refl _) (by omega)) h9)
    refine r_vret rfl d_Shares_find_107 (hP N hF h6 ?_)
    rw [shL, List.take_of_length_le hS5]
    exact hSF
  | succ d ih =>
    intro k o3 N hkd hF h6 hS5 hSF
    have hk : k < n := by omega
    have qt : N 11 = M0 11 := hF _ (by omega) (by omega) (by omega)
    have q17 : N 17 = lf := by rw [← hlf]; exact hF _ (by omega) (by omega) (by omega)
    have q25 : N 25 = M0 25 := hF _ (by omega) (by omega) (by omega)
    have q29 : N 29 = M0 29 := hF _ (by omega) (by omega) (by omega)
    have w1 : ∀ q : Bool, (bI q == 1) = q := fun q => by cases q <;> rfl
    refine r_iload_n (i := 2) d_Shares_find_12 rfl rfl ?_
    refine r_aload_n (i := 1) d_Shares_find_13 rfl rfl ?_
    refine r_geti nf_Shares_38 tree_11.1 rfl d_Shares_find_14 ?_
    rw [qt, hs]
    refine r_icmp_ge 107 d_Shares_find_17 (by decide) (fun h_17 => ?_) (fun h_17 => ?_)
    · skip
      exact absurd h_17 (nI_ge (by omega) (by omega))
    · skip
      refine r_aload_n (i := 0) d_Shares_find_20 rfl rfl ?_
      refine r_geti nf_Shares_30 lc_129 rfl d_Shares_find_21 ?_
      refine r_iconst 5 d_Shares_find_24 ic_5 ?_
      rw [hSF.1]
      refine r_icmp_ge 107 d_Shares_find_25 (by decide) (fun h_25 => ?_) (fun h_25 => ?_)
      · skip
        refine r_vret rfl d_Shares_find_107 (hP N hF h6 ?_)
        have h5 : (shl n lf tp ak k).length = 5 := by
          rcases Nat.lt_or_ge (shl n lf tp ak k).length 5 with q | q
          · exact absurd (show nI 5 ≤ nI (shl n lf tp ak k).length from h_25) (nI_ge q (by omega))
          · omega
        obtain ⟨r, hr⟩ := shl_pre (n := n) (lf := lf) (tp := tp) (ak := ak) k (d + 1)
        rw [hkd] at hr
        rw [shL, hr, List.take_append_of_le_length (by omega), List.take_of_length_le (by omega)]
        exact hSF
      · skip
        have hlt5 : (shl n lf tp ak k).length < 5 := by
          rcases Nat.lt_or_ge (shl n lf tp ak k).length 5 with q | q
          · exact q
          · exact absurd (show nI 5 ≤ nI (shl n lf tp ak k).length from nI_le q (by omega)) h_25
        refine r_aload_n (i := 1) d_Shares_find_28 rfl rfl ?_
        refine r_getr nf_Shares_43 tree_11.1 rfl d_Shares_find_29 ?_
        refine r_iload_n (i := 2) d_Shares_find_32 rfl rfl ?_
        refine r_V1 v_Row_get w_520 (isTree.alikes tree_11).1 (c2_Row_get (isTree.alikes tree_11) (by omega) (show N 29 k = nI (ak k) by rw [q29]; exact ha k hk)) (Nat.le_of_ble_eq_true rfl) (Nat.le_of_ble_eq_true rfl) d_Shares_find_33 ?_
        refine r_iload_n (i := 2) d_Shares_find_36 rfl rfl ?_
        refine r_icmp_ne 101 d_Shares_find_37 (by decide) (fun h_37 => ?_) (fun h_37 => ?_)
        · skip
          refine r_iinc d_Shares_find_101 rfl (nI_inc k) (Nat.le_of_ble_eq_true rfl) rfl ?_
          dsimp only [List.set]
          refine r_goto 12 d_Shares_find_104 (by decide) ?_
          have e : shl n lf tp ak (k + 1) = shl n lf tp ak k := by
            rw [shl, if_neg, List.append_nil]
            intro q
            simp only [shQ, Bool.and_eq_true, decide_eq_true_eq, Bool.not_eq_true'] at q
            exact h_37 (by rw [q.1.2])
          exact ih (k + 1) _ N (by omega) hF h6 (by rw [e]; exact hS5) (by rw [e]; exact hSF)
        · skip
          have hakk : ak k = k := by
            have := hak k hk
            exact (nI_eq (by omega) (by omega)).mp h_37
          refine r_aload_n (i := 1) d_Shares_find_40 rfl rfl ?_
          refine r_iload_n (i := 2) d_Shares_find_41 rfl rfl ?_
          refine r_V1 v_Tree_isLeaf w_521 tree_11.1 (c2_isLeaf (by omega) q17) (Nat.le_of_ble_eq_true rfl) (Nat.le_of_ble_eq_true rfl) d_Shares_find_42 ?_
          refine r_if_ne 101 d_Shares_find_45 (by decide) (fun h_45 => ?_) (fun h_45 => ?_)
          · skip
            refine r_iinc d_Shares_find_101 rfl (nI_inc k) (Nat.le_of_ble_eq_true rfl) rfl ?_
            dsimp only [List.set]
            refine r_goto 12 d_Shares_find_104 (by decide) ?_
            have e : shl n lf tp ak (k + 1) = shl n lf tp ak k := by
              rw [shl, if_neg, List.append_nil]
              intro q
              simp only [shQ, Bool.and_eq_true, decide_eq_true_eq, Bool.not_eq_true'] at q
              rw [bI_t, beq_iff_eq] at h_45
              exact q.1.1.1 h_45
            exact ih (k + 1) _ N (by omega) hF h6 (by rw [e]; exact hS5) (by rw [e]; exact hSF)
          · skip
            rw [bI_f, beq_eq_false_iff_ne] at h_45
            refine r_aload_n (i := 1) d_Shares_find_48 rfl rfl ?_
            refine r_iload_n (i := 2) d_Shares_find_49 rfl rfl ?_
            refine r_V1 v_Tree_mayTrap w_522 tree_11.1 (c_Tree_mayTrap tree_11 _ _ ) (Nat.le_of_ble_eq_true rfl) (Nat.le_of_ble_eq_true rfl) d_Shares_find_50 ?_
            refine r_if_ne 101 d_Shares_find_53 (by decide) (fun h_53 => ?_) (fun h_53 => ?_)
            · skip
              refine r_iinc d_Shares_find_101 rfl (nI_inc k) (Nat.le_of_ble_eq_true rfl) rfl ?_
              dsimp only [List.set]
              refine r_goto 12 d_Shares_find_104 (by decide) ?_
              have e : shl n lf tp ak (k + 1) = shl n lf tp ak k := by
                rw [shl, if_neg, List.append_nil]
                intro q
                simp only [shQ, Bool.and_eq_true, decide_eq_true_eq, Bool.not_eq_true'] at q
                rw [rg_nI _ (by omega) (by omega), show N (11 + 14) = N 25 from rfl, q25, htp k hk, w1, bI_t] at h_53
                rw [h_53] at q
                exact absurd q.1.1.2 (by decide)
              exact ih (k + 1) _ N (by omega) hF h6 (by rw [e]; exact hS5) (by rw [e]; exact hSF)
            · skip
              rw [rg_nI _ (by omega) (by omega), show N (11 + 14) = N 25 from rfl, q25, htp k hk, w1, bI_f] at h_53
              refine r_aload_n (i := 1) d_Shares_find_56 rfl rfl ?_
              refine r_iload_n (i := 2) d_Shares_find_57 rfl rfl ?_
              refine r_S2 f_Shares_timesOf w_523 (c_Shares_timesOf hn hk (by rw [qt]; exact hs) (by rw [q29]; exact ha) hak) (Nat.le_of_ble_eq_true rfl) (Nat.le_of_ble_eq_true rfl) d_Shares_find_58 ?_
              refine r_istore_n (i := 3) d_Shares_find_61 rfl (Nat.le_of_ble_eq_true rfl) rfl ?_
              dsimp only [List.set]
              refine r_iload_n (i := 3) d_Shares_find_62 rfl rfl ?_
              refine r_iconst 2 d_Shares_find_63 ic_2 ?_
              refine r_icmp_lt 101 d_Shares_find_64 (by decide) (fun h_64 => ?_) (fun h_64 => ?_)
              · skip
                refine r_iinc d_Shares_find_101 rfl (nI_inc k) (Nat.le_of_ble_eq_true rfl) rfl ?_
                dsimp only [List.set]
                refine r_goto 12 d_Shares_find_104 (by decide) ?_
                have e : shl n lf tp ak (k + 1) = shl n lf tp ak k := by
                  rw [shl, if_neg, List.append_nil]
                  intro q
                  simp only [shQ, Bool.and_eq_true, decide_eq_true_eq, Bool.not_eq_true'] at q
                  have := occ_le (ak := ak) (f := k) n
                  exact absurd (show nI (occ ak k n) < nI 2 from h_64) (nI_nlt q.2 (by omega))
                exact ih (k + 1) _ N (by omega) hF h6 (by rw [e]; exact hS5) (by rw [e]; exact hSF)
              · skip
                have hoc : 2 ≤ occ ak k n := by
                  have := occ_le (ak := ak) (f := k) n
                  rcases Nat.lt_or_ge (occ ak k n) 2 with q | q
                  · exact absurd (show nI (occ ak k n) < nI 2 from nI_lt q (by omega)) h_64
                  · exact q
                have hq : shQ n lf tp ak k = true := by simp [shQ, h_45, h_53, hakk, hoc]
                refine r_aload_n (i := 0) d_Shares_find_67 rfl rfl ?_
                refine r_getr nf_Shares_14 lc_129 rfl d_Shares_find_68 ?_
                refine r_aload_n (i := 0) d_Shares_find_71 rfl rfl ?_
                refine r_geti nf_Shares_30 lc_129 rfl d_Shares_find_72 ?_
                refine r_iload_n (i := 2) d_Shares_find_75 rfl rfl ?_
                refine r_V2 v_Row_put w_526 row_130.1 (c_Row_put row_130 _ _ _ ) (Nat.le_of_ble_eq_true rfl) (Nat.le_of_ble_eq_true rfl) d_Shares_find_76 ?_
                refine r_aload_n (i := 0) d_Shares_find_79 rfl rfl ?_
                refine r_getr nf_Shares_20 lc_129 rfl d_Shares_find_80 ?_
                refine r_aload_n (i := 0) d_Shares_find_83 rfl rfl ?_
                refine r_geti nf_Shares_30 lc_129 rfl d_Shares_find_84 ?_
                refine r_iload_n (i := 3) d_Shares_find_87 rfl rfl ?_
                refine r_V2 v_Row_put w_526 row_132.1 (c_Row_put row_132 _ _ _ ) (Nat.le_of_ble_eq_true rfl) (Nat.le_of_ble_eq_true rfl) d_Shares_find_88 ?_
                refine r_aload_n (i := 0) d_Shares_find_91 rfl rfl ?_
                refine r_dup d_Shares_find_92 rfl ?_
                refine r_geti nf_Shares_30 lc_129 rfl d_Shares_find_93 ?_
                refine r_iconst 1 d_Shares_find_96 ic_1 ?_
                refine r_iadd d_Shares_find_97 ?_
                refine r_puti nf_Shares_30 nfin_Shares_3 lc_129 rfl d_Shares_find_98 ?_
                refine r_iinc d_Shares_find_101 rfl (nI_inc k) (Nat.le_of_ble_eq_true rfl) rfl ?_
                dsimp only [List.set]
                refine r_goto 12 d_Shares_find_104 (by decide) ?_
                refine ih (k + 1) _ _ (by omega) (fun e e1 e2 e3 => by simp (disch := omega) only [ms_ne]; exact hF e e1 e2 e3) (by simp (disch := omega) only [ms_same, ms_ne, upd_ne]; exact h6) ?_ ?_
                · rw [shl, if_pos hq]; simp; omega
                · rw [shl, if_pos hq]
                  simp (disch := omega) only [ms_same, ms_ne, hSF.1, rp_nI, upd_at, nI_1]
                  refine ⟨?_, fun c x hx => ?_⟩
                  · simp (disch := omega) only [ms_same, upd_at, List.length_append, List.length_cons, List.length_nil, Nat.zero_add]
                  · simp (disch := omega) only [ms_same, ms_ne]
                    rcases Nat.lt_or_ge c (shl n lf tp ak k).length with q | q
                    · rw [List.getElem?_append_left q] at hx
                      rw [upd_ne _ _ (by omega), upd_ne _ _ (by omega)]
                      exact hSF.2 c x hx
                    · have hc : c = (shl n lf tp ak k).length := by
                        have := (List.getElem?_eq_some_iff.mp hx).1
                        simp at this
                        omega
                      subst hc
                      rw [List.getElem?_append_right (Nat.le_refl _), Nat.sub_self] at hx
                      cases hx
                      rw [upd_at, upd_at]
                      exact ⟨rfl, rfl⟩

theorem c_Shares_find {n : Nat} {M0 : nw_M} {le nu lf rt : Nat → Int32} {z : Nat → Nat} {tp : Nat → Bool} {ak : Nat → Nat} (hn : n ≤ 31) (hs : M0 11 9 = nI n) (hlf : M0 17 = lf) (htp : ∀ j, j < n → M0 25 j = bI (tp j)) (ha : ∀ j, j < n → M0 29 j = nI (ak j)) (hak : ∀ j, j < n → ak j ≤ j) : CJ G LC m_Shares_find 3 [.ref (G.2.2 129), .ref (G.2.2 11)] M0 (fun v N => v = none ∧ (∀ e, e ≠ 129 → e ≠ 131 → e ≠ 133 → N e = M0 e) ∧ N 129 6 = 0 ∧ SF n ak (shL n lf tp ak) N) := by
  refine CJ_of2 (n0 := 2) (by decide) rfl rfl ?_
  simp only [List.map_cons, List.map_nil, List.cons_append, List.nil_append, List.reduceReplicate]
  refine r_aload_n (i := 0) d_Shares_find_0 rfl rfl ?_
  refine r_iconst 0 d_Shares_find_1 ic_0 ?_
  refine r_puti nf_Shares_30 nfin_Shares_3 lc_129 rfl d_Shares_find_2 ?_
  refine r_aload_n (i := 0) d_Shares_find_5 rfl rfl ?_
  refine r_iconst 0 d_Shares_find_6 ic_0 ?_
  refine r_putz nf_Shares_34 nfin_Shares_6 (by decide) lc_129 rfl d_Shares_find_7 ?_
  refine r_iconst 0 d_Shares_find_10 ic_0 ?_
  refine r_istore_n (i := 2) d_Shares_find_11 rfl (Nat.le_of_ble_eq_true rfl) rfl ?_
  dsimp only [List.set]
  exact l_Shares_find (le := le) (nu := nu) (rt := rt) (z := z) hn hs hlf htp ha hak (fun N h1 h2 h3 => ⟨rfl, h1, h2, h3⟩) n 0 _ _ (by omega) (fun e e1 e2 e3 => by simp (disch := omega) only [ms_ne]) (by simp (disch := omega) only [ms_same, ms_ne, upd_at]) (by simp [shl]) ⟨by simp (disch := omega) only [ms_same, ms_ne, upd_ne, upd_at, shl]; rfl, fun c x h => by simp [shl] at h⟩

theorem l_Shares_isOfSet {n S f : Nat} {ak : Nat → Nat} {l : List Nat} {M : nw_M} (hS : S < 32) (hf : f < 31) (hl : l.length ≤ 5) (hx : ∀ x ∈ l, x < 31) (hF : SF n ak l M) {P : Option Value → nw_M → Prop} (hP : P (some (.int (bI (inS S f 0 l)))) M) : ∀ (r : List Nat) (c : Nat), c + r.length = l.length → l.drop c = r → inS S f 0 l = inS S f c r → RJ G LC m_Shares_isOfSet 1 P 2 [some (.ref (G.2.2 129)), some (.int (nI S)), some (.int (nI f)), some (.int (nI c))] [] M := by
  intro r
  induction r with
  | nil =>
    intro c hc hd he
    simp only [List.length_nil, Nat.add_zero] at hc
    refine r_iload_n (i := 3) d_Shares_isOfSet_2 rfl rfl ?_
    refine r_aload_n (i := 0) d_Shares_isOfSet_3 rfl rfl ?_
    refine r_geti nf_Shares_30 lc_129 rfl d_Shares_isOfSet_4 ?_
    rw [hF.1, ← hc]
    refine r_icmp_ge 43 d_Shares_isOfSet_7 (by decide) (fun _ => ?_) (fun h9 => absurd (nI_le (Nat.le_refl _) (by omega)) h9)
    refine r_iconst 0 d_Shares_isOfSet_43 ic_0 ?_
    refine r_zret rfl (by decide) d_Shares_isOfSet_44 ?_
    rw [he] at hP
    exact hP
  | cons g r ih =>
    intro c hc hd he
    simp only [List.length_cons] at hc
    have hg : l[c]? = some g := by
      have := congrArg (fun q => q[0]?) hd
      simpa using this
    have hg31 := hx g (List.mem_of_getElem? hg)
    have hd2 : l.drop (c + 1) = r := by rw [← List.tail_drop, hd]; rfl
    refine r_iload_n (i := 3) d_Shares_isOfSet_2 rfl rfl ?_
    refine r_aload_n (i := 0) d_Shares_isOfSet_3 rfl rfl ?_
    refine r_geti nf_Shares_30 lc_129 rfl d_Shares_isOfSet_4 ?_
    rw [hF.1]
    refine r_icmp_ge 43 d_Shares_isOfSet_7 (by decide) (fun h_7 => ?_) (fun h_7 => ?_)
    · skip
      exact absurd h_7 (nI_ge (by omega) (by omega))
    · skip
      refine r_aload_n (i := 0) d_Shares_isOfSet_10 rfl rfl ?_
      refine r_getr nf_Shares_14 lc_129 rfl d_Shares_isOfSet_11 ?_
      refine r_iload_n (i := 3) d_Shares_isOfSet_14 rfl rfl ?_
      refine r_V1 v_Row_get w_520 row_130.1 (c2_Row_get row_130 (by omega) (hF.2 c g hg).1) (Nat.le_of_ble_eq_true rfl) (Nat.le_of_ble_eq_true rfl) d_Shares_isOfSet_15 ?_
      refine r_iload_n (i := 2) d_Shares_isOfSet_18 rfl rfl ?_
      refine r_icmp_ne 37 d_Shares_isOfSet_19 (by decide) (fun h_19 => ?_) (fun h_19 => ?_)
      · skip
        refine r_iinc d_Shares_isOfSet_37 rfl (nI_inc c) (Nat.le_of_ble_eq_true rfl) rfl ?_
        dsimp only [List.set]
        refine r_goto 2 d_Shares_isOfSet_40 (by decide) ?_
        refine ih (c + 1) (by omega) hd2 ?_
        rw [he, inS, if_neg (fun e => h_19 (by rw [e]))]
      · skip
        refine r_iload_n (i := 1) d_Shares_isOfSet_22 rfl rfl ?_
        refine r_iload_n (i := 3) d_Shares_isOfSet_23 rfl rfl ?_
        refine r_ishr d_Shares_isOfSet_24 ?_
        refine r_iconst 1 d_Shares_isOfSet_25 ic_1 ?_
        refine r_iand d_Shares_isOfSet_26 ?_
        refine r_iconst 1 d_Shares_isOfSet_27 ic_1 ?_
        refine r_icmp_ne 35 d_Shares_isOfSet_28 (by decide) (fun h_28 => ?_) (fun h_28 => ?_)
        · skip
          refine r_iconst 0 d_Shares_isOfSet_35 ic_0 ?_
          refine r_zret rfl (by decide) d_Shares_isOfSet_36 ?_
          have e : inS S f 0 l = S.testBit c := by rw [he, inS, if_pos ((nI_eq (by omega) (by omega)).mp h_19)]
          rw [e] at hP
          have := (bit32 S hS c (by omega))
          have hb : S.testBit c = false := by
            cases hq : S.testBit c with
            | false => rfl
            | true => exact absurd (this.mpr hq) h_28
          rw [hb] at hP
          exact hP
        · skip
          refine r_iconst 1 d_Shares_isOfSet_31 ic_1 ?_
          refine r_goto 36 d_Shares_isOfSet_32 (by decide) ?_
          refine r_zret rfl (by decide) d_Shares_isOfSet_36 ?_
          have e : inS S f 0 l = S.testBit c := by rw [he, inS, if_pos ((nI_eq (by omega) (by omega)).mp h_19)]
          rw [e, (bit32 S hS c (by omega)).mp h_28] at hP
          exact hP

theorem c_Shares_isOfSet {n S f : Nat} {ak : Nat → Nat} {l : List Nat} {M : nw_M} (hS : S < 32) (hf : f < 31) (hl : l.length ≤ 5) (hx : ∀ x ∈ l, x < 31) (hF : SF n ak l M) : CF G LC m_Shares_isOfSet 1 [.ref (G.2.2 129), .int (nI S), .int (nI f)] M (some (.int (bI (inS S f 0 l)))) M := by
  refine CJ_of2 (n0 := 1) (by decide) rfl rfl ?_
  simp only [List.map_cons, List.map_nil, List.cons_append, List.nil_append, List.reduceReplicate]
  refine r_iconst 0 d_Shares_isOfSet_0 ic_0 ?_
  refine r_istore_n (i := 3) d_Shares_isOfSet_1 rfl (Nat.le_of_ble_eq_true rfl) rfl ?_
  dsimp only [List.set]
  exact l_Shares_isOfSet hS hf hl hx hF ⟨rfl, rfl⟩ l 0 (by omega) (by simp) rfl

end MShr2
