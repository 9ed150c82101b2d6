-- the model: what is shared
section MMs
variable {G : nw_G} {n : Nat} {le nu lf rt nm : Nat → Int32} {z nd ld ak mc : Nat → Nat} {tp : Nat → Bool} {C : Nat → Nat → Nat} {Q : nP} {M N : nw_M}
variable {len : Nat} {tx s : SN} {l : List SN} {K : Nat → Option SN} {ask trp : Int32}
theorem shl_len : ∀ k, (shl n lf tp ak k).length ≤ k
  | 0 => Nat.le_refl _
  | k + 1 => by
    have := shl_len k
    rw [shl, List.length_append]
    split <;> simp <;> omega
/-- the first NODE of what is shared, by its number -/
def sfA (l : List Nat) (c : Nat) : Int32 := match l[c]? with
  | none => -9
  | some x => nI x
theorem sfA_some {l : List Nat} {c x : Nat} (h : l[c]? = some x) : sfA l c = nI x := by unfold sfA; rw [h]
theorem sfA_none {l : List Nat} {c : Nat} (h : l.length ≤ c) : sfA l c = -9 := by unfold sfA; rw [List.getElem?_eq_none h]
theorem shL_get {c : Nat} (h : c < 5) : (shL n lf tp ak)[c]? = (shl n lf tp ak n)[c]? := by unfold shL; rw [List.getElem?_take, if_pos h]
theorem shL_no {c : Nat} (h : ¬ (c < (shl n lf tp ak n).length ∧ c < 5)) : (shL n lf tp ak).length ≤ c := by unfold shL; rw [List.length_take]; omega
theorem l_Model_occurs (hS : MS n le nu lf rt nm mc (M 3)) (hw : WF n le nu lf rt z) (hA : ∀ k, k < n → AKk le nu lf rt ak k) {k : Nat} (hk : k < n) : ∀ (d j : Nat), j + d = n → RJ G LM m_Model_occurs 2 (fun v N => v = some (.int (nI (occ ak (ak k) n))) ∧ N = M) 4 [some (.ref (G.2.2 0)), some (.int (nI k)), some (.int (nI (occ ak (ak k) j))), some (.int (nI j))] [] M := by
  have hn := hw.1
  intro d
  induction d with
  | zero =>
    intro j hd
    simp only [Nat.add_zero] at hd
    subst hd
    refine r_iload_n (i := 3) d_Model_occurs_4 rfl rfl ?_
    refine r_aload_n (i := 0) d_Model_occurs_5 rfl rfl ?_
    refine r_getr nf_Model_16 lm_0 rfl d_Model_occurs_6 ?_
    refine r_iconst 0 d_Model_occurs_9 ic_0 ?_
    refine r_ia (q := 0) lm_3 rfl (by omega) (by decide) hS.1 d_Model_occurs_10 ?_
    refine r_icmp_ge 37 d_Model_occurs_11 (by decide) (fun _ => ?_) (fun h9 => absurd (Int32.le_refl _) h9)
    refine r_iload_n (i := 2) d_Model_occurs_37 rfl rfl ?_
    refine r_iret rfl d_Model_occurs_38 ?_
    exact ⟨rfl, rfl⟩
  | succ d ih =>
    intro j hd
    refine r_iload_n (i := 3) d_Model_occurs_4 rfl rfl ?_
    refine r_aload_n (i := 0) d_Model_occurs_5 rfl rfl ?_
    refine r_getr nf_Model_16 lm_0 rfl d_Model_occurs_6 ?_
    refine r_iconst 0 d_Model_occurs_9 ic_0 ?_
    refine r_ia (q := 0) lm_3 rfl (by omega) (by decide) (hS.1) d_Model_occurs_10 ?_
    refine r_icmp_ge 37 d_Model_occurs_11 (by decide) (fun h_11 => ?_) (fun h_11 => ?_)
    · skip
      exact absurd h_11 (nI_ge (by omega) (by omega))
    · skip
      refine r_iload_n (i := 2) d_Model_occurs_14 rfl rfl ?_
      refine r_aload_n (i := 0) d_Model_occurs_15 rfl rfl ?_
      refine r_iload_n (i := 3) d_Model_occurs_16 rfl rfl ?_
      refine r_iload_n (i := 1) d_Model_occurs_17 rfl rfl ?_
      refine r_V2 v_Model_isAlike w_1048 lm_0 (c_Model_isAlike hS hw hA (a := j) (b := k) (by omega) hk) (Nat.le_of_ble_eq_true rfl) (Nat.le_of_ble_eq_true rfl) d_Model_occurs_18 ?_
      refine r_if_eq 28 d_Model_occurs_21 (by decide) (fun h_21 => ?_) (fun h_21 => ?_)
      · skip
        refine r_iconst 0 d_Model_occurs_28 ic_0 ?_
        refine r_iaddN (a := (occ ak (ak k) j)) (b := 0) d_Model_occurs_29 rfl rfl ?_
        refine r_istore_n (i := 2) d_Model_occurs_30 rfl (Nat.le_of_ble_eq_true rfl) rfl ?_
        dsimp only [List.set]
        refine r_iinc d_Model_occurs_31 rfl (nI_inc _) (Nat.le_of_ble_eq_true rfl) rfl ?_
        dsimp only [List.set]
        refine r_goto 4 d_Model_occurs_34 (by decide) ?_
        have := ih (j + 1) (by omega)
        rw [occ, if_neg (of_decide_eq_false ((bI_f _).mp h_21))] at this
        exact this
      · skip
        refine r_iconst 1 d_Model_occurs_24 ic_1 ?_
        refine r_goto 29 d_Model_occurs_25 (by decide) ?_
        refine r_iaddN (a := (occ ak (ak k) j)) (b := 1) d_Model_occurs_29 rfl rfl ?_
        refine r_istore_n (i := 2) d_Model_occurs_30 rfl (Nat.le_of_ble_eq_true rfl) rfl ?_
        dsimp only [List.set]
        refine r_iinc d_Model_occurs_31 rfl (nI_inc _) (Nat.le_of_ble_eq_true rfl) rfl ?_
        dsimp only [List.set]
        refine r_goto 4 d_Model_occurs_34 (by decide) ?_
        have := ih (j + 1) (by omega)
        rw [occ, if_pos (of_decide_eq_true ((bI_t _).mp h_21))] at this
        exact this

theorem c_Model_occurs (hS : MS n le nu lf rt nm mc (M 3)) (hw : WF n le nu lf rt z) (hA : ∀ k, k < n → AKk le nu lf rt ak k) {k : Nat} (hk : k < n) : CF G LM m_Model_occurs 2 [.ref (G.2.2 0), .int (nI k)] M (some (.int (nI (occ ak (ak k) n)))) M := by
  refine CJ_of2 (n0 := 2) (by decide) rfl rfl ?_
  simp only [List.map_cons, List.map_nil, List.cons_append, List.nil_append, List.reduceReplicate]
  refine r_iconst 0 d_Model_occurs_0 ic_0 ?_
  refine r_istore_n (i := 2) d_Model_occurs_1 rfl (Nat.le_of_ble_eq_true rfl) rfl ?_
  dsimp only [List.set]
  refine r_iconst 0 d_Model_occurs_2 ic_0 ?_
  refine r_istore_n (i := 3) d_Model_occurs_3 rfl (Nat.le_of_ble_eq_true rfl) rfl ?_
  dsimp only [List.set]
  exact l_Model_occurs hS hw hA hk n 0 (by omega)

theorem l_Model_sharedFirst (hS : MS n le nu lf rt nm mc (M 3)) (hw : WF n le nu lf rt z) (hA : ∀ k, k < n → AKk le nu lf rt ak k) (ht : ∀ k, k < n → TPk le lf rt z tp k) {c : Nat} (hc : c < 2 ^ 31) : ∀ (d j : Nat), j + d = n → ¬ (c < (shl n lf tp ak j).length ∧ c < 5) → RJ G LM m_Model_sharedFirst 3 (fun v N => v = some (.int (sfA (shL n lf tp ak) c)) ∧ N = M) 4 [some (.ref (G.2.2 0)), some (.int (nI c)), some (.int (nI (shl n lf tp ak j).length)), some (.int (nI j))] [] M := by
  have hn := hw.1
  intro d
  induction d with
  | zero =>
    intro j hd hnf
    simp only [Nat.add_zero] at hd
    subst hd
    refine r_iload_n (i := 3) d_Model_sharedFirst_4 rfl rfl ?_
    refine r_aload_n (i := 0) d_Model_sharedFirst_5 rfl rfl ?_
    refine r_getr nf_Model_16 lm_0 rfl d_Model_sharedFirst_6 ?_
    refine r_iconst 0 d_Model_sharedFirst_9 ic_0 ?_
    refine r_ia (q := 0) lm_3 rfl (by omega) (by decide) hS.1 d_Model_sharedFirst_10 ?_
    refine r_icmp_ge 69 d_Model_sharedFirst_11 (by decide) (fun _ => ?_) (fun h9 => absurd (Int32.le_refl _) h9)
    refine r_bipush (-9) d_Model_sharedFirst_69 bp_m9 ?_
    refine r_iret rfl d_Model_sharedFirst_71 ?_
    exact ⟨by rw [sfA_none (shL_no hnf)], rfl⟩
  | succ d ih =>
    intro j hd hnf
    refine r_iload_n (i := 3) d_Model_sharedFirst_4 rfl rfl ?_
    refine r_aload_n (i := 0) d_Model_sharedFirst_5 rfl rfl ?_
    refine r_getr nf_Model_16 lm_0 rfl d_Model_sharedFirst_6 ?_
    refine r_iconst 0 d_Model_sharedFirst_9 ic_0 ?_
    refine r_ia (q := 0) lm_3 rfl (by omega) (by decide) (hS.1) d_Model_sharedFirst_10 ?_
    refine r_icmp_ge 69 d_Model_sharedFirst_11 (by decide) (fun h_11 => ?_) (fun h_11 => ?_)
    · skip
      exact absurd h_11 (nI_ge (by omega) (by omega))
    · skip
      refine r_aload_n (i := 0) d_Model_sharedFirst_14 rfl rfl ?_
      refine r_iload_n (i := 3) d_Model_sharedFirst_15 rfl rfl ?_
      refine r_V1 v_Model_isLeaf w_1019 lm_0 (c_Model_isLeaf hS hw (k := j) (by omega)) (Nat.le_of_ble_eq_true rfl) (Nat.le_of_ble_eq_true rfl) d_Model_sharedFirst_16 ?_
      refine r_if_ne 63 d_Model_sharedFirst_19 (by decide) (fun h_19 => ?_) (fun h_19 => ?_)
      · skip
        refine r_iinc d_Model_sharedFirst_63 rfl (nI_inc _) (Nat.le_of_ble_eq_true rfl) rfl ?_
        dsimp only [List.set]
        refine r_goto 4 d_Model_sharedFirst_66 (by decide) ?_
        have q : shQ n lf tp ak j = false := by simp [shQ, of_decide_eq_true ((bI_t _).mp h_19)]
        have e : shl n lf tp ak (j + 1) = shl n lf tp ak j := by rw [shl, q]; simp
        have := ih (j + 1) (by omega) (by rw [e]; exact hnf)
        rw [e] at this
        exact this
      · skip
        refine r_aload_n (i := 0) d_Model_sharedFirst_22 rfl rfl ?_
        refine r_iload_n (i := 3) d_Model_sharedFirst_23 rfl rfl ?_
        refine r_V1 v_Model_mayTrap w_1036 lm_0 (c_Model_mayTrap hS hw ht (k := j) (by omega)) (Nat.le_of_ble_eq_true rfl) (Nat.le_of_ble_eq_true rfl) d_Model_sharedFirst_24 ?_
        refine r_if_ne 63 d_Model_sharedFirst_27 (by decide) (fun h_27 => ?_) (fun h_27 => ?_)
        · skip
          refine r_iinc d_Model_sharedFirst_63 rfl (nI_inc _) (Nat.le_of_ble_eq_true rfl) rfl ?_
          dsimp only [List.set]
          refine r_goto 4 d_Model_sharedFirst_66 (by decide) ?_
          have q : shQ n lf tp ak j = false := by simp [shQ, (bI_t _).mp h_27]
          have e : shl n lf tp ak (j + 1) = shl n lf tp ak j := by rw [shl, q]; simp
          have := ih (j + 1) (by omega) (by rw [e]; exact hnf)
          rw [e] at this
          exact this
        · skip
          refine r_aload_n (i := 0) d_Model_sharedFirst_30 rfl rfl ?_
          refine r_iload_n (i := 3) d_Model_sharedFirst_31 rfl rfl ?_
          refine r_V1 v_Model_lowestAlike w_1044 lm_0 (c_Model_lowestAlike hS hw hA (k := j) (by omega)) (Nat.le_of_ble_eq_true rfl) (Nat.le_of_ble_eq_true rfl) d_Model_sharedFirst_32 ?_
          refine r_iload_n (i := 3) d_Model_sharedFirst_35 rfl rfl ?_
          refine r_icmp_ne 63 d_Model_sharedFirst_36 (by decide) (fun h_36 => ?_) (fun h_36 => ?_)
          · skip
            refine r_iinc d_Model_sharedFirst_63 rfl (nI_inc _) (Nat.le_of_ble_eq_true rfl) rfl ?_
            dsimp only [List.set]
            refine r_goto 4 d_Model_sharedFirst_66 (by decide) ?_
            have q : shQ n lf tp ak j = false := by simp [shQ, show ak j ≠ j from fun e => h_36 (by rw [e])]
            have e : shl n lf tp ak (j + 1) = shl n lf tp ak j := by rw [shl, q]; simp
            have := ih (j + 1) (by omega) (by rw [e]; exact hnf)
            rw [e] at this
            exact this
          · skip
            refine r_aload_n (i := 0) d_Model_sharedFirst_39 rfl rfl ?_
            refine r_iload_n (i := 3) d_Model_sharedFirst_40 rfl rfl ?_
            refine r_V1 v_Model_occurs w_1179 lm_0 (c_Model_occurs hS hw hA (k := j) (by omega)) (Nat.le_of_ble_eq_true rfl) (Nat.le_of_ble_eq_true rfl) d_Model_sharedFirst_41 ?_
            refine r_iconst 1 d_Model_sharedFirst_44 ic_1 ?_
            refine r_icmp_le 63 d_Model_sharedFirst_45 (by decide) (fun h_45 => ?_) (fun h_45 => ?_)
            · skip
              refine r_iinc d_Model_sharedFirst_63 rfl (nI_inc _) (Nat.le_of_ble_eq_true rfl) rfl ?_
              dsimp only [List.set]
              refine r_goto 4 d_Model_sharedFirst_66 (by decide) ?_
              have qa : ak j = j := (nI_eq (by have := (hA j (by omega)).1; omega) (by omega)).mp h_36
              have q2 : lf j ≠ -9 := of_decide_eq_false ((bI_f _).mp h_19)
              have q3 : tp j = false := (bI_f _).mp h_27
              have ql := occ_le (ak := ak) (f := ak j) n
              have q4 : occ ak (ak j) n ≤ 1 := (nI_leI (by omega) (by omega)).mp h_45
              rw [qa] at q4
              have q : shQ n lf tp ak j = false := by simp [shQ, show ¬ 2 ≤ occ ak j n by omega]
              have e : shl n lf tp ak (j + 1) = shl n lf tp ak j := by rw [shl, q]; simp
              have := ih (j + 1) (by omega) (by rw [e]; exact hnf)
              rw [e] at this
              exact this
            · skip
              refine r_iload_n (i := 2) d_Model_sharedFirst_48 rfl rfl ?_
              refine r_iload_n (i := 1) d_Model_sharedFirst_49 rfl rfl ?_
              refine r_icmp_ne 60 d_Model_sharedFirst_50 (by decide) (fun h_50 => ?_) (fun h_50 => ?_)
              · skip
                refine r_iinc d_Model_sharedFirst_60 rfl (nI_inc _) (Nat.le_of_ble_eq_true rfl) rfl ?_
                dsimp only [List.set]
                refine r_iinc d_Model_sharedFirst_63 rfl (nI_inc _) (Nat.le_of_ble_eq_true rfl) rfl ?_
                dsimp only [List.set]
                refine r_goto 4 d_Model_sharedFirst_66 (by decide) ?_
                have qa : ak j = j := (nI_eq (by have := (hA j (by omega)).1; omega) (by omega)).mp h_36
                have q2 : lf j ≠ -9 := of_decide_eq_false ((bI_f _).mp h_19)
                have q3 : tp j = false := (bI_f _).mp h_27
                have ql := occ_le (ak := ak) (f := ak j) n
                have q4 : 2 ≤ occ ak j n := by
                  rcases Nat.lt_or_ge (occ ak j n) 2 with q | q
                  · exact absurd (show nI (occ ak (ak j) n) ≤ nI 1 by rw [qa]; exact nI_le (by omega) (by omega)) h_45
                  · exact q
                have q : shQ n lf tp ak j = true := by simp [shQ, q2, q3, qa, q4]
                have qs := shl_len (n := n) (lf := lf) (tp := tp) (ak := ak) j
                have qc : (shl n lf tp ak j).length ≠ c := fun e => h_50 (by rw [e])
                have e : shl n lf tp ak (j + 1) = shl n lf tp ak j ++ [j] := by rw [shl, if_pos q]
                have e2 : (shl n lf tp ak (j + 1)).length = (shl n lf tp ak j).length + 1 := by rw [e, List.length_append]; rfl
                have := ih (j + 1) (by omega) (by rw [e2]; omega)
                rw [e2] at this
                exact this
              · skip
                refine r_iload_n (i := 1) d_Model_sharedFirst_53 rfl rfl ?_
                refine r_iconst 5 d_Model_sharedFirst_54 ic_5 ?_
                refine r_icmp_ge 60 d_Model_sharedFirst_55 (by decide) (fun h_55 => ?_) (fun h_55 => ?_)
                · skip
                  refine r_iinc d_Model_sharedFirst_60 rfl (nI_inc _) (Nat.le_of_ble_eq_true rfl) rfl ?_
                  dsimp only [List.set]
                  refine r_iinc d_Model_sharedFirst_63 rfl (nI_inc _) (Nat.le_of_ble_eq_true rfl) rfl ?_
                  dsimp only [List.set]
                  refine r_goto 4 d_Model_sharedFirst_66 (by decide) ?_
                  have qa : ak j = j := (nI_eq (by have := (hA j (by omega)).1; omega) (by omega)).mp h_36
                  have q2 : lf j ≠ -9 := of_decide_eq_false ((bI_f _).mp h_19)
                  have q3 : tp j = false := (bI_f _).mp h_27
                  have ql := occ_le (ak := ak) (f := ak j) n
                  have q4 : 2 ≤ occ ak j n := by
                    rcases Nat.lt_or_ge (occ ak j n) 2 with q | q
                    · exact absurd (show nI (occ ak (ak j) n) ≤ nI 1 by rw [qa]; exact nI_le (by omega) (by omega)) h_45
                    · exact q
                  have q : shQ n lf tp ak j = true := by simp [shQ, q2, q3, qa, q4]
                  have qs := shl_len (n := n) (lf := lf) (tp := tp) (ak := ak) j
                  have qc : 5 ≤ c := (nI_leI (by omega) hc).mp h_55
                  have e : shl n lf tp ak (j + 1) = shl n lf tp ak j ++ [j] := by rw [shl, if_pos q]
                  have e2 : (shl n lf tp ak (j + 1)).length = (shl n lf tp ak j).length + 1 := by rw [e, List.length_append]; rfl
                  have := ih (j + 1) (by omega) (by rw [e2]; omega)
                  rw [e2] at this
                  exact this
                · skip
                  refine r_iload_n (i := 3) d_Model_sharedFirst_58 rfl rfl ?_
                  refine r_iret rfl d_Model_sharedFirst_59 ?_
                  have qa : ak j = j := (nI_eq (by have := (hA j (by omega)).1; omega) (by omega)).mp h_36
                  have q2 : lf j ≠ -9 := of_decide_eq_false ((bI_f _).mp h_19)
                  have q3 : tp j = false := (bI_f _).mp h_27
                  have ql := occ_le (ak := ak) (f := ak j) n
                  have q4 : 2 ≤ occ ak j n := by
                    rcases Nat.lt_or_ge (occ ak j n) 2 with q | q
                    · exact absurd (show nI (occ ak (ak j) n) ≤ nI 1 by rw [qa]; exact nI_le (by omega) (by omega)) h_45
                    · exact q
                  have q : shQ n lf tp ak j = true := by simp [shQ, q2, q3, qa, q4]
                  have qs := shl_len (n := n) (lf := lf) (tp := tp) (ak := ak) j
                  have qc : (shl n lf tp ak j).length = c := (nI_eq (by omega) hc).mp h_50
                  have q5 : c < 5 := by
                    rcases Nat.lt_or_ge c 5 with q | q
                    · exact q
                    · exact absurd (show nI 5 ≤ nI c from nI_le q hc) h_55
                  refine ⟨?_, rfl⟩
                  have e : shl n lf tp ak (j + 1) = shl n lf tp ak j ++ [j] := by rw [shl, if_pos q]
                  obtain ⟨r, hr⟩ := shl_pre (n := n) (lf := lf) (tp := tp) (ak := ak) (j + 1) (n - (j + 1))
                  rw [show j + 1 + (n - (j + 1)) = n by omega, e] at hr
                  rw [sfA_some (x := j)]
                  rw [shL_get q5, hr, List.getElem?_append_left (by rw [List.length_append]; simp; omega), List.getElem?_append_right (by omega), qc, Nat.sub_self]
                  rfl

theorem c_Model_sharedFirst (hS : MS n le nu lf rt nm mc (M 3)) (hw : WF n le nu lf rt z) (hA : ∀ k, k < n → AKk le nu lf rt ak k) (ht : ∀ k, k < n → TPk le lf rt z tp k) {c : Nat} (hc : c < 2 ^ 31) : CF G LM m_Model_sharedFirst 3 [.ref (G.2.2 0), .int (nI c)] M (some (.int (sfA (shL n lf tp ak) c))) M := by
  refine CJ_of2 (n0 := 2) (by decide) rfl rfl ?_
  simp only [List.map_cons, List.map_nil, List.cons_append, List.nil_append, List.reduceReplicate]
  refine r_iconst 0 d_Model_sharedFirst_0 ic_0 ?_
  refine r_istore_n (i := 2) d_Model_sharedFirst_1 rfl (Nat.le_of_ble_eq_true rfl) rfl ?_
  dsimp only [List.set]
  refine r_iconst 0 d_Model_sharedFirst_2 ic_0 ?_
  refine r_istore_n (i := 3) d_Model_sharedFirst_3 rfl (Nat.le_of_ble_eq_true rfl) rfl ?_
  dsimp only [List.set]
  exact l_Model_sharedFirst hS hw hA ht hc n 0 (by omega) (by simp [shl])

theorem l_Model_sharedMany (hS : MS n le nu lf rt nm mc (M 3)) (hw : WF n le nu lf rt z) (hA : ∀ k, k < n → AKk le nu lf rt ak k) (ht : ∀ k, k < n → TPk le lf rt z tp k) : ∀ (d c : Nat), c + d = (shL n lf tp ak).length → RJ G LM m_Model_sharedMany 4 (fun v N => v = some (.int (nI (shL n lf tp ak).length)) ∧ N = M) 2 [some (.ref (G.2.2 0)), some (.int (nI c))] [] M := by
  have h5 := shL_len (n := n) (lf := lf) (tp := tp) (ak := ak)
  intro d
  induction d with
  | zero =>
    intro c hd
    simp only [Nat.add_zero] at hd
    refine r_aload_n (i := 0) d_Model_sharedMany_2 rfl rfl ?_
    refine r_iload_n (i := 1) d_Model_sharedMany_3 rfl rfl ?_
    refine r_V1 v_Model_sharedFirst w_1175 lm_0 (c_Model_sharedFirst hS hw hA ht (c := c) (by omega)) (Nat.le_of_ble_eq_true rfl) (Nat.le_of_ble_eq_true rfl) d_Model_sharedMany_4 ?_
    refine r_bipush (-9) d_Model_sharedMany_7 bp_m9 ?_
    refine r_icmp_eq 18 d_Model_sharedMany_9 (by decide) (fun _ => ?_) (fun h9 => absurd (sfA_none (by omega)) h9)
    refine r_iload_n (i := 1) d_Model_sharedMany_18 rfl rfl ?_
    refine r_iret rfl d_Model_sharedMany_19 ?_
    exact ⟨by rw [hd], rfl⟩
  | succ d ih =>
    intro c hd
    obtain ⟨x, hx⟩ : ∃ x, (shL n lf tp ak)[c]? = some x := ⟨_, List.getElem?_eq_getElem (by omega)⟩
    refine r_aload_n (i := 0) d_Model_sharedMany_2 rfl rfl ?_
    refine r_iload_n (i := 1) d_Model_sharedMany_3 rfl rfl ?_
    refine r_V1 v_Model_sharedFirst w_1175 lm_0 (c_Model_sharedFirst hS hw hA ht (c := c) (by omega)) (Nat.le_of_ble_eq_true rfl) (Nat.le_of_ble_eq_true rfl) d_Model_sharedMany_4 ?_
    refine r_bipush (-9) d_Model_sharedMany_7 bp_m9 ?_
    refine r_icmp_eq 18 d_Model_sharedMany_9 (by decide) (fun h_9 => ?_) (fun h_9 => ?_)
    · skip
      exact absurd h_9 (by rw [sfA_some hx]; exact nI_ne9 (by have := (shL_at hx).1; have := hw.1; omega))
    · skip
      refine r_iinc d_Model_sharedMany_12 rfl (nI_inc _) (Nat.le_of_ble_eq_true rfl) rfl ?_
      dsimp only [List.set]
      refine r_goto 2 d_Model_sharedMany_15 (by decide) ?_
      exact ih (c + 1) (by omega)

theorem c_Model_sharedMany (hS : MS n le nu lf rt nm mc (M 3)) (hw : WF n le nu lf rt z) (hA : ∀ k, k < n → AKk le nu lf rt ak k) (ht : ∀ k, k < n → TPk le lf rt z tp k) : CF G LM m_Model_sharedMany 4 [.ref (G.2.2 0)] M (some (.int (nI (shL n lf tp ak).length))) M := by
  refine CJ_of2 (n0 := 1) (by decide) rfl rfl ?_
  simp only [List.map_cons, List.map_nil, List.cons_append, List.nil_append, List.reduceReplicate]
  refine r_iconst 0 d_Model_sharedMany_0 ic_0 ?_
  refine r_istore_n (i := 1) d_Model_sharedMany_1 rfl (Nat.le_of_ble_eq_true rfl) rfl ?_
  dsimp only [List.set]
  exact l_Model_sharedMany hS hw hA ht _ 0 (Nat.zero_add _)

def shA (n : Nat) (ak : Nat → Nat) (l : List Nat) (c w : Int32) : Int32 := if isN 2 w && isN l.length c then (if w = 0 then nI (l[c.toNatClampNeg]?.getD 0) else nI (occ ak (l[c.toNatClampNeg]?.getD 0) n)) else -1
theorem isN_neg {n : Nat} {c : Int32} (h : c < 0) : isN n c = false := decide_eq_false (fun q => q.1 h)
theorem isN_big {n c : Nat} (h : n ≤ c) (hc : c < 2 ^ 31) : isN n (nI c) = false := decide_eq_false (fun q => q.2 (nI_le h hc))
theorem c_Model_shared (hS : MS n le nu lf rt nm mc (M 3)) (hw : WF n le nu lf rt z) (hA : ∀ k, k < n → AKk le nu lf rt ak k) (ht : ∀ k, k < n → TPk le lf rt z tp k) (c w : Int32) : CJ G LM m_Model_shared 4 [.ref (G.2.2 0), .int c, .int w] M (fun v N => v = some (.int (shA n ak (shL n lf tp ak) c w)) ∧ MF M N (M 0 12) (M 0 13)) := by
  have hn := hw.1
  have hS0 : MS n le nu lf rt nm mc (m0 M 3) := hS
  have h5 := shL_len (n := n) (lf := lf) (tp := tp) (ak := ak)
  refine CJ_of2 (n0 := 0) (by decide) rfl rfl ?_
  simp only [List.map_cons, List.map_nil, List.cons_append, List.nil_append, List.reduceReplicate]
  refine r_aload_n (i := 0) d_Model_shared_0 rfl rfl ?_
  refine r_iconst 0 d_Model_shared_1 ic_0 ?_
  refine r_puti nf_Model_75 nfin_Model_0 lm_0 rfl d_Model_shared_2 ?_
  refine r_iload_n (i := 2) d_Model_shared_5 rfl rfl ?_
  refine r_iconst 0 d_Model_shared_6 ic_0 ?_
  refine r_iconst 1 d_Model_shared_7 ic_1 ?_
  refine r_S3 f_Model_in w_942 (c_Model_in _ _ _ _ ) (Nat.le_of_ble_eq_true rfl) (Nat.le_of_ble_eq_true rfl) d_Model_shared_8 ?_
  refine r_if_eq 28 d_Model_shared_11 (by decide) (fun h_11 => ?_) (fun h_11 => ?_)
  · skip
    refine r_iconst (-1) d_Model_shared_28 ic_m1 ?_
    refine r_iret rfl d_Model_shared_29 ?_
    refine ⟨?_, MF.th M⟩
    first
      | (have q := (bI_f _).mp h_11
         rw [in1] at q
         rw [shA, q]; rfl)
      | (rw [shA, isN_neg h_15, Bool.and_false]; rfl)
      | (have q : (shL n lf tp ak).length ≤ cc := by
           rcases Nat.lt_or_ge cc (shL n lf tp ak).length with q | q
           · exact absurd ((sfA_some (List.getElem?_eq_getElem q)).symm.trans h_25) (nI_ne9 (by have := (shL_at (List.getElem?_eq_getElem q)).1; omega))
           · exact q
         rw [shA, isN_big q hcc, Bool.and_false]; rfl)
  · skip
    have r1 := (bI_t _).mp h_11
    rw [in1] at r1
    refine r_iload_n (i := 1) d_Model_shared_14 rfl rfl ?_
    refine r_if_lt 28 d_Model_shared_15 (by decide) (fun h_15 => ?_) (fun h_15 => ?_)
    · skip
      refine r_iconst (-1) d_Model_shared_28 ic_m1 ?_
      refine r_iret rfl d_Model_shared_29 ?_
      refine ⟨?_, MF.th M⟩
      first
        | (have q := (bI_f _).mp h_11
           rw [in1] at q
           rw [shA, q]; rfl)
        | (rw [shA, isN_neg h_15, Bool.and_false]; rfl)
        | (have q : (shL n lf tp ak).length ≤ cc := by
             rcases Nat.lt_or_ge cc (shL n lf tp ak).length with q | q
             · exact absurd ((sfA_some (List.getElem?_eq_getElem q)).symm.trans h_25) (nI_ne9 (by have := (shL_at (List.getElem?_eq_getElem q)).1; omega))
             · exact q
           rw [shA, isN_big q hcc, Bool.and_false]; rfl)
    · skip
      obtain ⟨cc, hcc, rfl⟩ := nI_of h_15
      refine r_aload_n (i := 0) d_Model_shared_18 rfl rfl ?_
      refine r_iload_n (i := 1) d_Model_shared_19 rfl rfl ?_
      refine r_V1 v_Model_sharedFirst w_1175 lm_0 (c_Model_sharedFirst (M := m0 M) hS0 hw hA ht (c := cc) hcc) (Nat.le_of_ble_eq_true rfl) (Nat.le_of_ble_eq_true rfl) d_Model_shared_20 ?_
      refine r_bipush (-9) d_Model_shared_23 bp_m9 ?_
      refine r_icmp_ne 30 d_Model_shared_25 (by decide) (fun h_25 => ?_) (fun h_25 => ?_)
      · skip
        obtain ⟨x, hx⟩ : ∃ x, (shL n lf tp ak)[cc]? = some x := by
          cases hq : (shL n lf tp ak)[cc]? with
          | none => exact absurd (by unfold sfA; rw [hq]) h_25
          | some x => exact ⟨x, rfl⟩
        have hxn := (shL_at hx).1
        have hcl := (List.getElem?_eq_some_iff.mp hx).1
        have hxa : ak x = x := by
          have := (shL_at hx).2
          simp only [shQ, Bool.and_eq_true, decide_eq_true_eq] at this
          exact this.1.2
        refine r_iload_n (i := 2) d_Model_shared_30 rfl rfl ?_
        refine r_if_ne 42 d_Model_shared_31 (by decide) (fun h_31 => ?_) (fun h_31 => ?_)
        · skip
          refine r_aload_n (i := 0) d_Model_shared_42 rfl rfl ?_
          refine r_aload_n (i := 0) d_Model_shared_43 rfl rfl ?_
          refine r_iload_n (i := 1) d_Model_shared_44 rfl rfl ?_
          refine r_V1 v_Model_sharedFirst w_1175 lm_0 (CF_eq (c_Model_sharedFirst (M := m0 M) hS0 hw hA ht (c := cc) hcc) (show _ = some (Value.int (nI x)) by rw [sfA_some hx]) rfl) (Nat.le_of_ble_eq_true rfl) (Nat.le_of_ble_eq_true rfl) d_Model_shared_45 ?_
          refine r_V1 v_Model_occurs w_1179 lm_0 (c_Model_occurs (M := m0 M) hS0 hw hA (k := x) hxn) (Nat.le_of_ble_eq_true rfl) (Nat.le_of_ble_eq_true rfl) d_Model_shared_48 ?_
          refine r_iret rfl d_Model_shared_51 ?_
          refine ⟨?_, MF.th M⟩
          rw [shA, r1, isN_nI hcl (by omega), nI_clamp hcc, hx]
          first
            | (rw [show w = 0 from h_31, sfA_some hx]; rfl)
            | (show some (Value.int (nI (occ ak (ak x) n))) = some (Value.int (if w = 0 then _ else nI (occ ak x n)))
               rw [if_neg h_31, hxa])
        · skip
          refine r_aload_n (i := 0) d_Model_shared_34 rfl rfl ?_
          refine r_iload_n (i := 1) d_Model_shared_35 rfl rfl ?_
          refine r_V1 v_Model_sharedFirst w_1175 lm_0 (c_Model_sharedFirst (M := m0 M) hS0 hw hA ht (c := cc) hcc) (Nat.le_of_ble_eq_true rfl) (Nat.le_of_ble_eq_true rfl) d_Model_shared_36 ?_
          refine r_goto 51 d_Model_shared_39 (by decide) ?_
          refine r_iret rfl d_Model_shared_51 ?_
          refine ⟨?_, MF.th M⟩
          rw [shA, r1, isN_nI hcl (by omega), nI_clamp hcc, hx]
          first
            | (rw [show w = 0 from h_31, sfA_some hx]; rfl)
            | (show some (Value.int (nI (occ ak (ak x) n))) = some (Value.int (if w = 0 then _ else nI (occ ak x n)))
               rw [if_neg h_31, hxa])
      · skip
        refine r_iconst (-1) d_Model_shared_28 ic_m1 ?_
        refine r_iret rfl d_Model_shared_29 ?_
        refine ⟨?_, MF.th M⟩
        first
          | (have q := (bI_f _).mp h_11
             rw [in1] at q
             rw [shA, q]; rfl)
          | (rw [shA, isN_neg h_15, Bool.and_false]; rfl)
          | (have q : (shL n lf tp ak).length ≤ cc := by
               rcases Nat.lt_or_ge cc (shL n lf tp ak).length with q | q
               · exact absurd ((sfA_some (List.getElem?_eq_getElem q)).symm.trans h_25) (nI_ne9 (by have := (shL_at (List.getElem?_eq_getElem q)).1; omega))
               · exact q
             rw [shA, isN_big q hcc, Bool.and_false]; rfl)

def ctA (n : Nat) (mc : Nat → Nat) (sl len ul : Nat) (w : Int32) : Int32 := if isN 9 w then (if w = 0 then nI n else if w < 6 then nI (mc (w.toNatClampNeg - 1)) else if w = 6 then nI sl else if w = 7 then nI len else nI ul) else -1
theorem c_Model_count (hP : MP len tx s l K ask trp M) (hs : MS n le nu lf rt nm mc s) (hw : WF n le nu lf rt z) (hA : ∀ k, k < n → AKk le nu lf rt ak k) (ht : ∀ k, k < n → TPk le lf rt z tp k) (w : Int32) : CJ G LM m_Model_count 5 [.ref (G.2.2 0), .int w] M (fun v N => v = some (.int (ctA n mc (shL n lf tp ak).length len l.length w)) ∧ MP len tx s l K ask trp N) := by
  have hn := hw.1
  have hS : MS n le nu lf rt nm mc (m0 M 3) := hP.ms hs hn
  refine CJ_of2 (n0 := 0) (by decide) rfl rfl ?_
  simp only [List.map_cons, List.map_nil, List.cons_append, List.nil_append, List.reduceReplicate]
  refine r_aload_n (i := 0) d_Model_count_0 rfl rfl ?_
  refine r_iconst 0 d_Model_count_1 ic_0 ?_
  refine r_puti nf_Model_75 nfin_Model_0 lm_0 rfl d_Model_count_2 ?_
  refine r_iload_n (i := 1) d_Model_count_5 rfl rfl ?_
  refine r_iconst 0 d_Model_count_6 ic_0 ?_
  refine r_bipush 8 d_Model_count_7 bp_8 ?_
  refine r_S3 f_Model_in w_942 (c_Model_in _ _ _ _ ) (Nat.le_of_ble_eq_true rfl) (Nat.le_of_ble_eq_true rfl) d_Model_count_9 ?_
  refine r_if_ne 17 d_Model_count_12 (by decide) (fun h_12 => ?_) (fun h_12 => ?_)
  · skip
    have r1 := (bI_t _).mp h_12
    rw [in8] at r1
    obtain ⟨q, hq, rfl⟩ := isN_ex r1 (by omega)
    refine r_iload_n (i := 1) d_Model_count_17 rfl rfl ?_
    refine r_bipush 6 d_Model_count_18 bp_6 ?_
    refine r_icmp_ge 49 d_Model_count_20 (by decide) (fun h_20 => ?_) (fun h_20 => ?_)
    · skip
      refine r_iload_n (i := 1) d_Model_count_49 rfl rfl ?_
      refine r_bipush 6 d_Model_count_50 bp_6 ?_
      refine r_icmp_ne 62 d_Model_count_52 (by decide) (fun h_52 => ?_) (fun h_52 => ?_)
      · skip
        refine r_iload_n (i := 1) d_Model_count_62 rfl rfl ?_
        refine r_bipush 7 d_Model_count_63 bp_7 ?_
        refine r_icmp_ne 75 d_Model_count_65 (by decide) (fun h_65 => ?_) (fun h_65 => ?_)
        · skip
          refine r_aload_n (i := 0) d_Model_count_75 rfl rfl ?_
          refine r_gx nf_Model_142 lm_0 rfl (hP.2.2.2.1) d_Model_count_76 ?_
          refine r_iret rfl d_Model_count_79 ?_
          refine ⟨?_, hP.th⟩
          have g6 : ¬ nI q < (6 : Int32) := Int32.not_lt.mpr h_20
          have g0 : ¬ nI q = 0 := fun e => g6 (by rw [e]; decide)
          rw [ctA, r1, if_pos rfl, if_neg g0, if_neg g6]
          first
            | rw [if_pos (show nI q = (6 : Int32) from h_52)]
            | rw [if_neg (show ¬ nI q = (6 : Int32) from h_52), if_pos (show nI q = (7 : Int32) from h_65)]
            | rw [if_neg (show ¬ nI q = (6 : Int32) from h_52), if_neg (show ¬ nI q = (7 : Int32) from h_65)]
        · skip
          refine r_aload_n (i := 0) d_Model_count_68 rfl rfl ?_
          refine r_gx nf_Model_82 lm_0 rfl (hP.1) d_Model_count_69 ?_
          refine r_goto 79 d_Model_count_72 (by decide) ?_
          refine r_iret rfl d_Model_count_79 ?_
          refine ⟨?_, hP.th⟩
          have g6 : ¬ nI q < (6 : Int32) := Int32.not_lt.mpr h_20
          have g0 : ¬ nI q = 0 := fun e => g6 (by rw [e]; decide)
          rw [ctA, r1, if_pos rfl, if_neg g0, if_neg g6]
          first
            | rw [if_pos (show nI q = (6 : Int32) from h_52)]
            | rw [if_neg (show ¬ nI q = (6 : Int32) from h_52), if_pos (show nI q = (7 : Int32) from h_65)]
            | rw [if_neg (show ¬ nI q = (6 : Int32) from h_52), if_neg (show ¬ nI q = (7 : Int32) from h_65)]
      · skip
        refine r_aload_n (i := 0) d_Model_count_55 rfl rfl ?_
        refine r_V0 v_Model_sharedMany w_1194 lm_0 (c_Model_sharedMany (M := m0 M) hS hw hA ht) (Nat.le_of_ble_eq_true rfl) (Nat.le_of_ble_eq_true rfl) d_Model_count_56 ?_
        refine r_goto 79 d_Model_count_59 (by decide) ?_
        refine r_iret rfl d_Model_count_79 ?_
        refine ⟨?_, hP.th⟩
        have g6 : ¬ nI q < (6 : Int32) := Int32.not_lt.mpr h_20
        have g0 : ¬ nI q = 0 := fun e => g6 (by rw [e]; decide)
        rw [ctA, r1, if_pos rfl, if_neg g0, if_neg g6]
        first
          | rw [if_pos (show nI q = (6 : Int32) from h_52)]
          | rw [if_neg (show ¬ nI q = (6 : Int32) from h_52), if_pos (show nI q = (7 : Int32) from h_65)]
          | rw [if_neg (show ¬ nI q = (6 : Int32) from h_52), if_neg (show ¬ nI q = (7 : Int32) from h_65)]
    · skip
      refine r_iload_n (i := 1) d_Model_count_23 rfl rfl ?_
      refine r_if_ne 36 d_Model_count_24 (by decide) (fun h_24 => ?_) (fun h_24 => ?_)
      · skip
        have q6 : q < 6 := (nI_ltI (a := q) (b := 6) (by omega) (by omega)).mp (Int32.not_le.mp h_20)
        have q0 : q ≠ 0 := fun e => h_24 (by rw [e]; rfl)
        refine r_aload_n (i := 0) d_Model_count_36 rfl rfl ?_
        refine r_getr nf_Model_16 lm_0 rfl d_Model_count_37 ?_
        refine r_sipush 133 d_Model_count_40 sp_133 ?_
        refine r_iload_n (i := 1) d_Model_count_43 rfl rfl ?_
        refine r_iaddN (a := 133) (b := q) d_Model_count_44 rfl rfl ?_
        refine r_iconst 1 d_Model_count_45 ic_1 ?_
        refine r_isubN (a := (133 + q)) (b := 1) d_Model_count_46 rfl rfl (by omega) ?_
        refine r_ia (q := ((133 + q) - 1)) lm_3 rfl (by omega) (by decide) ((show m0 M 3 (133 + q - 1) = nI (mc (q - 1)) by have := hS.gmc (j := q - 1) (by have := (nI_ltI (a := q) (b := 6) (by omega) (by omega)).mp (Int32.not_le.mp h_20); have : q ≠ 0 := (fun e => h_24 (by rw [e]; rfl)); omega); rw [show 133 + (q - 1) = 133 + q - 1 by have : q ≠ 0 := (fun e => h_24 (by rw [e]; rfl)); omega] at this; exact this)) d_Model_count_47 ?_
        refine r_iret rfl d_Model_count_48 ?_
        refine ⟨?_, hP.th⟩
        rw [ctA, r1, if_pos rfl]
        first
          | rw [if_pos h_24]
          | rw [if_neg h_24, if_pos (show nI q < (6 : Int32) from Int32.not_le.mp h_20), nI_clamp (by omega)]
      · skip
        refine r_aload_n (i := 0) d_Model_count_27 rfl rfl ?_
        refine r_getr nf_Model_16 lm_0 rfl d_Model_count_28 ?_
        refine r_iconst 0 d_Model_count_31 ic_0 ?_
        refine r_ia (q := 0) lm_3 rfl (by omega) (by decide) (hS.1) d_Model_count_32 ?_
        refine r_goto 48 d_Model_count_33 (by decide) ?_
        refine r_iret rfl d_Model_count_48 ?_
        refine ⟨?_, hP.th⟩
        rw [ctA, r1, if_pos rfl]
        first
          | rw [if_pos h_24]
          | rw [if_neg h_24, if_pos (show nI q < (6 : Int32) from Int32.not_le.mp h_20), nI_clamp (by omega)]
  · skip
    refine r_iconst (-1) d_Model_count_15 ic_m1 ?_
    refine r_iret rfl d_Model_count_16 ?_
    have q := (bI_f _).mp h_12
    rw [in8] at q
    exact ⟨by rw [ctA, q]; rfl, hP.th⟩

end MMs
