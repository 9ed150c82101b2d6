-- the model: value, node
section MM5
variable {G : nw_G} {L : nw_L} {n : Nat} {le nu lf rt nm : Nat → Int32} {mc z ak : Nat → Nat} {M : nw_M}
/-- what lasts of the model is as it was, but for what asked and trapped tell -/
def MF (M N : nw_M) (a t : Int32) : Prop := N 1 = M 1 ∧ N 3 = M 3 ∧ N 5 = M 5 ∧ N 6 = M 6 ∧ N 7 = M 7 ∧ N 0 2 = M 0 2 ∧ N 0 9 = M 0 9 ∧ N 0 12 = a ∧ N 0 13 = t
theorem MF.tr {M N N2 : nw_M} {a t b u : Int32} (h : MF M N a t) (h2 : MF N N2 b u) : MF M N2 b u := by
  obtain ⟨a1, a2, a3, a4, a5, a6, a7, a8, a9⟩ := h
  obtain ⟨b1, b2, b3, b4, b5, b6, b7, b8, b9⟩ := h2
  exact ⟨b1.trans a1, b2.trans a2, b3.trans a3, b4.trans a4, b5.trans a5, b6.trans a6, b7.trans a7, b8, b9⟩
theorem MF.rf (M : nw_M) : MF M M (M 0 12) (M 0 13) := ⟨rfl, rfl, rfl, rfl, rfl, rfl, rfl, rfl, rfl⟩
/-- scratch cells alone -/
theorem MF.sc {M N : nw_M} (h : ∀ e, e < 8 → e ≠ 2 → e ≠ 4 → N e = M e) : MF M N (M 0 12) (M 0 13) := ⟨h 1 (by decide) (by decide) (by decide), h 3 (by decide) (by decide) (by decide), h 5 (by decide) (by decide) (by decide), h 6 (by decide) (by decide) (by decide), h 7 (by decide) (by decide) (by decide), by rw [h 0 (by decide) (by decide) (by decide)], by rw [h 0 (by decide) (by decide) (by decide)], by rw [h 0 (by decide) (by decide) (by decide)], by rw [h 0 (by decide) (by decide) (by decide)]⟩
def m0 (M : nw_M) : nw_M := ms M 0 (upd (M 0) 0 0)
theorem MF.th (M : nw_M) : MF M (m0 M) (M 0 12) (M 0 13) := ⟨rfl, rfl, rfl, rfl, rfl, rfl, rfl, rfl, rfl⟩
theorem m0_3 (M : nw_M) {i : Nat} (h : i ≠ 0) : m0 M i = M i := ms_ne _ _ h
theorem in_isN {m : Nat} (w : Int32) (hm : m + 1 < 2 ^ 31) : decide (¬ w < 0 ∧ ¬ nI m < w) = isN (m + 1) w := by
  unfold isN
  congr 1
  have e1 := nI_toInt (n := m) (by omega)
  have e2 := nI_toInt (n := m + 1) (by omega)
  simp only [Int32.lt_iff_toInt_lt, Int32.le_iff_toInt_le, e1, e2]
  apply propext
  constructor
  · rintro ⟨a, b⟩; exact ⟨a, by omega⟩
  · rintro ⟨a, b⟩; exact ⟨a, by omega⟩
theorem long_int (x y : Int32) : (x.toInt64 + y.toInt64).toInt32.toInt64 = (x + y).toInt64 := by
  rw [Int64.toInt32_add, Int32.toInt32_toInt64, Int32.toInt32_toInt64]
theorem c_Model_traps (c x y : Int32) (M : nw_M) : CF G L m_Model_traps 0 [.int c, .int x, .int y] M (some (.int (bI (o_tb c x y)))) M := by
  refine CJ_of2 (n0 := 2) (by decide) rfl rfl ?_
  simp only [List.map_cons, List.map_nil, List.cons_append, List.nil_append, List.reduceReplicate]
  refine r_iload_n (i := 1) d_Model_traps_0 rfl rfl ?_
  refine r_i2l d_Model_traps_1 ?_
  refine r_iload_n (i := 2) d_Model_traps_2 rfl rfl ?_
  refine r_i2l d_Model_traps_3 ?_
  refine r_ladd d_Model_traps_4 ?_
  have K34 : (o_tb c x y = false) → RJ G L m_Model_traps 0 (fun v N' => v = some (.int (bI (o_tb c x y))) ∧ N' = M) 34 [some (.int c), some (.int x), some (.int y), none, none] [] M := by
    intro h
    refine r_iconst 0 d_Model_traps_34 ic_0 ?_
    exact r_zret rfl (by decide) d_Model_traps_35 ⟨by rw [h]; rfl, rfl⟩
  have K30 : (o_tb c x y = true) → RJ G L m_Model_traps 0 (fun v N' => v = some (.int (bI (o_tb c x y))) ∧ N' = M) 30 [some (.int c), some (.int x), some (.int y), none, none] [] M := by
    intro h
    refine r_iconst 1 d_Model_traps_30 ic_1 ?_
    refine r_goto 35 d_Model_traps_31 (by decide) ?_
    exact r_zret rfl (by decide) d_Model_traps_35 ⟨by rw [h]; rfl, rfl⟩
  have K24 : c = 35 → RJ G L m_Model_traps 0 (fun v N' => v = some (.int (bI (o_tb c x y))) ∧ N' = M) 24 [some (.int c), some (.int x), some (.int y), none, none] [.long (x.toInt64 + y.toInt64), .long (x.toInt64 + y.toInt64)] M := by
    intro hc
    refine r_l2i d_Model_traps_24 ?_
    refine r_i2l d_Model_traps_25 ?_
    refine r_lcmp d_Model_traps_26 ?_
    rw [long_int]
    refine r_if_eq 34 d_Model_traps_27 (by decide) (fun h => K34 ?_) (fun h => K30 ?_)
    · rw [lg_cmp_0] at h
      simp [o_tb, hc, h]
    · rw [lg_cmp_0] at h
      simp [o_tb, hc, h]
  intro p l e s m args below meth cc H locs ls C hn hP hS hl
  refine lv_lstore_n (i := 3) C.1 C.2.1 d_Model_traps_5 rfl (nl_lv hl) (Nat.le_of_ble_eq_true rfl) rfl (fun ls' h' => ?_)
  have hlg : ls'[3]? = some (.val (.long (x.toInt64 + y.toInt64))) := h'.2.2 _ List.mem_cons_self
  have hl' : nl_has ls' [some (.int c), some (.int x), some (.int y), none, none] := by
    refine ⟨h'.1, h'.2.1, fun i v hv => ?_⟩
    match i, hv with
    | 0, hv => cases hv; exact ⟨rfl, h'.2.2 (0, .int c) (by simp [nl_ps, List.range, List.range.loop, Value.category])⟩
    | 1, hv => cases hv; exact ⟨rfl, h'.2.2 (1, .int x) (by simp [nl_ps, List.range, List.range.loop, Value.category])⟩
    | 2, hv => cases hv; exact ⟨rfl, h'.2.2 (2, .int y) (by simp [nl_ps, List.range, List.range.loop, Value.category])⟩
    | 3, hv => cases hv
    | 4, hv => cases hv
    | i + 5, hv => simp at hv
  have K16 : (c ≠ 47 ∨ y ≠ 0) → W p l e (rmD 0) s m args below meth cc H locs 0 0 (MQ below (nw_Q G L (fun v N' => v = some (.int (bI (o_tb c x y))) ∧ N' = M) s.heap.size) args s 0 0 (nw_A G L s.heap.size)) (F0 m 16 ls' []) := by
    intro hcy
    refine lv_iload_n C.1 C.2.1 d_Model_traps_16 (i := 0) rfl (hl'.2.2 0 _ rfl).2 ?_
    refine lv_bipush C.1 C.2.1 d_Model_traps_17 bp_35 ?_
    refine lv_icmp_ne C.1 C.2.1 (tgt := 34) d_Model_traps_19 (by decide) (fun h => ?_) (fun h => ?_)
    · refine K34 ?_ p l e s m args below meth cc H locs ls' C rfl hP hS hl'
      unfold o_tb
      by_cases q : c = 47
      · rw [if_pos q]
        have : y ≠ 0 := hcy.resolve_left (fun z => z q)
        simpa using this
      · rw [if_neg q]; simp [h]
    · refine lv_lload_n C.1 C.2.1 d_Model_traps_22 (i := 3) rfl hlg ?_
      refine lv_lload_n C.1 C.2.1 d_Model_traps_23 (i := 3) rfl hlg ?_
      exact K24 h p l e s m args below meth cc H locs ls' C rfl hP hS hl'
  refine lv_iload_n C.1 C.2.1 d_Model_traps_6 (i := 0) rfl (hl'.2.2 0 _ rfl).2 ?_
  refine lv_bipush C.1 C.2.1 d_Model_traps_7 bp_47 ?_
  refine lv_icmp_ne C.1 C.2.1 (tgt := 16) d_Model_traps_9 (by decide) (fun h => K16 (Or.inl h)) (fun h => ?_)
  refine lv_iload_n C.1 C.2.1 d_Model_traps_12 (i := 2) rfl (hl'.2.2 2 _ rfl).2 ?_
  refine lv_if_eq C.1 C.2.1 (tgt := 30) d_Model_traps_13 (by decide) (fun h2 => ?_) (fun h2 => K16 (Or.inr h2))
  exact K30 (by simp [o_tb, h, h2]) p l e s m args below meth cc H locs ls' C rfl hP hS hl'
theorem c_Model_makesOf (c x y : Int32) (M : nw_M) (hc : o_op c = true) (hb : o_tb c x y = false) : CF G L m_Model_makesOf 0 [.int c, .int x, .int y] M (some (.int (o_out c x y))) M := by
  refine CJ_of (by decide) rfl (Nat.le_of_ble_eq_true rfl) ?_
  refine r_iload_n (i := 0) d_Model_makesOf_0 rfl rfl ?_
  refine r_bipush 43 d_Model_makesOf_1 bp_43 ?_
  refine r_icmp_eq 12 d_Model_makesOf_3 (by decide) (fun h_3 => ?_) (fun h_3 => ?_)
  · skip
    refine r_iload_n (i := 1) d_Model_makesOf_12 rfl rfl ?_
    refine r_iload_n (i := 2) d_Model_makesOf_13 rfl rfl ?_
    refine r_iadd d_Model_makesOf_14 ?_
    refine r_goto 56 d_Model_makesOf_15 (by decide) ?_
    refine r_iret rfl d_Model_makesOf_56 ?_
    refine ⟨?_, rfl⟩
    congr 2
    unfold o_out
    first
      | (rw [h_3]; rfl)
      | (rw [h_9]; rfl)
      | (rw [h_21]; rfl)
      | (rw [h_33]; rfl)
      | (rw [h_45]; rw [if_neg (by decide), if_neg (by decide), if_neg (by decide), if_pos rfl, if_neg (by rintro rfl; simp [o_tb, h_45] at hb)])
      | (have : c = 126 := by simp_all [o_op, o_bin, o_sum, o_prod]
         rw [this]; rfl)
  · skip
    refine r_iload_n (i := 0) d_Model_makesOf_6 rfl rfl ?_
    refine r_bipush 35 d_Model_makesOf_7 bp_35 ?_
    refine r_icmp_ne 18 d_Model_makesOf_9 (by decide) (fun h_9 => ?_) (fun h_9 => ?_)
    · skip
      refine r_iload_n (i := 0) d_Model_makesOf_18 rfl rfl ?_
      refine r_bipush 45 d_Model_makesOf_19 bp_45 ?_
      refine r_icmp_ne 30 d_Model_makesOf_21 (by decide) (fun h_21 => ?_) (fun h_21 => ?_)
      · skip
        refine r_iload_n (i := 0) d_Model_makesOf_30 rfl rfl ?_
        refine r_bipush 42 d_Model_makesOf_31 bp_42 ?_
        refine r_icmp_ne 42 d_Model_makesOf_33 (by decide) (fun h_33 => ?_) (fun h_33 => ?_)
        · skip
          refine r_iload_n (i := 0) d_Model_makesOf_42 rfl rfl ?_
          refine r_bipush 47 d_Model_makesOf_43 bp_47 ?_
          refine r_icmp_ne 54 d_Model_makesOf_45 (by decide) (fun h_45 => ?_) (fun h_45 => ?_)
          · skip
            refine r_iload_n (i := 1) d_Model_makesOf_54 rfl rfl ?_
            refine r_ineg d_Model_makesOf_55 ?_
            refine r_iret rfl d_Model_makesOf_56 ?_
            refine ⟨?_, rfl⟩
            congr 2
            unfold o_out
            first
              | (rw [h_3]; rfl)
              | (rw [h_9]; rfl)
              | (rw [h_21]; rfl)
              | (rw [h_33]; rfl)
              | (rw [h_45]; rw [if_neg (by decide), if_neg (by decide), if_neg (by decide), if_pos rfl, if_neg (by rintro rfl; simp [o_tb, h_45] at hb)])
              | (have : c = 126 := by simp_all [o_op, o_bin, o_sum, o_prod]
                 rw [this]; rfl)
          · skip
            refine r_iload_n (i := 1) d_Model_makesOf_48 rfl rfl ?_
            refine r_iload_n (i := 2) d_Model_makesOf_49 rfl rfl ?_
            refine r_idiv d_Model_makesOf_50 (by rintro rfl; simp [o_tb, h_45] at hb) ?_
            refine r_goto 56 d_Model_makesOf_51 (by decide) ?_
            refine r_iret rfl d_Model_makesOf_56 ?_
            refine ⟨?_, rfl⟩
            congr 2
            unfold o_out
            first
              | (rw [h_3]; rfl)
              | (rw [h_9]; rfl)
              | (rw [h_21]; rfl)
              | (rw [h_33]; rfl)
              | (rw [h_45]; rw [if_neg (by decide), if_neg (by decide), if_neg (by decide), if_pos rfl, if_neg (by rintro rfl; simp [o_tb, h_45] at hb)])
              | (have : c = 126 := by simp_all [o_op, o_bin, o_sum, o_prod]
                 rw [this]; rfl)
        · skip
          refine r_iload_n (i := 1) d_Model_makesOf_36 rfl rfl ?_
          refine r_iload_n (i := 2) d_Model_makesOf_37 rfl rfl ?_
          refine r_imul d_Model_makesOf_38 ?_
          refine r_goto 56 d_Model_makesOf_39 (by decide) ?_
          refine r_iret rfl d_Model_makesOf_56 ?_
          refine ⟨?_, rfl⟩
          congr 2
          unfold o_out
          first
            | (rw [h_3]; rfl)
            | (rw [h_9]; rfl)
            | (rw [h_21]; rfl)
            | (rw [h_33]; rfl)
            | (rw [h_45]; rw [if_neg (by decide), if_neg (by decide), if_neg (by decide), if_pos rfl, if_neg (by rintro rfl; simp [o_tb, h_45] at hb)])
            | (have : c = 126 := by simp_all [o_op, o_bin, o_sum, o_prod]
               rw [this]; rfl)
      · skip
        refine r_iload_n (i := 1) d_Model_makesOf_24 rfl rfl ?_
        refine r_iload_n (i := 2) d_Model_makesOf_25 rfl rfl ?_
        refine r_isub d_Model_makesOf_26 ?_
        refine r_goto 56 d_Model_makesOf_27 (by decide) ?_
        refine r_iret rfl d_Model_makesOf_56 ?_
        refine ⟨?_, rfl⟩
        congr 2
        unfold o_out
        first
          | (rw [h_3]; rfl)
          | (rw [h_9]; rfl)
          | (rw [h_21]; rfl)
          | (rw [h_33]; rfl)
          | (rw [h_45]; rw [if_neg (by decide), if_neg (by decide), if_neg (by decide), if_pos rfl, if_neg (by rintro rfl; simp [o_tb, h_45] at hb)])
          | (have : c = 126 := by simp_all [o_op, o_bin, o_sum, o_prod]
             rw [this]; rfl)
    · skip
      refine r_iload_n (i := 1) d_Model_makesOf_12 rfl rfl ?_
      refine r_iload_n (i := 2) d_Model_makesOf_13 rfl rfl ?_
      refine r_iadd d_Model_makesOf_14 ?_
      refine r_goto 56 d_Model_makesOf_15 (by decide) ?_
      refine r_iret rfl d_Model_makesOf_56 ?_
      refine ⟨?_, rfl⟩
      congr 2
      unfold o_out
      first
        | (rw [h_3]; rfl)
        | (rw [h_9]; rfl)
        | (rw [h_21]; rfl)
        | (rw [h_33]; rfl)
        | (rw [h_45]; rw [if_neg (by decide), if_neg (by decide), if_neg (by decide), if_pos rfl, if_neg (by rintro rfl; simp [o_tb, h_45] at hb)])
        | (have : c = 126 := by simp_all [o_op, o_bin, o_sum, o_prod]
           rw [this]; rfl)

theorem c_Model_leafValue (hS : MS n le nu lf rt nm mc (M 3)) (hw : WF n le nu lf rt z) {k : Nat} (hk : k < n) (hl : lf k = -9) : CF G LM m_Model_leafValue 0 [.ref (G.2.2 0), .int (nI k)] M (some (.int (if le k = 48 then nu k else nm (nu k).toNatClampNeg))) M := by
  have hn := hw.1
  have lk := (hw.leaf_rt hk hl).2.2
  refine CJ_of (by decide) rfl (Nat.le_of_ble_eq_true rfl) ?_
  refine r_aload_n (i := 0) d_Model_leafValue_0 rfl rfl ?_
  refine r_getr nf_Model_16 lm_0 rfl d_Model_leafValue_1 ?_
  refine r_iconst 1 d_Model_leafValue_4 ic_1 ?_
  refine r_iload_n (i := 1) d_Model_leafValue_5 rfl rfl ?_
  refine r_iaddN (a := 1) (b := k) d_Model_leafValue_6 rfl rfl ?_
  refine r_ia (q := (1 + k)) lm_3 rfl (by omega) (by decide) ((hS.gle (j := k) (by omega))) d_Model_leafValue_7 ?_
  refine r_bipush 48 d_Model_leafValue_8 bp_48 ?_
  refine r_icmp_ne 25 d_Model_leafValue_10 (by decide) (fun h_10 => ?_) (fun h_10 => ?_)
  · skip
    obtain ⟨q, hq, -, hq2⟩ := lk.resolve_left (fun x => h_10 x.1)
    refine r_aload_n (i := 0) d_Model_leafValue_25 rfl rfl ?_
    refine r_getr nf_Model_16 lm_0 rfl d_Model_leafValue_26 ?_
    refine r_bipush 125 d_Model_leafValue_29 bp_125 ?_
    refine r_aload_n (i := 0) d_Model_leafValue_31 rfl rfl ?_
    refine r_getr nf_Model_16 lm_0 rfl d_Model_leafValue_32 ?_
    refine r_bipush 32 d_Model_leafValue_35 bp_32 ?_
    refine r_iload_n (i := 1) d_Model_leafValue_37 rfl rfl ?_
    refine r_iaddN (a := 32) (b := k) d_Model_leafValue_38 rfl rfl ?_
    refine r_ia (q := (32 + k)) lm_3 rfl (by omega) (by decide) ((hS.gnu (j := k) (by omega)).trans hq2) d_Model_leafValue_39 ?_
    refine r_iaddN (a := 125) (b := q) d_Model_leafValue_40 rfl rfl ?_
    refine r_ia (q := (125 + q)) lm_3 rfl (by omega) (by decide) ((hS.gnm (j := q) (by omega))) d_Model_leafValue_41 ?_
    refine r_iret rfl d_Model_leafValue_42 ?_
    exact ⟨by rw [if_neg h_10, hq2, nI_clamp (by omega)], rfl⟩
  · skip
    refine r_aload_n (i := 0) d_Model_leafValue_13 rfl rfl ?_
    refine r_getr nf_Model_16 lm_0 rfl d_Model_leafValue_14 ?_
    refine r_bipush 32 d_Model_leafValue_17 bp_32 ?_
    refine r_iload_n (i := 1) d_Model_leafValue_19 rfl rfl ?_
    refine r_iaddN (a := 32) (b := k) d_Model_leafValue_20 rfl rfl ?_
    refine r_ia (q := (32 + k)) lm_3 rfl (by omega) (by decide) ((hS.gnu (j := k) (by omega))) d_Model_leafValue_21 ?_
    refine r_goto 42 d_Model_leafValue_22 (by decide) ?_
    refine r_iret rfl d_Model_leafValue_42 ?_
    exact ⟨by rw [if_pos h_10], rfl⟩

set_option maxHeartbeats 1000000 in
theorem l_Model_value (hS : MS n le nu lf rt nm mc (M 3)) (hw : WF n le nu lf rt z) {k f0 : Nat} (hk : k < n) (ef : f0 + z k = k + 1) {P : Option Value → nw_M → Prop} (hP : ∀ v N, ((∃ w, evs le nu lf rt nm f0 (M 14) (z k) = .inl w ∧ v = some (.int 1) ∧ MF M N (w k) (M 0 13)) ∨ ∃ t, evs le nu lf rt nm f0 (M 14) (z k) = .inr t ∧ v = some (.int (-4)) ∧ MF M N (M 0 12) (nI t)) → P v N) : ∀ (d m : Nat) (o3 o4 o5 : Option Value) (N : nw_M), m + d = z k → (∀ e, e ≠ 14 → N e = M e) → evs le nu lf rt nm f0 (M 14) m = .inl (N 14) → RJ G LM m_Model_value 2 P 25 [some (.ref (G.2.2 0)), some (.int (nI k)), some (.int (nI (f0 + m))), o3, o4, o5] [] N := by
  have hn := hw.1
  intro d
  induction d with
  | zero =>
    intro m o3 o4 o5 N hm hF hE
    simp only [Nat.add_zero] at hm
    subst hm
    refine r_iload_n (i := 2) d_Model_value_25 rfl rfl ?_
    refine r_iload_n (i := 1) d_Model_value_26 rfl rfl ?_
    refine r_icmp_gt 142 d_Model_value_27 (by decide) (fun _ => ?_) (fun h9 => absurd (nI_lt (by omega) (by omega)) h9)
    refine r_aload_n (i := 0) d_Model_value_142 rfl rfl ?_
    refine r_aload_n (i := 0) d_Model_value_143 rfl rfl ?_
    refine r_getr nf_Model_50 lm_0 rfl d_Model_value_144 ?_
    refine r_iload_n (i := 1) d_Model_value_147 rfl rfl ?_
    refine r_ia (q := k) lm_14 rfl (by omega) (by decide) (rfl) d_Model_value_148 ?_
    refine r_puti nf_Model_194 nfin_Model_12 lm_0 rfl d_Model_value_149 ?_
    refine r_iconst 1 d_Model_value_152 ic_1 ?_
    refine r_iret rfl d_Model_value_153 ?_
    refine hP _ _ (Or.inl ⟨N 14, hE, rfl, ?_⟩)
    have f := fun e h => hF e h
    exact ⟨f 1 (by decide), f 3 (by decide), f 5 (by decide), f 6 (by decide), f 7 (by decide), congrFun (f 0 (by decide)) 2, congrFun (f 0 (by decide)) 9, rfl, congrFun (f 0 (by decide)) 13⟩
  | succ d ih =>
    intro m o3 o4 o5 N hm hF hE
    have hS2 : MS n le nu lf rt nm mc (N 3) := by rw [hF 3 (by decide)]; exact hS
    have hj : f0 + m < n := by omega
    refine r_iload_n (i := 2) d_Model_value_25 rfl rfl ?_
    refine r_iload_n (i := 1) d_Model_value_26 rfl rfl ?_
    refine r_icmp_gt 142 d_Model_value_27 (by decide) (fun h_27 => ?_) (fun h_27 => ?_)
    · skip
      exact absurd h_27 (Int32.not_lt.mpr (nI_le (by omega) (by omega)))
    · skip
      refine r_aload_n (i := 0) d_Model_value_30 rfl rfl ?_
      refine r_iload_n (i := 2) d_Model_value_31 rfl rfl ?_
      refine r_V1 v_Model_isLeaf w_1019 lm_0 (c_Model_isLeaf hS2 hw hj) (Nat.le_of_ble_eq_true rfl) (Nat.le_of_ble_eq_true rfl) d_Model_value_32 ?_
      refine r_if_eq 52 d_Model_value_35 (by decide) (fun h_35 => ?_) (fun h_35 => ?_)
      · skip
        have hl := of_decide_eq_false ((bI_f _).mp h_35)
        obtain ⟨Lc, hL1, hL2, -⟩ := ev_child hw hj hl
        refine r_aload_n (i := 0) d_Model_value_52 rfl rfl ?_
        refine r_getr nf_Model_16 lm_0 rfl d_Model_value_53 ?_
        refine r_iconst 1 d_Model_value_56 ic_1 ?_
        refine r_iload_n (i := 2) d_Model_value_57 rfl rfl ?_
        refine r_iaddN (a := 1) (b := (f0 + m)) d_Model_value_58 rfl rfl ?_
        refine r_ia (q := (1 + (f0 + m))) lm_3 rfl (by omega) (by decide) ((hS2.gle (j := (f0 + m)) (by omega))) d_Model_value_59 ?_
        refine r_istore_n (i := 3) d_Model_value_60 rfl (Nat.le_of_ble_eq_true rfl) rfl ?_
        dsimp only [List.set]
        refine r_aload_n (i := 0) d_Model_value_61 rfl rfl ?_
        refine r_getr nf_Model_50 lm_0 rfl d_Model_value_62 ?_
        refine r_aload_n (i := 0) d_Model_value_65 rfl rfl ?_
        refine r_getr nf_Model_16 lm_0 rfl d_Model_value_66 ?_
        refine r_bipush 63 d_Model_value_69 bp_63 ?_
        refine r_iload_n (i := 2) d_Model_value_71 rfl rfl ?_
        refine r_iaddN (a := 63) (b := (f0 + m)) d_Model_value_72 rfl rfl ?_
        refine r_ia (q := (63 + (f0 + m))) lm_3 rfl (by omega) (by decide) ((hS2.glf (j := f0 + m) hj).trans hL2) d_Model_value_73 ?_
        refine r_ia (q := Lc) lm_14 rfl (by omega) (by decide) (rfl) d_Model_value_74 ?_
        refine r_istore d_Model_value_75 (Nat.le_of_ble_eq_true rfl) rfl ?_
        dsimp only [List.set]
        refine r_iload_n (i := 3) d_Model_value_77 rfl rfl ?_
        refine r_bipush 126 d_Model_value_78 bp_126 ?_
        refine r_icmp_ne 87 d_Model_value_80 (by decide) (fun h_80 => ?_) (fun h_80 => ?_)
        · skip
          have hr := not126 hw hj h_80 hl
          have pr := hw.pair hj hr
          refine r_aload_n (i := 0) d_Model_value_87 rfl rfl ?_
          refine r_getr nf_Model_50 lm_0 rfl d_Model_value_88 ?_
          refine r_aload_n (i := 0) d_Model_value_91 rfl rfl ?_
          refine r_getr nf_Model_16 lm_0 rfl d_Model_value_92 ?_
          refine r_bipush 94 d_Model_value_95 bp_94 ?_
          refine r_iload_n (i := 2) d_Model_value_97 rfl rfl ?_
          refine r_iaddN (a := 94) (b := (f0 + m)) d_Model_value_98 rfl rfl ?_
          refine r_ia (q := (94 + (f0 + m))) lm_3 rfl (by omega) (by decide) ((hS2.grt (j := f0 + m) hj).trans pr.2.2.2.1) d_Model_value_99 ?_
          refine r_ia (q := (f0 + m - 1)) lm_14 rfl (by omega) (by decide) (rfl) d_Model_value_100 ?_
          refine r_istore d_Model_value_101 (Nat.le_of_ble_eq_true rfl) rfl ?_
          dsimp only [List.set]
          refine r_iload_n (i := 3) d_Model_value_103 rfl rfl ?_
          refine r_iload d_Model_value_104 rfl ?_
          refine r_iload d_Model_value_106 rfl ?_
          refine r_S3 f_Model_traps w_1060 (c_Model_traps _ _ _ _) (Nat.le_of_ble_eq_true rfl) (Nat.le_of_ble_eq_true rfl) d_Model_value_108 ?_
          refine r_if_eq 122 d_Model_value_111 (by decide) (fun h_111 => ?_) (fun h_111 => ?_)
          · skip
            refine r_aload_n (i := 0) d_Model_value_122 rfl rfl ?_
            refine r_getr nf_Model_50 lm_0 rfl d_Model_value_123 ?_
            refine r_iload_n (i := 2) d_Model_value_126 rfl rfl ?_
            refine r_iload_n (i := 3) d_Model_value_127 rfl rfl ?_
            refine r_iload d_Model_value_128 rfl ?_
            refine r_iload d_Model_value_130 rfl ?_
            refine r_S3 f_Model_makesOf w_1063 (c_Model_makesOf _ _ _ _ (by rw [o_op_lf hw hj]; exact decide_eq_true hl) ((bI_f _).mp h_111)) (Nat.le_of_ble_eq_true rfl) (Nat.le_of_ble_eq_true rfl) d_Model_value_132 ?_
            refine r_ias (q := (f0 + m)) lm_14 rfl (by omega) (by decide) d_Model_value_135 ?_
            refine r_iinc d_Model_value_136 rfl (nI_inc _) (Nat.le_of_ble_eq_true rfl) rfl ?_
            dsimp only [List.set]
            refine r_goto 25 d_Model_value_139 (by decide) ?_
            refine ih (m + 1) _ _ _ _ (by omega) (fun e e1 => ?_) ?_
            · rw [ms_ne _ _ e1]; exact hF e e1
            · simp only [evs, hE]
              rw [ms_same]
              unfold vsp
              rw [if_neg hl, hL2, nI_clamp (by omega), if_neg hr, pr.2.2.2.1, nI_clamp (by omega), if_neg (fun x => by rw [(bI_f _).mp h_111] at x; cases x)]
          · skip
            refine r_aload_n (i := 0) d_Model_value_114 rfl rfl ?_
            refine r_iload_n (i := 2) d_Model_value_115 rfl rfl ?_
            refine r_puti nf_Model_71 nfin_Model_13 lm_0 rfl d_Model_value_116 ?_
            refine r_bipush (-4) d_Model_value_119 bp_m4 ?_
            refine r_iret rfl d_Model_value_121 ?_
            refine hP _ _ (Or.inr ⟨f0 + m, ?_, rfl, ?_⟩)
            · have := evs_stuck (le := le) (nu := nu) (lf := lf) (rt := rt) (nm := nm) (f0 := f0) (v0 := M 14) (m := m + 1) (t := f0 + m) (by
                simp only [evs, hE]
                unfold vsp
                rw [if_neg hl, hL2, nI_clamp (by omega)]
                first
                  | (rw [if_pos hr, if_pos ((bI_t _).mp h_111)])
                  | (rw [if_neg hr, pr.2.2.2.1, nI_clamp (by omega), if_pos ((bI_t _).mp h_111)])) d
              rwa [show m + 1 + d = z k by omega] at this
            · have f := fun e h => hF e h
              exact ⟨f 1 (by decide), f 3 (by decide), f 5 (by decide), f 6 (by decide), f 7 (by decide), congrFun (f 0 (by decide)) 2, congrFun (f 0 (by decide)) 9, congrFun (f 0 (by decide)) 12, rfl⟩
        · skip
          have hr := (leaf_le hw hj h_80).2
          refine r_iconst 0 d_Model_value_83 ic_0 ?_
          refine r_goto 101 d_Model_value_84 (by decide) ?_
          refine r_istore d_Model_value_101 (Nat.le_of_ble_eq_true rfl) rfl ?_
          dsimp only [List.set]
          refine r_iload_n (i := 3) d_Model_value_103 rfl rfl ?_
          refine r_iload d_Model_value_104 rfl ?_
          refine r_iload d_Model_value_106 rfl ?_
          refine r_S3 f_Model_traps w_1060 (c_Model_traps _ _ _ _) (Nat.le_of_ble_eq_true rfl) (Nat.le_of_ble_eq_true rfl) d_Model_value_108 ?_
          refine r_if_eq 122 d_Model_value_111 (by decide) (fun h_111 => ?_) (fun h_111 => ?_)
          · skip
            refine r_aload_n (i := 0) d_Model_value_122 rfl rfl ?_
            refine r_getr nf_Model_50 lm_0 rfl d_Model_value_123 ?_
            refine r_iload_n (i := 2) d_Model_value_126 rfl rfl ?_
            refine r_iload_n (i := 3) d_Model_value_127 rfl rfl ?_
            refine r_iload d_Model_value_128 rfl ?_
            refine r_iload d_Model_value_130 rfl ?_
            refine r_S3 f_Model_makesOf w_1063 (c_Model_makesOf _ _ _ _ (by rw [o_op_lf hw hj]; exact decide_eq_true hl) ((bI_f _).mp h_111)) (Nat.le_of_ble_eq_true rfl) (Nat.le_of_ble_eq_true rfl) d_Model_value_132 ?_
            refine r_ias (q := (f0 + m)) lm_14 rfl (by omega) (by decide) d_Model_value_135 ?_
            refine r_iinc d_Model_value_136 rfl (nI_inc _) (Nat.le_of_ble_eq_true rfl) rfl ?_
            dsimp only [List.set]
            refine r_goto 25 d_Model_value_139 (by decide) ?_
            refine ih (m + 1) _ _ _ _ (by omega) (fun e e1 => ?_) ?_
            · rw [ms_ne _ _ e1]; exact hF e e1
            · simp only [evs, hE]
              rw [ms_same]
              unfold vsp
              rw [if_neg hl, hL2, nI_clamp (by omega), if_pos hr, if_neg (fun x => by rw [(bI_f _).mp h_111] at x; cases x)]
          · skip
            refine r_aload_n (i := 0) d_Model_value_114 rfl rfl ?_
            refine r_iload_n (i := 2) d_Model_value_115 rfl rfl ?_
            refine r_puti nf_Model_71 nfin_Model_13 lm_0 rfl d_Model_value_116 ?_
            refine r_bipush (-4) d_Model_value_119 bp_m4 ?_
            refine r_iret rfl d_Model_value_121 ?_
            refine hP _ _ (Or.inr ⟨f0 + m, ?_, rfl, ?_⟩)
            · have := evs_stuck (le := le) (nu := nu) (lf := lf) (rt := rt) (nm := nm) (f0 := f0) (v0 := M 14) (m := m + 1) (t := f0 + m) (by
                simp only [evs, hE]
                unfold vsp
                rw [if_neg hl, hL2, nI_clamp (by omega)]
                first
                  | (rw [if_pos hr, if_pos ((bI_t _).mp h_111)])
                  | (rw [if_neg hr, pr.2.2.2.1, nI_clamp (by omega), if_pos ((bI_t _).mp h_111)])) d
              rwa [show m + 1 + d = z k by omega] at this
            · have f := fun e h => hF e h
              exact ⟨f 1 (by decide), f 3 (by decide), f 5 (by decide), f 6 (by decide), f 7 (by decide), congrFun (f 0 (by decide)) 2, congrFun (f 0 (by decide)) 9, congrFun (f 0 (by decide)) 12, rfl⟩
      · skip
        have hl := of_decide_eq_true ((bI_t _).mp h_35)
        refine r_aload_n (i := 0) d_Model_value_38 rfl rfl ?_
        refine r_getr nf_Model_50 lm_0 rfl d_Model_value_39 ?_
        refine r_iload_n (i := 2) d_Model_value_42 rfl rfl ?_
        refine r_aload_n (i := 0) d_Model_value_43 rfl rfl ?_
        refine r_iload_n (i := 2) d_Model_value_44 rfl rfl ?_
        refine r_V1 v_Model_leafValue w_1056 lm_0 (c_Model_leafValue hS2 hw hj hl) (Nat.le_of_ble_eq_true rfl) (Nat.le_of_ble_eq_true rfl) d_Model_value_45 ?_
        refine r_ias (q := (f0 + m)) lm_14 rfl (by omega) (by decide) d_Model_value_48 ?_
        refine r_goto 136 d_Model_value_49 (by decide) ?_
        refine r_iinc d_Model_value_136 rfl (nI_inc _) (Nat.le_of_ble_eq_true rfl) rfl ?_
        dsimp only [List.set]
        refine r_goto 25 d_Model_value_139 (by decide) ?_
        refine ih (m + 1) _ _ _ _ (by omega) (fun e e1 => ?_) ?_
        · rw [ms_ne _ _ e1]; exact hF e e1
        · simp only [evs, hE]
          rw [ms_same]
          unfold vsp
          rw [if_pos hl]

/-- what value answers, keeps: by the numbers below the NODE -/
def VA (le nu lf rt nm : Nat → Int32) (z : Nat → Nat) (k : Nat) (v0 : Nat → Int32) (M N : nw_M) (v : Option Value) : Prop := (∃ w, evs le nu lf rt nm (k + 1 - z k) v0 (z k) = .inl w ∧ v = some (.int 1) ∧ MF M N (w k) (M 0 13)) ∨ ∃ t, evs le nu lf rt nm (k + 1 - z k) v0 (z k) = .inr t ∧ v = some (.int (-4)) ∧ MF M N (M 0 12) (nI t)
theorem c_Model_value (hS : MS n le nu lf rt nm mc (M 3)) (hw : WF n le nu lf rt z) (k : Int32) : CJ G LM m_Model_value 2 [.ref (G.2.2 0), .int k] M (fun v N => (isN n k = false ∧ v = some (.int (-1)) ∧ MF M N (M 0 12) (M 0 13)) ∨ ∃ j, j < n ∧ k = nI j ∧ VA le nu lf rt nm z j (M 14) M N v) := by
  refine CJ_of2 (n0 := 4) (by decide) rfl rfl ?_
  simp only [List.map_cons, List.map_nil, List.cons_append, List.nil_append, List.reduceReplicate]
  refine r_aload_n (i := 0) d_Model_value_0 rfl rfl ?_
  refine r_iconst 0 d_Model_value_1 ic_0 ?_
  refine r_puti nf_Model_75 nfin_Model_0 lm_0 rfl d_Model_value_2 ?_
  refine r_aload_n (i := 0) d_Model_value_5 rfl rfl ?_
  refine r_iload_n (i := 1) d_Model_value_6 rfl rfl ?_
  refine r_V1 v_Model_isNode w_1007 lm_0 (c_Model_isNode (M := m0 M) (n := n) hS hw.1 k) (Nat.le_of_ble_eq_true rfl) (Nat.le_of_ble_eq_true rfl) d_Model_value_7 ?_
  refine r_if_ne 15 d_Model_value_10 (by decide) (fun h_10 => ?_) (fun h_10 => ?_)
  · skip
    obtain ⟨j, hj, rfl⟩ := isN_ex ((bI_t _).mp h_10) (by have := hw.1; omega)
    have zb := hw.zb j hj
    refine r_iload_n (i := 1) d_Model_value_15 rfl rfl ?_
    refine r_aload_n (i := 0) d_Model_value_16 rfl rfl ?_
    refine r_iload_n (i := 1) d_Model_value_17 rfl rfl ?_
    refine r_V1 v_Model_sizeOf w_1040 lm_0 (c_Model_sizeOf (M := m0 M) hS hw hj) (Nat.le_of_ble_eq_true rfl) (Nat.le_of_ble_eq_true rfl) d_Model_value_18 ?_
    refine r_isub d_Model_value_21 ?_
    refine r_iconst 1 d_Model_value_22 ic_1 ?_
    refine r_iadd d_Model_value_23 ?_
    rw [nI_sub1 (by omega)]
    refine r_istore_n (i := 2) d_Model_value_24 rfl (Nat.le_of_ble_eq_true rfl) rfl ?_
    dsimp only [List.set]
    refine l_Model_value (M := m0 M) (f0 := j + 1 - z j) hS hw hj (by omega) (fun v N h => Or.inr ⟨j, hj, rfl, ?_⟩) (z j) 0 _ _ _ _ (by omega) (fun _ _ => rfl) rfl
    rcases h with ⟨w, h1, h2, h3⟩ | ⟨t, h1, h2, h3⟩
    · exact Or.inl ⟨w, h1, h2, (MF.th M).tr h3⟩
    · exact Or.inr ⟨t, h1, h2, (MF.th M).tr h3⟩
  · skip
    refine r_iconst (-1) d_Model_value_13 ic_m1 ?_
    refine r_iret rfl d_Model_value_14 ?_
    exact Or.inl ⟨(bI_f _).mp h_10, rfl, MF.th M⟩

/-- what node answers -/
def ndA (n : Nat) (le nu lf rt : Nat → Int32) (z : Nat → Nat) (tp : Nat → Bool) (nd ld ak : Nat → Nat) (k : Nat) (w : Int32) : Int32 :=
  if w = 0 then le k else if w = 1 then nu k else if w = 2 then lf k else if w = 3 then rt k else if w = 4 then nI (nv lf rt nd n k) else if w = 5 then nI (nv lf rt ld n k) else if w = 6 then bI (tp k) else if w = 7 then nI (z k) else if w = 8 then nI (ak k) else -1
theorem ndA_bad {le nu lf rt : Nat → Int32} {z : Nat → Nat} {tp : Nat → Bool} {nd ld ak : Nat → Nat} {k : Nat} {w : Int32} (h : isN 9 w = false) : ndA n le nu lf rt z tp nd ld ak k w = -1 := by
  unfold ndA
  rw [if_neg (by rintro rfl; exact absurd h (by decide)), if_neg (by rintro rfl; exact absurd h (by decide)), if_neg (by rintro rfl; exact absurd h (by decide)), if_neg (by rintro rfl; exact absurd h (by decide)), if_neg (by rintro rfl; exact absurd h (by decide)), if_neg (by rintro rfl; exact absurd h (by decide)), if_neg (by rintro rfl; exact absurd h (by decide)), if_neg (by rintro rfl; exact absurd h (by decide)), if_neg (by rintro rfl; exact absurd h (by decide))]
theorem nine {q : Nat} (h : q < 9) : q = 0 ∨ q = 1 ∨ q = 2 ∨ q = 3 ∨ q = 4 ∨ q = 5 ∨ q = 6 ∨ q = 7 ∨ q = 8 := by omega
set_option maxHeartbeats 2000000 in
theorem c_Model_node (hS : MS n le nu lf rt nm mc (M 3)) {tp : Nat → Bool} {nd ld : Nat → Nat} (hg : GH n le nu lf rt z tp nd ld ak) (k w : Int32) : CJ G LM m_Model_node 4 [.ref (G.2.2 0), .int k, .int w] M (fun v N => (isN n k = false ∧ v = some (.int (-1)) ∧ MF M N (M 0 12) (M 0 13)) ∨ ∃ j, j < n ∧ k = nI j ∧ v = some (.int (ndA n le nu lf rt z tp nd ld ak j w)) ∧ MF M N (M 0 12) (M 0 13)) := by
  have hw := hg.1
  have hn := hw.1
  refine CJ_of2 (n0 := 0) (by decide) rfl rfl ?_
  simp only [List.map_cons, List.map_nil, List.cons_append, List.nil_append, List.reduceReplicate]
  refine r_aload_n (i := 0) d_Model_node_0 rfl rfl ?_
  refine r_iconst 0 d_Model_node_1 ic_0 ?_
  refine r_puti nf_Model_75 nfin_Model_0 lm_0 rfl d_Model_node_2 ?_
  refine r_aload_n (i := 0) d_Model_node_5 rfl rfl ?_
  refine r_iload_n (i := 1) d_Model_node_6 rfl rfl ?_
  refine r_V1 v_Model_isNode w_1007 lm_0 (c_Model_isNode (M := m0 M) (n := n) hS hn k) (Nat.le_of_ble_eq_true rfl) (Nat.le_of_ble_eq_true rfl) d_Model_node_7 ?_
  refine r_if_eq 23 d_Model_node_10 (by decide) (fun h_10 => ?_) (fun h_10 => ?_)
  · skip
    refine r_iconst (-1) d_Model_node_23 ic_m1 ?_
    refine r_iret rfl d_Model_node_24 ?_
    first
      | (have q := (bI_f _).mp h_20
         have q2 := in_isN (m := 8) w (by decide)
         rw [show nI 8 = (8 : Int32) from rfl, q] at q2
         exact Or.inr ⟨j, hj, rfl, by rw [ndA_bad q2.symm], MF.th M⟩)
      | exact Or.inl ⟨(bI_f _).mp h_10, rfl, MF.th M⟩
  · skip
    obtain ⟨j, hj, rfl⟩ := isN_ex ((bI_t _).mp h_10) (by omega)
    refine r_iload_n (i := 2) d_Model_node_13 rfl rfl ?_
    refine r_iconst 0 d_Model_node_14 ic_0 ?_
    refine r_bipush 8 d_Model_node_15 bp_8 ?_
    refine r_S3 f_Model_in w_942 (c_Model_in _ _ _ _ ) (Nat.le_of_ble_eq_true rfl) (Nat.le_of_ble_eq_true rfl) d_Model_node_17 ?_
    refine r_if_ne 25 d_Model_node_20 (by decide) (fun h_20 => ?_) (fun h_20 => ?_)
    · skip
      have q := (bI_t _).mp h_20
      have q2 := in_isN (m := 8) w (by decide)
      rw [show nI 8 = (8 : Int32) from rfl, q] at q2
      obtain ⟨q, hq, rfl⟩ := isN_ex q2.symm (by decide)
      have hS3 : MS n le nu lf rt nm mc (m0 M 3) := hS
      refine r_iload_n (i := 2) d_Model_node_25 rfl rfl ?_
      refine r_iconst 4 d_Model_node_26 ic_4 ?_
      refine r_icmp_ge 89 d_Model_node_27 (by decide) (fun h_27 => ?_) (fun h_27 => ?_)
      · skip
        refine r_iload_n (i := 2) d_Model_node_89 rfl rfl ?_
        refine r_bipush 6 d_Model_node_90 bp_6 ?_
        refine r_icmp_ge 111 d_Model_node_92 (by decide) (fun h_92 => ?_) (fun h_92 => ?_)
        · skip
          refine r_iload_n (i := 2) d_Model_node_111 rfl rfl ?_
          refine r_bipush 6 d_Model_node_112 bp_6 ?_
          refine r_icmp_ne 133 d_Model_node_114 (by decide) (fun h_114 => ?_) (fun h_114 => ?_)
          · skip
            refine r_iload_n (i := 2) d_Model_node_133 rfl rfl ?_
            refine r_bipush 7 d_Model_node_134 bp_7 ?_
            refine r_icmp_ne 147 d_Model_node_136 (by decide) (fun h_136 => ?_) (fun h_136 => ?_)
            · skip
              refine r_aload_n (i := 0) d_Model_node_147 rfl rfl ?_
              refine r_iload_n (i := 1) d_Model_node_148 rfl rfl ?_
              refine r_V1 v_Model_lowestAlike w_1044 lm_0 (c_Model_lowestAlike hS3 hw (fun i hi => (hg.2 i hi).2.2.2) hj) (Nat.le_of_ble_eq_true rfl) (Nat.le_of_ble_eq_true rfl) d_Model_node_149 ?_
              refine r_iret rfl d_Model_node_152 ?_
              first
                | (rcases nine hq with rfl | rfl | rfl | rfl | rfl | rfl | rfl | rfl | rfl <;> first
                     | exact absurd h_27 (by decide)
                     | exact absurd h_31 (by decide)
                     | exact absurd h_47 (by decide)
                     | exact absurd h_64 (by decide)
                     | exact absurd h_92 (by decide)
                     | exact absurd h_114 (by decide)
                     | exact absurd h_136 (by decide)
                     | exact absurd h_99 (by decide)
                     | exact Or.inr ⟨j, hj, rfl, rfl, MF.th M⟩)
                | (rcases nine hq with rfl | rfl | rfl | rfl | rfl | rfl | rfl | rfl | rfl <;> first
                     | exact absurd h_27 (by decide)
                     | exact absurd h_31 (by decide)
                     | exact absurd h_47 (by decide)
                     | exact absurd h_64 (by decide)
                     | exact absurd h_92 (by decide)
                     | exact absurd h_114 (by decide)
                     | exact absurd h_136 (by decide)
                     | exact absurd h_99 (by decide)
                     | exact Or.inr ⟨j, hj, rfl, rfl, (MF.th M).tr (MF.sc (fun e h1 h2 h4 => hv e (by omega)))⟩)
                | (rcases nine hq with rfl | rfl | rfl | rfl | rfl | rfl | rfl | rfl | rfl <;> first
                     | exact absurd h_27 (by decide)
                     | exact absurd h_31 (by decide)
                     | exact absurd h_47 (by decide)
                     | exact absurd h_64 (by decide)
                     | exact absurd h_92 (by decide)
                     | exact absurd h_114 (by decide)
                     | exact absurd h_136 (by decide)
                     | exact absurd h_99 (by decide)
                     | exact Or.inr ⟨j, hj, rfl, by rw [show ndA n le nu lf rt z tp nd ld ak j (nI 6) = bI (tp j) from rfl, (bI_t _).mp h_122]; rfl, MF.th M⟩)
                | (rcases nine hq with rfl | rfl | rfl | rfl | rfl | rfl | rfl | rfl | rfl <;> first
                     | exact absurd h_27 (by decide)
                     | exact absurd h_31 (by decide)
                     | exact absurd h_47 (by decide)
                     | exact absurd h_64 (by decide)
                     | exact absurd h_92 (by decide)
                     | exact absurd h_114 (by decide)
                     | exact absurd h_136 (by decide)
                     | exact absurd h_99 (by decide)
                     | exact Or.inr ⟨j, hj, rfl, by rw [show ndA n le nu lf rt z tp nd ld ak j (nI 6) = bI (tp j) from rfl, (bI_f _).mp h_122]; rfl, MF.th M⟩)
            · skip
              refine r_aload_n (i := 0) d_Model_node_139 rfl rfl ?_
              refine r_iload_n (i := 1) d_Model_node_140 rfl rfl ?_
              refine r_V1 v_Model_sizeOf w_1040 lm_0 (c_Model_sizeOf hS3 hw hj) (Nat.le_of_ble_eq_true rfl) (Nat.le_of_ble_eq_true rfl) d_Model_node_141 ?_
              refine r_goto 152 d_Model_node_144 (by decide) ?_
              refine r_iret rfl d_Model_node_152 ?_
              first
                | (rcases nine hq with rfl | rfl | rfl | rfl | rfl | rfl | rfl | rfl | rfl <;> first
                     | exact absurd h_27 (by decide)
                     | exact absurd h_31 (by decide)
                     | exact absurd h_47 (by decide)
                     | exact absurd h_64 (by decide)
                     | exact absurd h_92 (by decide)
                     | exact absurd h_114 (by decide)
                     | exact absurd h_136 (by decide)
                     | exact absurd h_99 (by decide)
                     | exact Or.inr ⟨j, hj, rfl, rfl, MF.th M⟩)
                | (rcases nine hq with rfl | rfl | rfl | rfl | rfl | rfl | rfl | rfl | rfl <;> first
                     | exact absurd h_27 (by decide)
                     | exact absurd h_31 (by decide)
                     | exact absurd h_47 (by decide)
                     | exact absurd h_64 (by decide)
                     | exact absurd h_92 (by decide)
                     | exact absurd h_114 (by decide)
                     | exact absurd h_136 (by decide)
                     | exact absurd h_99 (by decide)
                     | exact Or.inr ⟨j, hj, rfl, rfl, (MF.th M).tr (MF.sc (fun e h1 h2 h4 => hv e (by omega)))⟩)
                | (rcases nine hq with rfl | rfl | rfl | rfl | rfl | rfl | rfl | rfl | rfl <;> first
                     | exact absurd h_27 (by decide)
                     | exact absurd h_31 (by decide)
                     | exact absurd h_47 (by decide)
                     | exact absurd h_64 (by decide)
                     | exact absurd h_92 (by decide)
                     | exact absurd h_114 (by decide)
                     | exact absurd h_136 (by decide)
                     | exact absurd h_99 (by decide)
                     | exact Or.inr ⟨j, hj, rfl, by rw [show ndA n le nu lf rt z tp nd ld ak j (nI 6) = bI (tp j) from rfl, (bI_t _).mp h_122]; rfl, MF.th M⟩)
                | (rcases nine hq with rfl | rfl | rfl | rfl | rfl | rfl | rfl | rfl | rfl <;> first
                     | exact absurd h_27 (by decide)
                     | exact absurd h_31 (by decide)
                     | exact absurd h_47 (by decide)
                     | exact absurd h_64 (by decide)
                     | exact absurd h_92 (by decide)
                     | exact absurd h_114 (by decide)
                     | exact absurd h_136 (by decide)
                     | exact absurd h_99 (by decide)
                     | exact Or.inr ⟨j, hj, rfl, by rw [show ndA n le nu lf rt z tp nd ld ak j (nI 6) = bI (tp j) from rfl, (bI_f _).mp h_122]; rfl, MF.th M⟩)
          · skip
            refine r_aload_n (i := 0) d_Model_node_117 rfl rfl ?_
            refine r_iload_n (i := 1) d_Model_node_118 rfl rfl ?_
            refine r_V1 v_Model_mayTrap w_1036 lm_0 (c_Model_mayTrap hS3 hw (fun i hi => (hg.2 i hi).1) hj) (Nat.le_of_ble_eq_true rfl) (Nat.le_of_ble_eq_true rfl) d_Model_node_119 ?_
            refine r_if_eq 129 d_Model_node_122 (by decide) (fun h_122 => ?_) (fun h_122 => ?_)
            · skip
              refine r_iconst 0 d_Model_node_129 ic_0 ?_
              refine r_goto 152 d_Model_node_130 (by decide) ?_
              refine r_iret rfl d_Model_node_152 ?_
              first
                | (rcases nine hq with rfl | rfl | rfl | rfl | rfl | rfl | rfl | rfl | rfl <;> first
                     | exact absurd h_27 (by decide)
                     | exact absurd h_31 (by decide)
                     | exact absurd h_47 (by decide)
                     | exact absurd h_64 (by decide)
                     | exact absurd h_92 (by decide)
                     | exact absurd h_114 (by decide)
                     | exact absurd h_136 (by decide)
                     | exact absurd h_99 (by decide)
                     | exact Or.inr ⟨j, hj, rfl, rfl, MF.th M⟩)
                | (rcases nine hq with rfl | rfl | rfl | rfl | rfl | rfl | rfl | rfl | rfl <;> first
                     | exact absurd h_27 (by decide)
                     | exact absurd h_31 (by decide)
                     | exact absurd h_47 (by decide)
                     | exact absurd h_64 (by decide)
                     | exact absurd h_92 (by decide)
                     | exact absurd h_114 (by decide)
                     | exact absurd h_136 (by decide)
                     | exact absurd h_99 (by decide)
                     | exact Or.inr ⟨j, hj, rfl, rfl, (MF.th M).tr (MF.sc (fun e h1 h2 h4 => hv e (by omega)))⟩)
                | (rcases nine hq with rfl | rfl | rfl | rfl | rfl | rfl | rfl | rfl | rfl <;> first
                     | exact absurd h_27 (by decide)
                     | exact absurd h_31 (by decide)
                     | exact absurd h_47 (by decide)
                     | exact absurd h_64 (by decide)
                     | exact absurd h_92 (by decide)
                     | exact absurd h_114 (by decide)
                     | exact absurd h_136 (by decide)
                     | exact absurd h_99 (by decide)
                     | exact Or.inr ⟨j, hj, rfl, by rw [show ndA n le nu lf rt z tp nd ld ak j (nI 6) = bI (tp j) from rfl, (bI_t _).mp h_122]; rfl, MF.th M⟩)
                | (rcases nine hq with rfl | rfl | rfl | rfl | rfl | rfl | rfl | rfl | rfl <;> first
                     | exact absurd h_27 (by decide)
                     | exact absurd h_31 (by decide)
                     | exact absurd h_47 (by decide)
                     | exact absurd h_64 (by decide)
                     | exact absurd h_92 (by decide)
                     | exact absurd h_114 (by decide)
                     | exact absurd h_136 (by decide)
                     | exact absurd h_99 (by decide)
                     | exact Or.inr ⟨j, hj, rfl, by rw [show ndA n le nu lf rt z tp nd ld ak j (nI 6) = bI (tp j) from rfl, (bI_f _).mp h_122]; rfl, MF.th M⟩)
            · skip
              refine r_iconst 1 d_Model_node_125 ic_1 ?_
              refine r_goto 152 d_Model_node_126 (by decide) ?_
              refine r_iret rfl d_Model_node_152 ?_
              first
                | (rcases nine hq with rfl | rfl | rfl | rfl | rfl | rfl | rfl | rfl | rfl <;> first
                     | exact absurd h_27 (by decide)
                     | exact absurd h_31 (by decide)
                     | exact absurd h_47 (by decide)
                     | exact absurd h_64 (by decide)
                     | exact absurd h_92 (by decide)
                     | exact absurd h_114 (by decide)
                     | exact absurd h_136 (by decide)
                     | exact absurd h_99 (by decide)
                     | exact Or.inr ⟨j, hj, rfl, rfl, MF.th M⟩)
                | (rcases nine hq with rfl | rfl | rfl | rfl | rfl | rfl | rfl | rfl | rfl <;> first
                     | exact absurd h_27 (by decide)
                     | exact absurd h_31 (by decide)
                     | exact absurd h_47 (by decide)
                     | exact absurd h_64 (by decide)
                     | exact absurd h_92 (by decide)
                     | exact absurd h_114 (by decide)
                     | exact absurd h_136 (by decide)
                     | exact absurd h_99 (by decide)
                     | exact Or.inr ⟨j, hj, rfl, rfl, (MF.th M).tr (MF.sc (fun e h1 h2 h4 => hv e (by omega)))⟩)
                | (rcases nine hq with rfl | rfl | rfl | rfl | rfl | rfl | rfl | rfl | rfl <;> first
                     | exact absurd h_27 (by decide)
                     | exact absurd h_31 (by decide)
                     | exact absurd h_47 (by decide)
                     | exact absurd h_64 (by decide)
                     | exact absurd h_92 (by decide)
                     | exact absurd h_114 (by decide)
                     | exact absurd h_136 (by decide)
                     | exact absurd h_99 (by decide)
                     | exact Or.inr ⟨j, hj, rfl, by rw [show ndA n le nu lf rt z tp nd ld ak j (nI 6) = bI (tp j) from rfl, (bI_t _).mp h_122]; rfl, MF.th M⟩)
                | (rcases nine hq with rfl | rfl | rfl | rfl | rfl | rfl | rfl | rfl | rfl <;> first
                     | exact absurd h_27 (by decide)
                     | exact absurd h_31 (by decide)
                     | exact absurd h_47 (by decide)
                     | exact absurd h_64 (by decide)
                     | exact absurd h_92 (by decide)
                     | exact absurd h_114 (by decide)
                     | exact absurd h_136 (by decide)
                     | exact absurd h_99 (by decide)
                     | exact Or.inr ⟨j, hj, rfl, by rw [show ndA n le nu lf rt z tp nd ld ak j (nI 6) = bI (tp j) from rfl, (bI_f _).mp h_122]; rfl, MF.th M⟩)
        · skip
          refine r_aload_n (i := 0) d_Model_node_95 rfl rfl ?_
          refine r_iload_n (i := 1) d_Model_node_96 rfl rfl ?_
          refine r_iload_n (i := 2) d_Model_node_97 rfl rfl ?_
          refine r_iconst 5 d_Model_node_98 ic_5 ?_
          refine r_icmp_ne 106 d_Model_node_99 (by decide) (fun h_99 => ?_) (fun h_99 => ?_)
          · skip
            refine r_iconst 0 d_Model_node_106 ic_0 ?_
            refine r_W2 v_Model_needOf w_1011 lm_0 (c_Model_needOf hS3 hw hj false (fun i hi => by unfold FNk; exact (hg.2 i hi).2.1) (fun i hi => ⟨(hg.b2 hi).1, (hg.b2 hi).2.2.1⟩)) (Nat.le_of_ble_eq_true rfl) (Nat.le_of_ble_eq_true rfl) d_Model_node_107 (fun v N hv => ?_)
            obtain ⟨rfl, hv⟩ := hv
            refine r_iret rfl d_Model_node_110 ?_
            first
              | (rcases nine hq with rfl | rfl | rfl | rfl | rfl | rfl | rfl | rfl | rfl <;> first
                   | exact absurd h_27 (by decide)
                   | exact absurd h_31 (by decide)
                   | exact absurd h_47 (by decide)
                   | exact absurd h_64 (by decide)
                   | exact absurd h_92 (by decide)
                   | exact absurd h_114 (by decide)
                   | exact absurd h_136 (by decide)
                   | exact absurd h_99 (by decide)
                   | exact Or.inr ⟨j, hj, rfl, rfl, MF.th M⟩)
              | (rcases nine hq with rfl | rfl | rfl | rfl | rfl | rfl | rfl | rfl | rfl <;> first
                   | exact absurd h_27 (by decide)
                   | exact absurd h_31 (by decide)
                   | exact absurd h_47 (by decide)
                   | exact absurd h_64 (by decide)
                   | exact absurd h_92 (by decide)
                   | exact absurd h_114 (by decide)
                   | exact absurd h_136 (by decide)
                   | exact absurd h_99 (by decide)
                   | exact Or.inr ⟨j, hj, rfl, rfl, (MF.th M).tr (MF.sc (fun e h1 h2 h4 => hv e (by omega)))⟩)
              | (rcases nine hq with rfl | rfl | rfl | rfl | rfl | rfl | rfl | rfl | rfl <;> first
                   | exact absurd h_27 (by decide)
                   | exact absurd h_31 (by decide)
                   | exact absurd h_47 (by decide)
                   | exact absurd h_64 (by decide)
                   | exact absurd h_92 (by decide)
                   | exact absurd h_114 (by decide)
                   | exact absurd h_136 (by decide)
                   | exact absurd h_99 (by decide)
                   | exact Or.inr ⟨j, hj, rfl, by rw [show ndA n le nu lf rt z tp nd ld ak j (nI 6) = bI (tp j) from rfl, (bI_t _).mp h_122]; rfl, MF.th M⟩)
              | (rcases nine hq with rfl | rfl | rfl | rfl | rfl | rfl | rfl | rfl | rfl <;> first
                   | exact absurd h_27 (by decide)
                   | exact absurd h_31 (by decide)
                   | exact absurd h_47 (by decide)
                   | exact absurd h_64 (by decide)
                   | exact absurd h_92 (by decide)
                   | exact absurd h_114 (by decide)
                   | exact absurd h_136 (by decide)
                   | exact absurd h_99 (by decide)
                   | exact Or.inr ⟨j, hj, rfl, by rw [show ndA n le nu lf rt z tp nd ld ak j (nI 6) = bI (tp j) from rfl, (bI_f _).mp h_122]; rfl, MF.th M⟩)
          · skip
            refine r_iconst 1 d_Model_node_102 ic_1 ?_
            refine r_goto 107 d_Model_node_103 (by decide) ?_
            refine r_W2 v_Model_needOf w_1011 lm_0 (c_Model_needOf hS3 hw hj true (fun i hi => by unfold FNk; exact (hg.2 i hi).2.2.1) (fun i hi => ⟨(hg.b2 hi).2.1, (hg.b2 hi).2.2.2⟩)) (Nat.le_of_ble_eq_true rfl) (Nat.le_of_ble_eq_true rfl) d_Model_node_107 (fun v N hv => ?_)
            obtain ⟨rfl, hv⟩ := hv
            refine r_iret rfl d_Model_node_110 ?_
            first
              | (rcases nine hq with rfl | rfl | rfl | rfl | rfl | rfl | rfl | rfl | rfl <;> first
                   | exact absurd h_27 (by decide)
                   | exact absurd h_31 (by decide)
                   | exact absurd h_47 (by decide)
                   | exact absurd h_64 (by decide)
                   | exact absurd h_92 (by decide)
                   | exact absurd h_114 (by decide)
                   | exact absurd h_136 (by decide)
                   | exact absurd h_99 (by decide)
                   | exact Or.inr ⟨j, hj, rfl, rfl, MF.th M⟩)
              | (rcases nine hq with rfl | rfl | rfl | rfl | rfl | rfl | rfl | rfl | rfl <;> first
                   | exact absurd h_27 (by decide)
                   | exact absurd h_31 (by decide)
                   | exact absurd h_47 (by decide)
                   | exact absurd h_64 (by decide)
                   | exact absurd h_92 (by decide)
                   | exact absurd h_114 (by decide)
                   | exact absurd h_136 (by decide)
                   | exact absurd h_99 (by decide)
                   | exact Or.inr ⟨j, hj, rfl, rfl, (MF.th M).tr (MF.sc (fun e h1 h2 h4 => hv e (by omega)))⟩)
              | (rcases nine hq with rfl | rfl | rfl | rfl | rfl | rfl | rfl | rfl | rfl <;> first
                   | exact absurd h_27 (by decide)
                   | exact absurd h_31 (by decide)
                   | exact absurd h_47 (by decide)
                   | exact absurd h_64 (by decide)
                   | exact absurd h_92 (by decide)
                   | exact absurd h_114 (by decide)
                   | exact absurd h_136 (by decide)
                   | exact absurd h_99 (by decide)
                   | exact Or.inr ⟨j, hj, rfl, by rw [show ndA n le nu lf rt z tp nd ld ak j (nI 6) = bI (tp j) from rfl, (bI_t _).mp h_122]; rfl, MF.th M⟩)
              | (rcases nine hq with rfl | rfl | rfl | rfl | rfl | rfl | rfl | rfl | rfl <;> first
                   | exact absurd h_27 (by decide)
                   | exact absurd h_31 (by decide)
                   | exact absurd h_47 (by decide)
                   | exact absurd h_64 (by decide)
                   | exact absurd h_92 (by decide)
                   | exact absurd h_114 (by decide)
                   | exact absurd h_136 (by decide)
                   | exact absurd h_99 (by decide)
                   | exact Or.inr ⟨j, hj, rfl, by rw [show ndA n le nu lf rt z tp nd ld ak j (nI 6) = bI (tp j) from rfl, (bI_f _).mp h_122]; rfl, MF.th M⟩)
      · skip
        refine r_iload_n (i := 2) d_Model_node_30 rfl rfl ?_
        refine r_if_ne 45 d_Model_node_31 (by decide) (fun h_31 => ?_) (fun h_31 => ?_)
        · skip
          refine r_iload_n (i := 2) d_Model_node_45 rfl rfl ?_
          refine r_iconst 1 d_Model_node_46 ic_1 ?_
          refine r_icmp_ne 62 d_Model_node_47 (by decide) (fun h_47 => ?_) (fun h_47 => ?_)
          · skip
            refine r_iload_n (i := 2) d_Model_node_62 rfl rfl ?_
            refine r_iconst 2 d_Model_node_63 ic_2 ?_
            refine r_icmp_ne 79 d_Model_node_64 (by decide) (fun h_64 => ?_) (fun h_64 => ?_)
            · skip
              refine r_aload_n (i := 0) d_Model_node_79 rfl rfl ?_
              refine r_getr nf_Model_16 lm_0 rfl d_Model_node_80 ?_
              refine r_bipush 94 d_Model_node_83 bp_94 ?_
              refine r_iload_n (i := 1) d_Model_node_85 rfl rfl ?_
              refine r_iaddN (a := 94) (b := j) d_Model_node_86 rfl rfl ?_
              refine r_ia (q := (94 + j)) lm_3 rfl (by omega) (by decide) ((hS3.grt (j := j) (by omega))) d_Model_node_87 ?_
              refine r_iret rfl d_Model_node_88 ?_
              first
                | (rcases nine hq with rfl | rfl | rfl | rfl | rfl | rfl | rfl | rfl | rfl <;> first
                     | exact absurd h_27 (by decide)
                     | exact absurd h_31 (by decide)
                     | exact absurd h_47 (by decide)
                     | exact absurd h_64 (by decide)
                     | exact absurd h_92 (by decide)
                     | exact absurd h_114 (by decide)
                     | exact absurd h_136 (by decide)
                     | exact absurd h_99 (by decide)
                     | exact Or.inr ⟨j, hj, rfl, rfl, MF.th M⟩)
                | (rcases nine hq with rfl | rfl | rfl | rfl | rfl | rfl | rfl | rfl | rfl <;> first
                     | exact absurd h_27 (by decide)
                     | exact absurd h_31 (by decide)
                     | exact absurd h_47 (by decide)
                     | exact absurd h_64 (by decide)
                     | exact absurd h_92 (by decide)
                     | exact absurd h_114 (by decide)
                     | exact absurd h_136 (by decide)
                     | exact absurd h_99 (by decide)
                     | exact Or.inr ⟨j, hj, rfl, rfl, (MF.th M).tr (MF.sc (fun e h1 h2 h4 => hv e (by omega)))⟩)
                | (rcases nine hq with rfl | rfl | rfl | rfl | rfl | rfl | rfl | rfl | rfl <;> first
                     | exact absurd h_27 (by decide)
                     | exact absurd h_31 (by decide)
                     | exact absurd h_47 (by decide)
                     | exact absurd h_64 (by decide)
                     | exact absurd h_92 (by decide)
                     | exact absurd h_114 (by decide)
                     | exact absurd h_136 (by decide)
                     | exact absurd h_99 (by decide)
                     | exact Or.inr ⟨j, hj, rfl, by rw [show ndA n le nu lf rt z tp nd ld ak j (nI 6) = bI (tp j) from rfl, (bI_t _).mp h_122]; rfl, MF.th M⟩)
                | (rcases nine hq with rfl | rfl | rfl | rfl | rfl | rfl | rfl | rfl | rfl <;> first
                     | exact absurd h_27 (by decide)
                     | exact absurd h_31 (by decide)
                     | exact absurd h_47 (by decide)
                     | exact absurd h_64 (by decide)
                     | exact absurd h_92 (by decide)
                     | exact absurd h_114 (by decide)
                     | exact absurd h_136 (by decide)
                     | exact absurd h_99 (by decide)
                     | exact Or.inr ⟨j, hj, rfl, by rw [show ndA n le nu lf rt z tp nd ld ak j (nI 6) = bI (tp j) from rfl, (bI_f _).mp h_122]; rfl, MF.th M⟩)
            · skip
              refine r_aload_n (i := 0) d_Model_node_67 rfl rfl ?_
              refine r_getr nf_Model_16 lm_0 rfl d_Model_node_68 ?_
              refine r_bipush 63 d_Model_node_71 bp_63 ?_
              refine r_iload_n (i := 1) d_Model_node_73 rfl rfl ?_
              refine r_iaddN (a := 63) (b := j) d_Model_node_74 rfl rfl ?_
              refine r_ia (q := (63 + j)) lm_3 rfl (by omega) (by decide) ((hS3.glf (j := j) (by omega))) d_Model_node_75 ?_
              refine r_goto 88 d_Model_node_76 (by decide) ?_
              refine r_iret rfl d_Model_node_88 ?_
              first
                | (rcases nine hq with rfl | rfl | rfl | rfl | rfl | rfl | rfl | rfl | rfl <;> first
                     | exact absurd h_27 (by decide)
                     | exact absurd h_31 (by decide)
                     | exact absurd h_47 (by decide)
                     | exact absurd h_64 (by decide)
                     | exact absurd h_92 (by decide)
                     | exact absurd h_114 (by decide)
                     | exact absurd h_136 (by decide)
                     | exact absurd h_99 (by decide)
                     | exact Or.inr ⟨j, hj, rfl, rfl, MF.th M⟩)
                | (rcases nine hq with rfl | rfl | rfl | rfl | rfl | rfl | rfl | rfl | rfl <;> first
                     | exact absurd h_27 (by decide)
                     | exact absurd h_31 (by decide)
                     | exact absurd h_47 (by decide)
                     | exact absurd h_64 (by decide)
                     | exact absurd h_92 (by decide)
                     | exact absurd h_114 (by decide)
                     | exact absurd h_136 (by decide)
                     | exact absurd h_99 (by decide)
                     | exact Or.inr ⟨j, hj, rfl, rfl, (MF.th M).tr (MF.sc (fun e h1 h2 h4 => hv e (by omega)))⟩)
                | (rcases nine hq with rfl | rfl | rfl | rfl | rfl | rfl | rfl | rfl | rfl <;> first
                     | exact absurd h_27 (by decide)
                     | exact absurd h_31 (by decide)
                     | exact absurd h_47 (by decide)
                     | exact absurd h_64 (by decide)
                     | exact absurd h_92 (by decide)
                     | exact absurd h_114 (by decide)
                     | exact absurd h_136 (by decide)
                     | exact absurd h_99 (by decide)
                     | exact Or.inr ⟨j, hj, rfl, by rw [show ndA n le nu lf rt z tp nd ld ak j (nI 6) = bI (tp j) from rfl, (bI_t _).mp h_122]; rfl, MF.th M⟩)
                | (rcases nine hq with rfl | rfl | rfl | rfl | rfl | rfl | rfl | rfl | rfl <;> first
                     | exact absurd h_27 (by decide)
                     | exact absurd h_31 (by decide)
                     | exact absurd h_47 (by decide)
                     | exact absurd h_64 (by decide)
                     | exact absurd h_92 (by decide)
                     | exact absurd h_114 (by decide)
                     | exact absurd h_136 (by decide)
                     | exact absurd h_99 (by decide)
                     | exact Or.inr ⟨j, hj, rfl, by rw [show ndA n le nu lf rt z tp nd ld ak j (nI 6) = bI (tp j) from rfl, (bI_f _).mp h_122]; rfl, MF.th M⟩)
          · skip
            refine r_aload_n (i := 0) d_Model_node_50 rfl rfl ?_
            refine r_getr nf_Model_16 lm_0 rfl d_Model_node_51 ?_
            refine r_bipush 32 d_Model_node_54 bp_32 ?_
            refine r_iload_n (i := 1) d_Model_node_56 rfl rfl ?_
            refine r_iaddN (a := 32) (b := j) d_Model_node_57 rfl rfl ?_
            refine r_ia (q := (32 + j)) lm_3 rfl (by omega) (by decide) ((hS3.gnu (j := j) (by omega))) d_Model_node_58 ?_
            refine r_goto 88 d_Model_node_59 (by decide) ?_
            refine r_iret rfl d_Model_node_88 ?_
            first
              | (rcases nine hq with rfl | rfl | rfl | rfl | rfl | rfl | rfl | rfl | rfl <;> first
                   | exact absurd h_27 (by decide)
                   | exact absurd h_31 (by decide)
                   | exact absurd h_47 (by decide)
                   | exact absurd h_64 (by decide)
                   | exact absurd h_92 (by decide)
                   | exact absurd h_114 (by decide)
                   | exact absurd h_136 (by decide)
                   | exact absurd h_99 (by decide)
                   | exact Or.inr ⟨j, hj, rfl, rfl, MF.th M⟩)
              | (rcases nine hq with rfl | rfl | rfl | rfl | rfl | rfl | rfl | rfl | rfl <;> first
                   | exact absurd h_27 (by decide)
                   | exact absurd h_31 (by decide)
                   | exact absurd h_47 (by decide)
                   | exact absurd h_64 (by decide)
                   | exact absurd h_92 (by decide)
                   | exact absurd h_114 (by decide)
                   | exact absurd h_136 (by decide)
                   | exact absurd h_99 (by decide)
                   | exact Or.inr ⟨j, hj, rfl, rfl, (MF.th M).tr (MF.sc (fun e h1 h2 h4 => hv e (by omega)))⟩)
              | (rcases nine hq with rfl | rfl | rfl | rfl | rfl | rfl | rfl | rfl | rfl <;> first
                   | exact absurd h_27 (by decide)
                   | exact absurd h_31 (by decide)
                   | exact absurd h_47 (by decide)
                   | exact absurd h_64 (by decide)
                   | exact absurd h_92 (by decide)
                   | exact absurd h_114 (by decide)
                   | exact absurd h_136 (by decide)
                   | exact absurd h_99 (by decide)
                   | exact Or.inr ⟨j, hj, rfl, by rw [show ndA n le nu lf rt z tp nd ld ak j (nI 6) = bI (tp j) from rfl, (bI_t _).mp h_122]; rfl, MF.th M⟩)
              | (rcases nine hq with rfl | rfl | rfl | rfl | rfl | rfl | rfl | rfl | rfl <;> first
                   | exact absurd h_27 (by decide)
                   | exact absurd h_31 (by decide)
                   | exact absurd h_47 (by decide)
                   | exact absurd h_64 (by decide)
                   | exact absurd h_92 (by decide)
                   | exact absurd h_114 (by decide)
                   | exact absurd h_136 (by decide)
                   | exact absurd h_99 (by decide)
                   | exact Or.inr ⟨j, hj, rfl, by rw [show ndA n le nu lf rt z tp nd ld ak j (nI 6) = bI (tp j) from rfl, (bI_f _).mp h_122]; rfl, MF.th M⟩)
        · skip
          refine r_aload_n (i := 0) d_Model_node_34 rfl rfl ?_
          refine r_getr nf_Model_16 lm_0 rfl d_Model_node_35 ?_
          refine r_iconst 1 d_Model_node_38 ic_1 ?_
          refine r_iload_n (i := 1) d_Model_node_39 rfl rfl ?_
          refine r_iaddN (a := 1) (b := j) d_Model_node_40 rfl rfl ?_
          refine r_ia (q := (1 + j)) lm_3 rfl (by omega) (by decide) ((hS3.gle (j := j) (by omega))) d_Model_node_41 ?_
          refine r_goto 88 d_Model_node_42 (by decide) ?_
          refine r_iret rfl d_Model_node_88 ?_
          first
            | (rcases nine hq with rfl | rfl | rfl | rfl | rfl | rfl | rfl | rfl | rfl <;> first
                 | exact absurd h_27 (by decide)
                 | exact absurd h_31 (by decide)
                 | exact absurd h_47 (by decide)
                 | exact absurd h_64 (by decide)
                 | exact absurd h_92 (by decide)
                 | exact absurd h_114 (by decide)
                 | exact absurd h_136 (by decide)
                 | exact absurd h_99 (by decide)
                 | exact Or.inr ⟨j, hj, rfl, rfl, MF.th M⟩)
            | (rcases nine hq with rfl | rfl | rfl | rfl | rfl | rfl | rfl | rfl | rfl <;> first
                 | exact absurd h_27 (by decide)
                 | exact absurd h_31 (by decide)
                 | exact absurd h_47 (by decide)
                 | exact absurd h_64 (by decide)
                 | exact absurd h_92 (by decide)
                 | exact absurd h_114 (by decide)
                 | exact absurd h_136 (by decide)
                 | exact absurd h_99 (by decide)
                 | exact Or.inr ⟨j, hj, rfl, rfl, (MF.th M).tr (MF.sc (fun e h1 h2 h4 => hv e (by omega)))⟩)
            | (rcases nine hq with rfl | rfl | rfl | rfl | rfl | rfl | rfl | rfl | rfl <;> first
                 | exact absurd h_27 (by decide)
                 | exact absurd h_31 (by decide)
                 | exact absurd h_47 (by decide)
                 | exact absurd h_64 (by decide)
                 | exact absurd h_92 (by decide)
                 | exact absurd h_114 (by decide)
                 | exact absurd h_136 (by decide)
                 | exact absurd h_99 (by decide)
                 | exact Or.inr ⟨j, hj, rfl, by rw [show ndA n le nu lf rt z tp nd ld ak j (nI 6) = bI (tp j) from rfl, (bI_t _).mp h_122]; rfl, MF.th M⟩)
            | (rcases nine hq with rfl | rfl | rfl | rfl | rfl | rfl | rfl | rfl | rfl <;> first
                 | exact absurd h_27 (by decide)
                 | exact absurd h_31 (by decide)
                 | exact absurd h_47 (by decide)
                 | exact absurd h_64 (by decide)
                 | exact absurd h_92 (by decide)
                 | exact absurd h_114 (by decide)
                 | exact absurd h_136 (by decide)
                 | exact absurd h_99 (by decide)
                 | exact Or.inr ⟨j, hj, rfl, by rw [show ndA n le nu lf rt z tp nd ld ak j (nI 6) = bI (tp j) from rfl, (bI_f _).mp h_122]; rfl, MF.th M⟩)
    · skip
      refine r_iconst (-1) d_Model_node_23 ic_m1 ?_
      refine r_iret rfl d_Model_node_24 ?_
      first
        | (have q := (bI_f _).mp h_20
           have q2 := in_isN (m := 8) w (by decide)
           rw [show nI 8 = (8 : Int32) from rfl, q] at q2
           exact Or.inr ⟨j, hj, rfl, by rw [ndA_bad q2.symm], MF.th M⟩)
        | exact Or.inl ⟨(bI_f _).mp h_10, rfl, MF.th M⟩

end MM5
