-- Device
def vsp (le nu lf rt nm v : Nat → Int32) (j : Nat) : Option Int32 :=
  if lf j = -9 then some (if le j = 48 then nu j else nm (nu j).toNatClampNeg)
  else if o_tb (le j) (v (lf j).toNatClampNeg) (if rt j = -9 then 0 else v (rt j).toNatClampNeg) then none else some (o_out (le j) (v (lf j).toNatClampNeg) (if rt j = -9 then 0 else v (rt j).toNatClampNeg))
def evs (le nu lf rt nm : Nat → Int32) (f0 : Nat) (v0 : Nat → Int32) : Nat → (Nat → Int32) ⊕ Nat
  | 0 => .inl v0
  | m + 1 => match evs le nu lf rt nm f0 v0 m with
    | .inr t => .inr t
    | .inl v => match vsp le nu lf rt nm v (f0 + m) with
      | none => .inr (f0 + m)
      | some x => .inl (upd v (f0 + m) x)
theorem evs_stuck {le nu lf rt nm : Nat → Int32} {f0 : Nat} {v0 : Nat → Int32} {m t : Nat} (h : evs le nu lf rt nm f0 v0 m = .inr t) : ∀ d, evs le nu lf rt nm f0 v0 (m + d) = .inr t := by
  intro d
  induction d with
  | zero => exact h
  | succ d ih => rw [show m + (d + 1) = m + d + 1 by omega]; simp only [evs, ih]
abbrev RS : Type := (Nat → Int32) × (Nat → Int32)
def rsrc (nm cells : Nat → Int32) (t f : Int32) : Int32 := if t = 0 then f else if t = 1 then nm f.toNatClampNeg else cells f.toNatClampNeg
def rl (s : RS) (x : Ln) : Int32 := if x.1 = 1 then s.1 x.2.2.2.1.toNatClampNeg else s.1 x.2.1.toNatClampNeg
def rr (nm : Nat → Int32) (s : RS) (x : Ln) : Int32 := if x.1 = 1 then s.1 x.2.2.2.2.toNatClampNeg else rsrc nm s.2 x.2.2.2.1 x.2.2.2.2
def rst (le nm : Nat → Int32) (s : RS) (x : Ln) : Option RS :=
  if x.1 = 0 then some (upd s.1 x.2.1.toNatClampNeg (rsrc nm s.2 x.2.2.2.1 x.2.2.2.2), s.2)
  else if x.1 = 3 then some (s.1, upd s.2 x.2.2.2.2.toNatClampNeg (s.1 x.2.1.toNatClampNeg))
  else if o_tb (le x.2.2.1.toNatClampNeg) (rl s x) (rr nm s x) then none else some (upd s.1 x.2.1.toNatClampNeg (o_out (le x.2.2.1.toNatClampNeg) (rl s x) (rr nm s x)), s.2)
def rns (le nm : Nat → Int32) (ls : List Ln) (s0 : RS) : Nat → RS ⊕ Int32
  | 0 => .inl s0
  | m + 1 => match rns le nm ls s0 m with
    | .inr t => .inr t
    | .inl s => match ls[m]? with
      | none => .inl s
      | some x => match rst le nm s x with
        | none => .inr x.2.2.1
        | some s' => .inl s'
theorem rns_stuck {le nm : Nat → Int32} {ls : List Ln} {s0 : RS} {m : Nat} {t : Int32} (h : rns le nm ls s0 m = .inr t) : ∀ d, rns le nm ls s0 (m + d) = .inr t := by
  intro d
  induction d with
  | zero => exact h
  | succ d ih => rw [show m + (d + 1) = m + d + 1 by omega]; simp only [rns, ih]
/-- a LINE that stands: its registers, cells, NAMES, its NODE -/
def sOK (t f : Int32) : Prop := t = 0 ∨ (t = 1 ∧ ∃ c, c < 8 ∧ f = nI c) ∨ (t = 2 ∧ ∃ c, c < 31 ∧ f = nI c)
def LOK (n : Nat) (x : Ln) : Prop := (∃ r, r < 6 ∧ x.2.1 = nI r) ∧ (∃ k, k < n ∧ x.2.2.1 = nI k) ∧ ((x.1 = 0 ∧ sOK x.2.2.2.1 x.2.2.2.2) ∨ (x.1 = 1 ∧ (∃ r, r < 6 ∧ x.2.2.2.1 = nI r) ∧ ∃ r, r < 6 ∧ x.2.2.2.2 = nI r) ∨ (x.1 = 2 ∧ sOK x.2.2.2.1 x.2.2.2.2) ∨ (x.1 = 3 ∧ ∃ c, c < 31 ∧ x.2.2.2.2 = nI c))
section MDev
variable {G : nw_G}
theorem c_Device_operate (k x y : Int32) (M : nw_M) : CJ G LC m_Device_operate 1 [.ref (G.2.2 122), .ref (G.2.2 11), .int k, .int x, .int y] M (fun v N => (o_tb (rg 31 (M 13) k) x y = true ∧ v = some (.int 0) ∧ N = ms M 122 (upd (M 122) 4 k)) ∨ (o_tb (rg 31 (M 13) k) x y = false ∧ v = some (.int 1) ∧ N = ms M 122 (upd (M 122) 3 (o_out (rg 31 (M 13) k) x y)))) := by
  refine CJ_of2 (n0 := 1) (by decide) rfl rfl ?_
  simp only [List.map_cons, List.map_nil, List.cons_append, List.nil_append, List.reduceReplicate]
  refine r_aload_n (i := 1) d_Device_operate_0 rfl rfl ?_
  refine r_getr nf_Device_60 tree_11.1 rfl d_Device_operate_1 ?_
  refine r_iload_n (i := 2) d_Device_operate_4 rfl rfl ?_
  refine r_V1 v_Row_get w_589 (isTree.letters tree_11).1 (c_Row_get (isTree.letters tree_11) _ _ ) (Nat.le_of_ble_eq_true rfl) (Nat.le_of_ble_eq_true rfl) d_Device_operate_5 ?_
  refine r_istore d_Device_operate_8 (Nat.le_of_ble_eq_true rfl) rfl ?_
  dsimp only [List.set]
  refine r_iload d_Device_operate_10 rfl ?_
  refine r_iload_n (i := 3) d_Device_operate_12 rfl rfl ?_
  refine r_iload d_Device_operate_13 rfl ?_
  refine r_S3 f_Ops_trapsBy w_595 (c_Ops_trapsBy _ _ _ _ ) (Nat.le_of_ble_eq_true rfl) (Nat.le_of_ble_eq_true rfl) d_Device_operate_15 ?_
  refine r_if_eq 28 d_Device_operate_18 (by decide) (fun h_18 => ?_) (fun h_18 => ?_)
  · skip
    refine r_aload_n (i := 0) d_Device_operate_28 rfl rfl ?_
    refine r_iload d_Device_operate_29 rfl ?_
    refine r_iload_n (i := 3) d_Device_operate_31 rfl rfl ?_
    refine r_iload d_Device_operate_32 rfl ?_
    refine r_S3 f_Ops_outcome w_598 (c_Ops_outcome _ _ _ _ ) (Nat.le_of_ble_eq_true rfl) (Nat.le_of_ble_eq_true rfl) d_Device_operate_34 ?_
    refine r_puti nf_Device_53 nfin_Device_3 lc_122 rfl d_Device_operate_37 ?_
    refine r_iconst 1 d_Device_operate_40 ic_1 ?_
    refine r_zret rfl (by decide) d_Device_operate_41 ?_
    rw [bI_f] at h_18
    exact Or.inr ⟨h_18, rfl, rfl⟩
  · skip
    refine r_aload_n (i := 0) d_Device_operate_21 rfl rfl ?_
    refine r_iload_n (i := 2) d_Device_operate_22 rfl rfl ?_
    refine r_puti nf_Device_26 nfin_Device_4 lc_122 rfl d_Device_operate_23 ?_
    refine r_iconst 0 d_Device_operate_26 ic_0 ?_
    refine r_zret rfl (by decide) d_Device_operate_27 ?_
    rw [bI_t] at h_18
    exact Or.inl ⟨h_18, rfl, rfl⟩

theorem c_Device_source (t f : Int32) (M : nw_M) : CF G LC m_Device_source 1 [.ref (G.2.2 122), .ref (G.2.2 30), .int t, .int f] M (some (.int (if t = 0 then f else if t = 1 then rg 8 (M 31) f else rg 31 (M 128) f))) M := by
  refine CJ_of (by decide) rfl (Nat.le_of_ble_eq_true rfl) ?_
  refine r_iload_n (i := 2) d_Device_source_0 rfl rfl ?_
  refine r_if_ne 6 d_Device_source_1 (by decide) (fun h_1 => ?_) (fun h_1 => ?_)
  · skip
    refine r_iload_n (i := 2) d_Device_source_6 rfl rfl ?_
    refine r_iconst 1 d_Device_source_7 ic_1 ?_
    refine r_icmp_ne 19 d_Device_source_8 (by decide) (fun h_8 => ?_) (fun h_8 => ?_)
    · skip
      refine r_aload_n (i := 0) d_Device_source_19 rfl rfl ?_
      refine r_getr nf_Device_23 lc_122 rfl d_Device_source_20 ?_
      refine r_iload_n (i := 3) d_Device_source_23 rfl rfl ?_
      refine r_V1 v_Row_get w_589 row_127.1 (c_Row_get row_127 _ _ ) (Nat.le_of_ble_eq_true rfl) (Nat.le_of_ble_eq_true rfl) d_Device_source_24 ?_
      refine r_iret rfl d_Device_source_27 ?_
      exact ⟨by simp_all, rfl⟩
    · skip
      refine r_aload_n (i := 1) d_Device_source_11 rfl rfl ?_
      refine r_iload_n (i := 3) d_Device_source_12 rfl rfl ?_
      refine r_V1 v_Row_get w_589 row_30.1 (c_Row_get row_30 _ _ ) (Nat.le_of_ble_eq_true rfl) (Nat.le_of_ble_eq_true rfl) d_Device_source_13 ?_
      refine r_goto 27 d_Device_source_16 (by decide) ?_
      refine r_iret rfl d_Device_source_27 ?_
      exact ⟨by simp_all, rfl⟩
  · skip
    refine r_iload_n (i := 3) d_Device_source_4 rfl rfl ?_
    refine r_iret rfl d_Device_source_5 ?_
    exact ⟨by simp_all, rfl⟩

theorem ev_child {n : Nat} {le nu lf rt : Nat → Int32} {z : Nat → Nat} (hw : WF n le nu lf rt z) {j : Nat} (hj : j < n) (hl : lf j ≠ -9) : ∃ L, L < j ∧ lf j = nI L ∧ (rt j = -9 ∨ ∃ R, R < j ∧ rt j = nI R) := by
  by_cases hr : rt j = -9
  · have s := hw.single hj hl hr
    exact ⟨j - 1, by omega, s.2.2.2.1, Or.inl hr⟩
  · have s := hw.pair hj hr
    exact ⟨_, by omega, s.2.2.2.2.2.1, Or.inr ⟨j - 1, by omega, s.2.2.2.1⟩⟩
set_option maxHeartbeats 1000000 in
theorem l_Device_evaluate {n k f0 : Nat} {z : Nat → Nat} {M0 : nw_M} (hw : WF n (M0 13) (M0 15) (M0 17) (M0 19) z) (hk : k < n) (ef : f0 + z k = k + 1) {P : Option Value → nw_M → Prop} (hP : ∀ v N, (((∃ w, evs (M0 13) (M0 15) (M0 17) (M0 19) (M0 31) f0 (M0 124) (z k) = .inl w ∧ v = some (.int 1) ∧ N 122 3 = w k ∧ N 122 4 = M0 122 4) ∨ ∃ t, evs (M0 13) (M0 15) (M0 17) (M0 19) (M0 31) f0 (M0 124) (z k) = .inr t ∧ v = some (.int 0) ∧ N 122 4 = nI t) ∧ ∀ e, e ≠ 122 → e ≠ 124 → N e = M0 e) → P v N) : ∀ (d m : Nat) (o5 o6 : Option Value) (N : nw_M), m + d = z k → (∀ e, e ≠ 122 → e ≠ 124 → N e = M0 e) → N 122 4 = M0 122 4 → evs (M0 13) (M0 15) (M0 17) (M0 19) (M0 31) f0 (M0 124) m = .inl (N 124) → RJ G LC m_Device_evaluate 3 P 14 [some (.ref (G.2.2 122)), some (.ref (G.2.2 11)), some (.ref (G.2.2 30)), some (.int (nI k)), some (.int (nI (f0 + m))), o5, o6] [] N := by
  have hn := hw.1
  intro d
  induction d with
  | zero =>
    intro m o5 o6 N hm hF h4 hE
    simp only [Nat.add_zero] at hm
    subst hm
    refine r_iload d_Device_evaluate_14 rfl ?_
    refine r_iload_n (i := 3) d_Device_evaluate_16 rfl rfl ?_
    refine r_icmp_gt 160 d_Device_evaluate_17 (by decide) (fun _ => ?_) (fun h9 => absurd (nI_lt (by omega) (by omega)) h9)
    refine r_aload_n (i := 0) d_Device_evaluate_160 rfl rfl ?_
    refine r_aload_n (i := 0) d_Device_evaluate_161 rfl rfl ?_
    refine r_getr nf_Device_14 lc_122 rfl d_Device_evaluate_162 ?_
    refine r_iload_n (i := 3) d_Device_evaluate_165 rfl rfl ?_
    refine r_V1 v_Row_get w_589 row_123.1 (c_Row_get row_123 _ _ ) (Nat.le_of_ble_eq_true rfl) (Nat.le_of_ble_eq_true rfl) d_Device_evaluate_166 ?_
    refine r_puti nf_Device_53 nfin_Device_3 lc_122 rfl d_Device_evaluate_169 ?_
    refine r_iconst 1 d_Device_evaluate_172 ic_1 ?_
    refine r_zret rfl (by decide) d_Device_evaluate_173 ?_
    apply hP
    refine ⟨Or.inl ⟨N 124, hE, rfl, ?_, ?_⟩, fun e e1 e2 => ?_⟩
    · simp (disch := omega) only [ms_same, ms_ne, upd_at]
      rw [rg_nI _ (by omega) (by omega)]
    · simp (disch := omega) only [ms_same, ms_ne, upd_ne]
      exact h4
    · simp (disch := omega) only [ms_ne]
      exact hF e e1 e2
  | succ d ih =>
    intro m o5 o6 N hm hF h4 hE
    have q13 : N 13 = M0 13 := hF _ (by omega) (by omega)
    have q15 : N 15 = M0 15 := hF _ (by omega) (by omega)
    have q17 : N 17 = M0 17 := hF _ (by omega) (by omega)
    have q19 : N 19 = M0 19 := hF _ (by omega) (by omega)
    have q31 : N 31 = M0 31 := hF _ (by omega) (by omega)
    have hj : f0 + m < n := by omega
    have sx : vsp (M0 13) (M0 15) (M0 17) (M0 19) (M0 31) (N 124) (f0 + m) = vsp (M0 13) (M0 15) (M0 17) (M0 19) (M0 31) (N 124) (f0 + m) := rfl
    refine r_iload d_Device_evaluate_14 rfl ?_
    refine r_iload_n (i := 3) d_Device_evaluate_16 rfl rfl ?_
    refine r_icmp_gt 160 d_Device_evaluate_17 (by decide) (fun h_17 => ?_) (fun h_17 => ?_)
    · skip
      exact absurd h_17 (nI_nlt (by omega) (by omega))
    · skip
      refine r_aload_n (i := 1) d_Device_evaluate_20 rfl rfl ?_
      refine r_iload d_Device_evaluate_21 rfl ?_
      refine r_V1 v_Tree_isLeaf w_590 tree_11.1 (c2_isLeaf (by omega) q17) (Nat.le_of_ble_eq_true rfl) (Nat.le_of_ble_eq_true rfl) d_Device_evaluate_23 ?_
      refine r_if_ne 97 d_Device_evaluate_26 (by decide) (fun h_26 => ?_) (fun h_26 => ?_)
      · skip
        rw [bI_t, beq_iff_eq] at h_26
        obtain ⟨-, -, hlf⟩ := hw.leaf_rt hj h_26
        refine r_aload_n (i := 1) d_Device_evaluate_97 rfl rfl ?_
        refine r_getr nf_Device_60 tree_11.1 rfl d_Device_evaluate_98 ?_
        refine r_iload d_Device_evaluate_101 rfl ?_
        refine r_V1 v_Row_get w_589 (isTree.letters tree_11).1 (c2_Row_get (isTree.letters tree_11) (by omega) (show N 13 (f0 + m) = M0 13 (f0 + m) by rw [q13])) (Nat.le_of_ble_eq_true rfl) (Nat.le_of_ble_eq_true rfl) d_Device_evaluate_103 ?_
        refine r_bipush 48 d_Device_evaluate_106 bp_48 ?_
        refine r_icmp_ne 132 d_Device_evaluate_108 (by decide) (fun h_108 => ?_) (fun h_108 => ?_)
        · skip
          refine r_aload_n (i := 0) d_Device_evaluate_132 rfl rfl ?_
          refine r_getr nf_Device_14 lc_122 rfl d_Device_evaluate_133 ?_
          refine r_iload d_Device_evaluate_136 rfl ?_
          refine r_aload_n (i := 2) d_Device_evaluate_138 rfl rfl ?_
          refine r_aload_n (i := 1) d_Device_evaluate_139 rfl rfl ?_
          refine r_getr nf_Device_63 tree_11.1 rfl d_Device_evaluate_140 ?_
          refine r_iload d_Device_evaluate_143 rfl ?_
          refine r_V1 v_Row_get w_589 (isTree.numbers tree_11).1 (c2_Row_get (isTree.numbers tree_11) (by omega) (show N 15 (f0 + m) = M0 15 (f0 + m) by rw [q15])) (Nat.le_of_ble_eq_true rfl) (Nat.le_of_ble_eq_true rfl) d_Device_evaluate_145 ?_
          refine r_V1 v_Row_get w_589 row_30.1 (CF_eq (c_Row_get row_30 _ _) (show _ = some (Value.int (M0 31 (M0 15 (f0 + m)).toNatClampNeg)) from by
      rcases hlf with ⟨e48, -⟩ | ⟨cc, hcc, -, enu⟩
      · exact absurd e48 h_108
      · rw [enu, rg_nI _ hcc (by omega), nI_clamp (by omega), show N (30 + 1) = N 31 from rfl, q31]) rfl) (Nat.le_of_ble_eq_true rfl) (Nat.le_of_ble_eq_true rfl) d_Device_evaluate_148 ?_
          refine r_V2 v_Row_put w_601 row_123.1 (c_Row_put row_123 _ _ _ ) (Nat.le_of_ble_eq_true rfl) (Nat.le_of_ble_eq_true rfl) d_Device_evaluate_151 ?_
          refine r_iinc d_Device_evaluate_154 rfl (nI_inc (f0 + m)) (Nat.le_of_ble_eq_true rfl) rfl ?_
          dsimp only [List.set]
          refine r_goto 14 d_Device_evaluate_157 (by decide) ?_
          refine ih (m + 1) _ _ _ (by omega) (fun e e1 e2 => ?_) ?_ ?_
          · simp (disch := omega) only [ms_ne]
            exact hF e e1 e2
          · simp (disch := omega) only [ms_same, ms_ne, upd_ne]
            exact h4
          · simp only [evs, hE]
            simp (disch := omega) only [ms_same, ms_ne, rp_nI, upd_at]
            have hvs : vsp (M0 13) (M0 15) (M0 17) (M0 19) (M0 31) (N 124) (f0 + m) = some (M0 31 (M0 15 (f0 + m)).toNatClampNeg) := by
              unfold vsp; rw [if_pos h_26, if_neg h_108]
            rw [hvs]
        · skip
          refine r_aload_n (i := 0) d_Device_evaluate_111 rfl rfl ?_
          refine r_getr nf_Device_14 lc_122 rfl d_Device_evaluate_112 ?_
          refine r_iload d_Device_evaluate_115 rfl ?_
          refine r_aload_n (i := 1) d_Device_evaluate_117 rfl rfl ?_
          refine r_getr nf_Device_63 tree_11.1 rfl d_Device_evaluate_118 ?_
          refine r_iload d_Device_evaluate_121 rfl ?_
          refine r_V1 v_Row_get w_589 (isTree.numbers tree_11).1 (c2_Row_get (isTree.numbers tree_11) (by omega) (show N 15 (f0 + m) = M0 15 (f0 + m) by rw [q15])) (Nat.le_of_ble_eq_true rfl) (Nat.le_of_ble_eq_true rfl) d_Device_evaluate_123 ?_
          refine r_V2 v_Row_put w_601 row_123.1 (c_Row_put row_123 _ _ _ ) (Nat.le_of_ble_eq_true rfl) (Nat.le_of_ble_eq_true rfl) d_Device_evaluate_126 ?_
          refine r_goto 154 d_Device_evaluate_129 (by decide) ?_
          refine r_iinc d_Device_evaluate_154 rfl (nI_inc (f0 + m)) (Nat.le_of_ble_eq_true rfl) rfl ?_
          dsimp only [List.set]
          refine r_goto 14 d_Device_evaluate_157 (by decide) ?_
          refine ih (m + 1) _ _ _ (by omega) (fun e e1 e2 => ?_) ?_ ?_
          · simp (disch := omega) only [ms_ne]
            exact hF e e1 e2
          · simp (disch := omega) only [ms_same, ms_ne, upd_ne]
            exact h4
          · simp only [evs, hE]
            simp (disch := omega) only [ms_same, ms_ne, rp_nI, upd_at]
            have hvs : vsp (M0 13) (M0 15) (M0 17) (M0 19) (M0 31) (N 124) (f0 + m) = some (M0 15 (f0 + m)) := by
              unfold vsp; rw [if_pos h_26, if_pos h_108]
            rw [hvs]
      · skip
        rw [bI_f, beq_eq_false_iff_ne] at h_26
        obtain ⟨cl, hcl, el, hrr⟩ := ev_child hw hj h_26
        refine r_aload_n (i := 0) d_Device_evaluate_29 rfl rfl ?_
        refine r_getr nf_Device_14 lc_122 rfl d_Device_evaluate_30 ?_
        refine r_aload_n (i := 1) d_Device_evaluate_33 rfl rfl ?_
        refine r_getr nf_Device_43 tree_11.1 rfl d_Device_evaluate_34 ?_
        refine r_iload d_Device_evaluate_37 rfl ?_
        refine r_V1 v_Row_get w_589 (isTree.lefts tree_11).1 (c2_Row_get (isTree.lefts tree_11) (by omega) (show N 17 (f0 + m) = nI cl by rw [q17]; exact el)) (Nat.le_of_ble_eq_true rfl) (Nat.le_of_ble_eq_true rfl) d_Device_evaluate_39 ?_
        refine r_V1 v_Row_get w_589 row_123.1 (c_Row_get row_123 _ _ ) (Nat.le_of_ble_eq_true rfl) (Nat.le_of_ble_eq_true rfl) d_Device_evaluate_42 ?_
        rw [rg_nI _ (show cl < 31 by omega) (by omega)]
        refine r_istore d_Device_evaluate_45 (Nat.le_of_ble_eq_true rfl) rfl ?_
        dsimp only [List.set]
        refine r_aload_n (i := 0) d_Device_evaluate_47 rfl rfl ?_
        refine r_getr nf_Device_14 lc_122 rfl d_Device_evaluate_48 ?_
        refine r_aload_n (i := 1) d_Device_evaluate_51 rfl rfl ?_
        refine r_getr nf_Device_46 tree_11.1 rfl d_Device_evaluate_52 ?_
        refine r_iload d_Device_evaluate_55 rfl ?_
        refine r_V1 v_Row_get w_589 (isTree.rights tree_11).1 (c2_Row_get (isTree.rights tree_11) (by omega) (show N 19 (f0 + m) = M0 19 (f0 + m) by rw [q19])) (Nat.le_of_ble_eq_true rfl) (Nat.le_of_ble_eq_true rfl) d_Device_evaluate_57 ?_
        have ey : rg 31 (N 124) (M0 19 (f0 + m)) = if M0 19 (f0 + m) = -9 then 0 else N 124 (M0 19 (f0 + m)).toNatClampNeg := by
          rcases hrr with hr | ⟨cr, hcr, er⟩
          · rw [hr, if_pos rfl]; exact rg_neg _ (by decide)
          · rw [er, if_neg (nI_ne9 (by omega)), rg_nI _ (by omega) (by omega), nI_clamp (by omega)]
        refine r_V1 v_Row_get w_589 row_123.1 (c_Row_get row_123 _ _ ) (Nat.le_of_ble_eq_true rfl) (Nat.le_of_ble_eq_true rfl) d_Device_evaluate_60 ?_
        rw [show rg 31 (N (123 + 1)) (M0 19 (f0 + m)) = if M0 19 (f0 + m) = -9 then 0 else N 124 (M0 19 (f0 + m)).toNatClampNeg from ey]
        refine r_istore d_Device_evaluate_63 (Nat.le_of_ble_eq_true rfl) rfl ?_
        dsimp only [List.set]
        refine r_aload_n (i := 0) d_Device_evaluate_65 rfl rfl ?_
        refine r_aload_n (i := 1) d_Device_evaluate_66 rfl rfl ?_
        refine r_iload d_Device_evaluate_67 rfl ?_
        refine r_iload d_Device_evaluate_69 rfl ?_
        refine r_iload d_Device_evaluate_71 rfl ?_
        refine r_W4 v_Device_operate w_591 lc_122 (c_Device_operate _ _ _ _) (Nat.le_of_ble_eq_true rfl) (Nat.le_of_ble_eq_true rfl) d_Device_evaluate_73 (fun v N2 hv => ?_)
        rw [rg_nI _ (show f0 + m < 31 by omega) (by omega), q13] at hv
        have ec : (M0 17 (f0 + m)).toNatClampNeg = cl := by rw [el, nI_clamp (by omega)]
        rcases hv with ⟨hb, rfl, rfl⟩ | ⟨hb, rfl, rfl⟩
        · skip
          have hvs : vsp (M0 13) (M0 15) (M0 17) (M0 19) (M0 31) (N 124) (f0 + m) = none := by
            unfold vsp; rw [if_neg h_26, ec, if_pos hb]
          refine r_if_ne 81 d_Device_evaluate_76 (by decide) (fun h_76 => ?_) (fun h_76 => ?_)
          · exact absurd h_76 (by decide)
          · skip
            refine r_iconst 0 d_Device_evaluate_79 ic_0 ?_
            refine r_zret rfl (by decide) d_Device_evaluate_80 ?_
            apply hP
            refine ⟨Or.inr ⟨f0 + m, ?_, rfl, ?_⟩, fun e e1 e2 => ?_⟩
            · rw [show z k = m + 1 + d by omega]
              refine evs_stuck ?_ d
              simp only [evs, hE, hvs]
            · simp (disch := omega) only [ms_same, upd_at]
            · simp (disch := omega) only [ms_ne]
              exact hF e e1 e2
        · skip
          have hvs : vsp (M0 13) (M0 15) (M0 17) (M0 19) (M0 31) (N 124) (f0 + m) = some (o_out (M0 13 (f0 + m)) (N 124 cl) (if M0 19 (f0 + m) = -9 then 0 else N 124 (M0 19 (f0 + m)).toNatClampNeg)) := by
            unfold vsp; rw [if_neg h_26, ec, if_neg (by rw [hb]; decide)]
          refine r_if_ne 81 d_Device_evaluate_76 (by decide) (fun h_76 => ?_) (fun h_76 => ?_)
          · skip
            refine r_aload_n (i := 0) d_Device_evaluate_81 rfl rfl ?_
            refine r_getr nf_Device_14 lc_122 rfl d_Device_evaluate_82 ?_
            refine r_iload d_Device_evaluate_85 rfl ?_
            refine r_aload_n (i := 0) d_Device_evaluate_87 rfl rfl ?_
            refine r_geti nf_Device_53 lc_122 rfl d_Device_evaluate_88 ?_
            refine r_V2 v_Row_put w_601 row_123.1 (c_Row_put row_123 _ _ _ ) (Nat.le_of_ble_eq_true rfl) (Nat.le_of_ble_eq_true rfl) d_Device_evaluate_91 ?_
            refine r_goto 154 d_Device_evaluate_94 (by decide) ?_
            refine r_iinc d_Device_evaluate_154 rfl (nI_inc (f0 + m)) (Nat.le_of_ble_eq_true rfl) rfl ?_
            dsimp only [List.set]
            refine r_goto 14 d_Device_evaluate_157 (by decide) ?_
            refine ih (m + 1) _ _ _ (by omega) (fun e e1 e2 => ?_) ?_ ?_
            · simp (disch := omega) only [ms_ne]
              exact hF e e1 e2
            · simp (disch := omega) only [ms_same, ms_ne, upd_ne]
              exact h4
            · simp only [evs, hE]
              simp (disch := omega) only [ms_same, ms_ne, rp_nI, upd_at]
              rw [hvs]
          · exact absurd h_76 (by decide)

theorem c_Device_evaluate {n k f0 : Nat} {z : Nat → Nat} {M0 : nw_M} (hw : WF n (M0 13) (M0 15) (M0 17) (M0 19) z) (hk : k < n) (ef : f0 + z k = k + 1) (hz : M0 27 k = nI (z k)) : CJ G LC m_Device_evaluate 3 [.ref (G.2.2 122), .ref (G.2.2 11), .ref (G.2.2 30), .int (nI k)] M0 (fun v N => ((∃ w, evs (M0 13) (M0 15) (M0 17) (M0 19) (M0 31) f0 (M0 124) (z k) = .inl w ∧ v = some (.int 1) ∧ N 122 3 = w k ∧ N 122 4 = M0 122 4) ∨ ∃ t, evs (M0 13) (M0 15) (M0 17) (M0 19) (M0 31) f0 (M0 124) (z k) = .inr t ∧ v = some (.int 0) ∧ N 122 4 = nI t) ∧ ∀ e, e ≠ 122 → e ≠ 124 → N e = M0 e) := by
  have hn := hw.1
  have zb := hw.zb k hk
  refine CJ_of2 (n0 := 3) (by decide) rfl rfl ?_
  simp only [List.map_cons, List.map_nil, List.cons_append, List.nil_append, List.reduceReplicate]
  refine r_iload_n (i := 3) d_Device_evaluate_0 rfl rfl ?_
  refine r_aload_n (i := 1) d_Device_evaluate_1 rfl rfl ?_
  refine r_getr nf_Device_30 tree_11.1 rfl d_Device_evaluate_2 ?_
  refine r_iload_n (i := 3) d_Device_evaluate_5 rfl rfl ?_
  refine r_V1 v_Row_get w_589 (isTree.spans tree_11).1 (c2_Row_get (isTree.spans tree_11) (by omega) hz) (Nat.le_of_ble_eq_true rfl) (Nat.le_of_ble_eq_true rfl) d_Device_evaluate_6 ?_
  refine r_isub d_Device_evaluate_9 ?_
  refine r_iconst 1 d_Device_evaluate_10 ic_1 ?_
  refine r_iadd d_Device_evaluate_11 ?_
  rw [nI_sub1 (by omega), show k + 1 - z k = f0 + 0 by omega]
  refine r_istore d_Device_evaluate_12 (Nat.le_of_ble_eq_true rfl) rfl ?_
  dsimp only [List.set]
  exact l_Device_evaluate hw hk ef (fun v N h => h) (z k) 0 _ _ M0 (by omega) (fun _ _ _ => rfl) rfl rfl

end MDev
