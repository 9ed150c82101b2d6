-- Device: step, goThrough
def RA (N : nw_M) (s : RS) : Prop := (∀ r, r < 6 → N 126 r = s.1 r) ∧ ∀ c, c < 31 → N 128 c = s.2 c
theorem src_eq {M : nw_M} {s : RS} {d e : Int32} (hR : RA M s) (hs : sOK d e) : (if d = 0 then e else if d = 1 then rg 8 (M 31) e else rg 31 (M 128) e) = rsrc (M 31) s.2 d e := by
  unfold rsrc
  rcases hs with rfl | ⟨rfl, c, hc, rfl⟩ | ⟨rfl, c, hc, rfl⟩
  · rfl
  · have z : ¬ (1 : Int32) = 0 := by decide
    simp only [z, if_false, if_true]
    rw [rg_nI _ hc (by omega), nI_clamp (by omega)]
  · have z : ¬ (2 : Int32) = 0 := by decide
    have z1 : ¬ (2 : Int32) = 1 := by decide
    simp only [z, z1, if_false]
    rw [rg_nI _ hc (by omega), nI_clamp (by omega), hR.2 c hc]
theorem RA_put {M N : nw_M} {s : RS} {r : Nat} {x : Int32} (hR : RA M s) (h1 : N 126 = upd (M 126) r x) (h2 : N 128 = M 128) : RA N (upd s.1 r x, s.2) := by
  refine ⟨fun q hq => ?_, fun q hq => by rw [h2]; exact hR.2 q hq⟩
  rw [h1]
  by_cases e : q = r
  · subst e; show upd _ q x q = upd _ q x q; rw [upd_at, upd_at]
  · show upd _ r x q = upd _ r x q; rw [upd_ne _ _ e, upd_ne _ _ e]; exact hR.1 q hq
section MDev2
variable {G : nw_G}
theorem c2_part {j p : Nat} {x : Int32} {M : nw_M} (hj : 5 * j + p < 465) (h : M 119 (5 * j + p) = x) {q : Int32} (hq : q = nI p) : CF G LC m_Program_part 1 [.ref (G.2.2 117), .int (nI j), .int q] M (some (.int x)) M := CF_eq (c_Program_part _ _ M) (by rw [hq, show (5 : Int32) = nI 5 from rfl, pk_mul, nI_add, Nat.mul_comm j 5, rg_nI _ hj (by omega), h]) rfl
set_option maxHeartbeats 1000000 in
theorem c_Device_step {n j : Nat} {a b cc dd ee : Int32} {M : nw_M} {s : RS} (hn : n ≤ 31) (hj : j < 93) (p0 : M 119 (5 * j) = a) (p1 : M 119 (5 * j + 1) = b) (p2 : M 119 (5 * j + 2) = cc) (p3 : M 119 (5 * j + 3) = dd) (p4 : M 119 (5 * j + 4) = ee) (hL : LOK n (a, b, cc, dd, ee)) (hR : RA M s) : CJ G LC m_Device_step 2 [.ref (G.2.2 122), .ref (G.2.2 117), .int (nI j), .ref (G.2.2 11), .ref (G.2.2 30)] M (fun v N => ((∃ s2, rst (M 13) (M 31) s (a, b, cc, dd, ee) = some s2 ∧ v = some (.int 1) ∧ RA N s2 ∧ N 122 4 = M 122 4) ∨ (rst (M 13) (M 31) s (a, b, cc, dd, ee) = none ∧ v = some (.int 0) ∧ N 122 4 = cc)) ∧ ∀ e, e ≠ 122 → e ≠ 126 → e ≠ 128 → N e = M e) := by
  obtain ⟨⟨r, hr, er⟩, ⟨k, hk, ek⟩, hL3⟩ := hL
  have er : b = nI r := er
  have ek : cc = nI k := ek
  subst er
  subst ek
  refine CJ_of2 (n0 := 5) (by decide) rfl rfl ?_
  simp only [List.map_cons, List.map_nil, List.cons_append, List.nil_append, List.reduceReplicate]
  refine r_aload_n (i := 1) d_Device_step_0 rfl rfl ?_
  refine r_iload_n (i := 2) d_Device_step_1 rfl rfl ?_
  refine r_iconst 1 d_Device_step_2 ic_1 ?_
  refine r_V2 v_Program_part w_693 lc_117 (c2_part (p := 1) (by omega) p1 rfl) (Nat.le_of_ble_eq_true rfl) (Nat.le_of_ble_eq_true rfl) d_Device_step_3 ?_
  refine r_istore d_Device_step_6 (Nat.le_of_ble_eq_true rfl) rfl ?_
  dsimp only [List.set]
  refine r_aload_n (i := 1) d_Device_step_8 rfl rfl ?_
  refine r_iload_n (i := 2) d_Device_step_9 rfl rfl ?_
  refine r_iconst 2 d_Device_step_10 ic_2 ?_
  refine r_V2 v_Program_part w_693 lc_117 (c2_part (p := 2) (by omega) p2 rfl) (Nat.le_of_ble_eq_true rfl) (Nat.le_of_ble_eq_true rfl) d_Device_step_11 ?_
  refine r_istore d_Device_step_14 (Nat.le_of_ble_eq_true rfl) rfl ?_
  dsimp only [List.set]
  refine r_aload_n (i := 1) d_Device_step_16 rfl rfl ?_
  refine r_iload_n (i := 2) d_Device_step_17 rfl rfl ?_
  refine r_iconst 3 d_Device_step_18 ic_3 ?_
  refine r_V2 v_Program_part w_693 lc_117 (c2_part (p := 3) (by omega) p3 rfl) (Nat.le_of_ble_eq_true rfl) (Nat.le_of_ble_eq_true rfl) d_Device_step_19 ?_
  refine r_istore d_Device_step_22 (Nat.le_of_ble_eq_true rfl) rfl ?_
  dsimp only [List.set]
  refine r_aload_n (i := 1) d_Device_step_24 rfl rfl ?_
  refine r_iload_n (i := 2) d_Device_step_25 rfl rfl ?_
  refine r_iconst 4 d_Device_step_26 ic_4 ?_
  refine r_V2 v_Program_part w_693 lc_117 (c2_part (p := 4) (by omega) p4 rfl) (Nat.le_of_ble_eq_true rfl) (Nat.le_of_ble_eq_true rfl) d_Device_step_27 ?_
  refine r_istore d_Device_step_30 (Nat.le_of_ble_eq_true rfl) rfl ?_
  dsimp only [List.set]
  refine r_iconst 1 d_Device_step_32 ic_1 ?_
  refine r_istore d_Device_step_33 (Nat.le_of_ble_eq_true rfl) rfl ?_
  dsimp only [List.set]
  refine r_aload_n (i := 1) d_Device_step_35 rfl rfl ?_
  refine r_iload_n (i := 2) d_Device_step_36 rfl rfl ?_
  refine r_iconst 0 d_Device_step_37 ic_0 ?_
  refine r_V2 v_Program_part w_693 lc_117 (c2_part (p := 0) (by omega) p0 rfl) (Nat.le_of_ble_eq_true rfl) (Nat.le_of_ble_eq_true rfl) d_Device_step_38 ?_
  rcases hL3 with ⟨ha, hs⟩ | ⟨ha, ⟨r1, hr1, e1⟩, r2, hr2, e2⟩ | ⟨ha, hs⟩ | ⟨ha, c3, hc3, e3⟩
  · have ha : a = 0 := ha
    subst ha
    refine r_tableIn 68 d_Device_step_41 (by decide) (by decide) (off := 27) rfl (by decide) ?_
    refine r_aload_n (i := 0) d_Device_step_68 rfl rfl ?_
    refine r_aload_n (i := 0) d_Device_step_69 rfl rfl ?_
    refine r_aload d_Device_step_70 rfl ?_
    refine r_iload d_Device_step_72 rfl ?_
    refine r_iload d_Device_step_74 rfl ?_
    refine r_V3 v_Device_source w_694 lc_122 (CF_eq (c_Device_source _ _ _) (by rw [src_eq hR hs]) rfl) (Nat.le_of_ble_eq_true rfl) (Nat.le_of_ble_eq_true rfl) d_Device_step_76 ?_
    refine r_puti nf_Device_53 nfin_Device_3 lc_122 rfl d_Device_step_79 ?_
    refine r_goto 172 d_Device_step_82 (by decide) ?_
    refine r_iload d_Device_step_172 rfl ?_
    refine r_if_eq 190 d_Device_step_174 (by decide) (fun h_174 => ?_) (fun h_174 => ?_)
    · exact absurd h_174 (by decide)
    · skip
      refine r_aload_n (i := 0) d_Device_step_177 rfl rfl ?_
      refine r_getr nf_Device_20 lc_122 rfl d_Device_step_178 ?_
      refine r_iload d_Device_step_181 rfl ?_
      refine r_aload_n (i := 0) d_Device_step_183 rfl rfl ?_
      refine r_geti nf_Device_53 lc_122 rfl d_Device_step_184 ?_
      refine r_V2 v_Row_put w_601 row_125.1 (c_Row_put row_125 _ _ _ ) (Nat.le_of_ble_eq_true rfl) (Nat.le_of_ble_eq_true rfl) d_Device_step_187 ?_
      refine r_iload d_Device_step_190 rfl ?_
      refine r_zret rfl (by decide) d_Device_step_192 ?_
      have ev : rst (M 13) (M 31) s (0, nI r, nI k, dd, ee) = some (upd s.1 r (rsrc (M 31) s.2 dd ee), s.2) := by
        simp only [rst, nI_clamp (show r < 2 ^ 31 by omega), if_true]
      refine ⟨Or.inl ⟨_, ev, rfl, RA_put (r := r) hR ?_ ?_, ?_⟩, fun e e1 e2 e3 => by simp (disch := omega) only [ms_ne]⟩
      · simp (disch := omega) only [ms_same, ms_ne, rp_nI, upd_at]
      · simp (disch := omega) only [ms_ne]
      · simp (disch := omega) only [ms_same, ms_ne, upd_ne]
  · have ha : a = 1 := ha
    have f1 : dd = nI r1 := e1
    have f2 : ee = nI r2 := e2
    subst ha
    refine r_tableIn 85 d_Device_step_41 (by decide) (by decide) (off := 44) rfl (by decide) ?_
    refine r_aload_n (i := 0) d_Device_step_85 rfl rfl ?_
    refine r_aload_n (i := 3) d_Device_step_86 rfl rfl ?_
    refine r_iload d_Device_step_87 rfl ?_
    refine r_aload_n (i := 0) d_Device_step_89 rfl rfl ?_
    refine r_getr nf_Device_20 lc_122 rfl d_Device_step_90 ?_
    refine r_iload d_Device_step_93 rfl ?_
    refine r_V1 v_Row_get w_589 row_125.1 (CF_eq (c_Row_get row_125 dd _) (show _ = some (Value.int (s.1 r1)) by rw [f1, rg_nI _ hr1 (by omega), hR.1 r1 hr1]) rfl) (Nat.le_of_ble_eq_true rfl) (Nat.le_of_ble_eq_true rfl) d_Device_step_95 ?_
    refine r_aload_n (i := 0) d_Device_step_98 rfl rfl ?_
    refine r_getr nf_Device_20 lc_122 rfl d_Device_step_99 ?_
    refine r_iload d_Device_step_102 rfl ?_
    refine r_V1 v_Row_get w_589 row_125.1 (CF_eq (c_Row_get row_125 ee _) (show _ = some (Value.int (s.1 r2)) by rw [f2, rg_nI _ hr2 (by omega), hR.1 r2 hr2]) rfl) (Nat.le_of_ble_eq_true rfl) (Nat.le_of_ble_eq_true rfl) d_Device_step_104 ?_
    refine r_W4 v_Device_operate w_591 lc_122 (c_Device_operate _ _ _ _) (Nat.le_of_ble_eq_true rfl) (Nat.le_of_ble_eq_true rfl) d_Device_step_107 (fun v N2 hv => ?_)
    rw [rg_nI _ (show k < 31 by omega) (by omega)] at hv
    rcases hv with ⟨hb, rfl, rfl⟩ | ⟨hb, rfl, rfl⟩
    · skip
      skip
      refine r_istore d_Device_step_110 (Nat.le_of_ble_eq_true rfl) rfl ?_
      dsimp only [List.set]
      refine r_goto 172 d_Device_step_112 (by decide) ?_
      refine r_iload d_Device_step_172 rfl ?_
      refine r_if_eq 190 d_Device_step_174 (by decide) (fun h_174 => ?_) (fun h_174 => ?_)
      · skip
        refine r_iload d_Device_step_190 rfl ?_
        refine r_zret rfl (by decide) d_Device_step_192 ?_
        have ev : rst (M 13) (M 31) s (1, nI r, nI k, dd, ee) = none := by
          simp only [rst, rl, rr, nI_clamp (show k < 2 ^ 31 by omega), nI_clamp (show r < 2 ^ 31 by omega), show ¬ (1 : Int32) = 0 by decide, show ¬ (1 : Int32) = 3 by decide, if_false, if_true, f1, f2, nI_clamp (show r1 < 2 ^ 31 by omega), nI_clamp (show r2 < 2 ^ 31 by omega)]
          rw [if_pos hb]
        exact ⟨Or.inr ⟨ev, rfl, by simp (disch := omega) only [ms_same, upd_at]⟩, fun e e1 e2 e3 => by simp (disch := omega) only [ms_ne]⟩
      · exact absurd h_174 (by decide)
    · skip
      skip
      refine r_istore d_Device_step_110 (Nat.le_of_ble_eq_true rfl) rfl ?_
      dsimp only [List.set]
      refine r_goto 172 d_Device_step_112 (by decide) ?_
      refine r_iload d_Device_step_172 rfl ?_
      refine r_if_eq 190 d_Device_step_174 (by decide) (fun h_174 => ?_) (fun h_174 => ?_)
      · exact absurd h_174 (by decide)
      · skip
        refine r_aload_n (i := 0) d_Device_step_177 rfl rfl ?_
        refine r_getr nf_Device_20 lc_122 rfl d_Device_step_178 ?_
        refine r_iload d_Device_step_181 rfl ?_
        refine r_aload_n (i := 0) d_Device_step_183 rfl rfl ?_
        refine r_geti nf_Device_53 lc_122 rfl d_Device_step_184 ?_
        refine r_V2 v_Row_put w_601 row_125.1 (c_Row_put row_125 _ _ _ ) (Nat.le_of_ble_eq_true rfl) (Nat.le_of_ble_eq_true rfl) d_Device_step_187 ?_
        refine r_iload d_Device_step_190 rfl ?_
        refine r_zret rfl (by decide) d_Device_step_192 ?_
        have hc : ¬ o_tb (M 13 k) (s.1 r1) (s.1 r2) = true := by rw [hb]; decide
        have ev : rst (M 13) (M 31) s (1, nI r, nI k, dd, ee) = some (upd s.1 r (o_out (M 13 k) (s.1 r1) (s.1 r2)), s.2) := by
          simp only [rst, rl, rr, nI_clamp (show k < 2 ^ 31 by omega), nI_clamp (show r < 2 ^ 31 by omega), show ¬ (1 : Int32) = 0 by decide, show ¬ (1 : Int32) = 3 by decide, if_false, if_true, f1, f2, nI_clamp (show r1 < 2 ^ 31 by omega), nI_clamp (show r2 < 2 ^ 31 by omega)]
          rw [if_neg hc]
        refine ⟨Or.inl ⟨_, ev, rfl, RA_put (r := r) hR ?_ ?_, ?_⟩, fun e e1 e2 e3 => by simp (disch := omega) only [ms_ne]⟩
        · simp (disch := omega) only [ms_same, ms_ne, rp_nI, upd_at]
        · simp (disch := omega) only [ms_ne]
        · simp (disch := omega) only [ms_same, ms_ne, upd_ne]
  · have ha : a = 2 := ha
    subst ha
    refine r_tableIn 115 d_Device_step_41 (by decide) (by decide) (off := 74) rfl (by decide) ?_
    refine r_aload_n (i := 0) d_Device_step_115 rfl rfl ?_
    refine r_aload_n (i := 3) d_Device_step_116 rfl rfl ?_
    refine r_iload d_Device_step_117 rfl ?_
    refine r_aload_n (i := 0) d_Device_step_119 rfl rfl ?_
    refine r_getr nf_Device_20 lc_122 rfl d_Device_step_120 ?_
    refine r_iload d_Device_step_123 rfl ?_
    refine r_V1 v_Row_get w_589 row_125.1 (c2_Row_get row_125 hr (hR.1 r hr)) (Nat.le_of_ble_eq_true rfl) (Nat.le_of_ble_eq_true rfl) d_Device_step_125 ?_
    refine r_aload_n (i := 0) d_Device_step_128 rfl rfl ?_
    refine r_aload d_Device_step_129 rfl ?_
    refine r_iload d_Device_step_131 rfl ?_
    refine r_iload d_Device_step_133 rfl ?_
    refine r_V3 v_Device_source w_694 lc_122 (CF_eq (c_Device_source _ _ _) (by rw [src_eq hR hs]) rfl) (Nat.le_of_ble_eq_true rfl) (Nat.le_of_ble_eq_true rfl) d_Device_step_135 ?_
    refine r_W4 v_Device_operate w_591 lc_122 (c_Device_operate _ _ _ _) (Nat.le_of_ble_eq_true rfl) (Nat.le_of_ble_eq_true rfl) d_Device_step_138 (fun v N2 hv => ?_)
    rw [rg_nI _ (show k < 31 by omega) (by omega)] at hv
    rcases hv with ⟨hb, rfl, rfl⟩ | ⟨hb, rfl, rfl⟩
    · skip
      skip
      refine r_istore d_Device_step_141 (Nat.le_of_ble_eq_true rfl) rfl ?_
      dsimp only [List.set]
      refine r_goto 172 d_Device_step_143 (by decide) ?_
      refine r_iload d_Device_step_172 rfl ?_
      refine r_if_eq 190 d_Device_step_174 (by decide) (fun h_174 => ?_) (fun h_174 => ?_)
      · skip
        refine r_iload d_Device_step_190 rfl ?_
        refine r_zret rfl (by decide) d_Device_step_192 ?_
        have ev : rst (M 13) (M 31) s (2, nI r, nI k, dd, ee) = none := by
          simp only [rst, rl, rr, nI_clamp (show k < 2 ^ 31 by omega), nI_clamp (show r < 2 ^ 31 by omega), show ¬ (2 : Int32) = 0 by decide, show ¬ (2 : Int32) = 3 by decide, if_false, if_true, show ¬ (2 : Int32) = 1 by decide]
          rw [if_pos hb]
        exact ⟨Or.inr ⟨ev, rfl, by simp (disch := omega) only [ms_same, upd_at]⟩, fun e e1 e2 e3 => by simp (disch := omega) only [ms_ne]⟩
      · exact absurd h_174 (by decide)
    · skip
      skip
      refine r_istore d_Device_step_141 (Nat.le_of_ble_eq_true rfl) rfl ?_
      dsimp only [List.set]
      refine r_goto 172 d_Device_step_143 (by decide) ?_
      refine r_iload d_Device_step_172 rfl ?_
      refine r_if_eq 190 d_Device_step_174 (by decide) (fun h_174 => ?_) (fun h_174 => ?_)
      · exact absurd h_174 (by decide)
      · skip
        refine r_aload_n (i := 0) d_Device_step_177 rfl rfl ?_
        refine r_getr nf_Device_20 lc_122 rfl d_Device_step_178 ?_
        refine r_iload d_Device_step_181 rfl ?_
        refine r_aload_n (i := 0) d_Device_step_183 rfl rfl ?_
        refine r_geti nf_Device_53 lc_122 rfl d_Device_step_184 ?_
        refine r_V2 v_Row_put w_601 row_125.1 (c_Row_put row_125 _ _ _ ) (Nat.le_of_ble_eq_true rfl) (Nat.le_of_ble_eq_true rfl) d_Device_step_187 ?_
        refine r_iload d_Device_step_190 rfl ?_
        refine r_zret rfl (by decide) d_Device_step_192 ?_
        have hc : ¬ o_tb (M 13 k) (s.1 r) (rsrc (M 31) s.2 dd ee) = true := by rw [hb]; decide
        have ev : rst (M 13) (M 31) s (2, nI r, nI k, dd, ee) = some (upd s.1 r (o_out (M 13 k) (s.1 r) (rsrc (M 31) s.2 dd ee)), s.2) := by
          simp only [rst, rl, rr, nI_clamp (show k < 2 ^ 31 by omega), nI_clamp (show r < 2 ^ 31 by omega), show ¬ (2 : Int32) = 0 by decide, show ¬ (2 : Int32) = 3 by decide, if_false, if_true, show ¬ (2 : Int32) = 1 by decide]
          rw [if_neg hc]
        refine ⟨Or.inl ⟨_, ev, rfl, RA_put (r := r) hR ?_ ?_, ?_⟩, fun e e1 e2 e3 => by simp (disch := omega) only [ms_ne]⟩
        · simp (disch := omega) only [ms_same, ms_ne, rp_nI, upd_at]
        · simp (disch := omega) only [ms_ne]
        · simp (disch := omega) only [ms_same, ms_ne, upd_ne]
  · have ha : a = 3 := ha
    have f3 : ee = nI c3 := e3
    subst ha
    refine r_tableOut 146 d_Device_step_41 (by decide) (by decide) ?_
    refine r_aload_n (i := 0) d_Device_step_146 rfl rfl ?_
    refine r_aload_n (i := 0) d_Device_step_147 rfl rfl ?_
    refine r_getr nf_Device_20 lc_122 rfl d_Device_step_148 ?_
    refine r_iload d_Device_step_151 rfl ?_
    refine r_V1 v_Row_get w_589 row_125.1 (c2_Row_get row_125 hr (hR.1 r hr)) (Nat.le_of_ble_eq_true rfl) (Nat.le_of_ble_eq_true rfl) d_Device_step_153 ?_
    refine r_puti nf_Device_53 nfin_Device_3 lc_122 rfl d_Device_step_156 ?_
    refine r_aload_n (i := 0) d_Device_step_159 rfl rfl ?_
    refine r_getr nf_Device_23 lc_122 rfl d_Device_step_160 ?_
    refine r_iload d_Device_step_163 rfl ?_
    refine r_aload_n (i := 0) d_Device_step_165 rfl rfl ?_
    refine r_geti nf_Device_53 lc_122 rfl d_Device_step_166 ?_
    refine r_V2 v_Row_put w_601 row_127.1 (c_Row_put row_127 _ _ _ ) (Nat.le_of_ble_eq_true rfl) (Nat.le_of_ble_eq_true rfl) d_Device_step_169 ?_
    refine r_iload d_Device_step_172 rfl ?_
    refine r_if_eq 190 d_Device_step_174 (by decide) (fun h_174 => ?_) (fun h_174 => ?_)
    · exact absurd h_174 (by decide)
    · skip
      refine r_aload_n (i := 0) d_Device_step_177 rfl rfl ?_
      refine r_getr nf_Device_20 lc_122 rfl d_Device_step_178 ?_
      refine r_iload d_Device_step_181 rfl ?_
      refine r_aload_n (i := 0) d_Device_step_183 rfl rfl ?_
      refine r_geti nf_Device_53 lc_122 rfl d_Device_step_184 ?_
      refine r_V2 v_Row_put w_601 row_125.1 (c_Row_put row_125 _ _ _ ) (Nat.le_of_ble_eq_true rfl) (Nat.le_of_ble_eq_true rfl) d_Device_step_187 ?_
      refine r_iload d_Device_step_190 rfl ?_
      refine r_zret rfl (by decide) d_Device_step_192 ?_
      have ev : rst (M 13) (M 31) s (3, nI r, nI k, dd, ee) = some (s.1, upd s.2 c3 (s.1 r)) := by
        simp only [rst, nI_clamp (show r < 2 ^ 31 by omega), f3, nI_clamp (show c3 < 2 ^ 31 by omega), show ¬ (3 : Int32) = 0 by decide, if_false, if_true]
      refine ⟨Or.inl ⟨_, ev, rfl, ⟨fun q hq => ?_, fun q hq => ?_⟩, ?_⟩, fun e e1 e2 e3 => by simp (disch := omega) only [ms_ne]⟩
      · simp (disch := omega) only [ms_same, ms_ne, rp_nI, upd_at]
        by_cases e : q = r
        · subst e; rw [upd_at]
        · rw [upd_ne _ _ e]; exact hR.1 q hq
      · simp (disch := omega) only [ms_same, ms_ne, upd_at]
        rw [f3, rp_nI _ _ hc3 (by omega)]
        show upd _ c3 _ q = upd _ c3 _ q
        by_cases e : q = c3
        · subst e; rw [upd_at, upd_at]
        · rw [upd_ne _ _ e, upd_ne _ _ e]; exact hR.2 q hq
      · simp (disch := omega) only [ms_same, ms_ne, upd_ne]

theorem l_Device_goThrough {n nn : Nat} {ls : List Ln} {M0 : nw_M} (hn : n ≤ 31) (hnn : nn ≤ ls.length) (hls : ls.length ≤ 93) (hPL : ∀ (j : Nat) (x : Ln), ls[j]? = some x → M0 119 (5 * j) = x.1 ∧ M0 119 (5 * j + 1) = x.2.1 ∧ M0 119 (5 * j + 2) = x.2.2.1 ∧ M0 119 (5 * j + 3) = x.2.2.2.1 ∧ M0 119 (5 * j + 4) = x.2.2.2.2) (hOK : ∀ x ∈ ls, LOK n x) {P : Option Value → nw_M → Prop} (hP : ∀ v N, (((∃ s, rns (M0 13) (M0 31) ls (fun _ => 0, fun _ => 0) nn = .inl s ∧ v = some (.int 1) ∧ N 122 3 = s.1 0 ∧ N 122 4 = M0 122 4) ∨ ∃ t, rns (M0 13) (M0 31) ls (fun _ => 0, fun _ => 0) nn = .inr t ∧ v = some (.int 0) ∧ N 122 4 = t) ∧ ∀ e, e ≠ 122 → e ≠ 126 → e ≠ 128 → N e = M0 e) → P v N) : ∀ (d m : Nat) (s : RS) (N : nw_M), m + d = nn → (∀ e, e ≠ 122 → e ≠ 126 → e ≠ 128 → N e = M0 e) → N 122 4 = M0 122 4 → rns (M0 13) (M0 31) ls (fun _ => 0, fun _ => 0) m = .inl s → RA N s → RJ G LC m_Device_goThrough 3 P 17 [some (.ref (G.2.2 122)), some (.ref (G.2.2 117)), some (.int (nI nn)), some (.ref (G.2.2 11)), some (.ref (G.2.2 30)), some (.int (nI m))] [] N := by
  intro d
  induction d with
  | zero =>
    intro m s N hm hF h4 hE hR
    simp only [Nat.add_zero] at hm
    subst hm
    refine r_iload d_Device_goThrough_17 rfl ?_
    refine r_iload_n (i := 2) d_Device_goThrough_19 rfl rfl ?_
    refine r_icmp_ge 44 d_Device_goThrough_20 (by decide) (fun _ => ?_) (fun h9 => absurd (nI_le (Nat.le_refl _) (by omega)) h9)
    refine r_aload_n (i := 0) d_Device_goThrough_44 rfl rfl ?_
    refine r_aload_n (i := 0) d_Device_goThrough_45 rfl rfl ?_
    refine r_getr nf_Device_20 lc_122 rfl d_Device_goThrough_46 ?_
    refine r_iconst 0 d_Device_goThrough_49 ic_0 ?_
    refine r_V1 v_Row_get w_589 row_125.1 (CF_eq (c2_Row_get (k := 0) row_125 (by omega) (hR.1 0 (by omega))) rfl rfl) (Nat.le_of_ble_eq_true rfl) (Nat.le_of_ble_eq_true rfl) d_Device_goThrough_50 ?_
    refine r_puti nf_Device_53 nfin_Device_3 lc_122 rfl d_Device_goThrough_53 ?_
    refine r_iconst 1 d_Device_goThrough_56 ic_1 ?_
    refine r_zret rfl (by decide) d_Device_goThrough_57 ?_
    apply hP
    refine ⟨Or.inl ⟨s, hE, rfl, ?_, ?_⟩, fun e e1 e2 e3 => ?_⟩
    · simp (disch := omega) only [ms_same, upd_at]
    · simp (disch := omega) only [ms_same, upd_ne]
      exact h4
    · simp (disch := omega) only [ms_ne]
      exact hF e e1 e2 e3
  | succ d ih =>
    intro m s N hm hF h4 hE hR
    have q13 : N 13 = M0 13 := hF _ (by omega) (by omega) (by omega)
    have q31 : N 31 = M0 31 := hF _ (by omega) (by omega) (by omega)
    have q119 : N 119 = M0 119 := hF _ (by omega) (by omega) (by omega)
    have hx : ls[m]? = some ls[m] := List.getElem?_eq_getElem (by omega)
    obtain ⟨g0, g1, g2, g3, g4⟩ := hPL m _ hx
    have gO := hOK _ (List.mem_of_getElem? hx)
    generalize ls[m] = x at hx g0 g1 g2 g3 g4 gO
    obtain ⟨xa, xb, xc, xd, xe⟩ := x
    rw [← q119] at g0 g1 g2 g3 g4
    refine r_iload d_Device_goThrough_17 rfl ?_
    refine r_iload_n (i := 2) d_Device_goThrough_19 rfl rfl ?_
    refine r_icmp_ge 44 d_Device_goThrough_20 (by decide) (fun h_20 => ?_) (fun h_20 => ?_)
    · skip
      exact absurd h_20 (nI_ge (by omega) (by omega))
    · skip
      refine r_aload_n (i := 0) d_Device_goThrough_23 rfl rfl ?_
      refine r_aload_n (i := 1) d_Device_goThrough_24 rfl rfl ?_
      refine r_iload d_Device_goThrough_25 rfl ?_
      refine r_aload_n (i := 3) d_Device_goThrough_27 rfl rfl ?_
      refine r_aload d_Device_goThrough_28 rfl ?_
      refine r_W4 v_Device_step w_689 lc_122 (c_Device_step (n := n) (j := m) (s := s) hn (by omega) g0 g1 g2 g3 g4 gO hR) (Nat.le_of_ble_eq_true rfl) (Nat.le_of_ble_eq_true rfl) d_Device_goThrough_30 (fun v N2 hv => ?_)
      rw [q13, q31] at hv
      obtain ⟨hv1, hv2⟩ := hv
      rcases hv1 with ⟨s2, hs2, rfl, hR2, hf4⟩ | ⟨hs2, rfl, hf4⟩
      · skip
        skip
        refine r_if_ne 38 d_Device_goThrough_33 (by decide) (fun h_33 => ?_) (fun h_33 => ?_)
        · skip
          refine r_iinc d_Device_goThrough_38 rfl (nI_inc m) (Nat.le_of_ble_eq_true rfl) rfl ?_
          dsimp only [List.set]
          refine r_goto 17 d_Device_goThrough_41 (by decide) ?_
          refine ih (m + 1) s2 N2 (by omega) (fun e e1 e2 e3 => by rw [hv2 e e1 e2 e3]; exact hF e e1 e2 e3) (by rw [hf4]; exact h4) ?_ hR2
          simp only [rns, hE, hx, hs2]
        · exact absurd h_33 (by decide)
      · skip
        skip
        refine r_if_ne 38 d_Device_goThrough_33 (by decide) (fun h_33 => ?_) (fun h_33 => ?_)
        · exact absurd h_33 (by decide)
        · skip
          refine r_iconst 0 d_Device_goThrough_36 ic_0 ?_
          refine r_zret rfl (by decide) d_Device_goThrough_37 ?_
          apply hP
          refine ⟨Or.inr ⟨xc, ?_, rfl, hf4⟩, fun e e1 e2 e3 => by rw [hv2 e e1 e2 e3]; exact hF e e1 e2 e3⟩
          rw [show nn = m + 1 + d by omega]
          refine rns_stuck ?_ d
          simp only [rns, hE, hx, hs2]

theorem c_Device_goThrough {n nn : Nat} {ls : List Ln} {M0 : nw_M} (hn : n ≤ 31) (hnn : nn ≤ ls.length) (hls : ls.length ≤ 93) (hPL : ∀ (j : Nat) (x : Ln), ls[j]? = some x → M0 119 (5 * j) = x.1 ∧ M0 119 (5 * j + 1) = x.2.1 ∧ M0 119 (5 * j + 2) = x.2.2.1 ∧ M0 119 (5 * j + 3) = x.2.2.2.1 ∧ M0 119 (5 * j + 4) = x.2.2.2.2) (hOK : ∀ x ∈ ls, LOK n x) : CJ G LC m_Device_goThrough 3 [.ref (G.2.2 122), .ref (G.2.2 117), .int (nI nn), .ref (G.2.2 11), .ref (G.2.2 30)] M0 (fun v N => ((∃ s, rns (M0 13) (M0 31) ls (fun _ => 0, fun _ => 0) nn = .inl s ∧ v = some (.int 1) ∧ N 122 3 = s.1 0 ∧ N 122 4 = M0 122 4) ∨ ∃ t, rns (M0 13) (M0 31) ls (fun _ => 0, fun _ => 0) nn = .inr t ∧ v = some (.int 0) ∧ N 122 4 = t) ∧ ∀ e, e ≠ 122 → e ≠ 126 → e ≠ 128 → N e = M0 e) := by
  refine CJ_of2 (n0 := 1) (by decide) rfl rfl ?_
  simp only [List.map_cons, List.map_nil, List.cons_append, List.nil_append, List.reduceReplicate]
  refine r_aload_n (i := 0) d_Device_goThrough_0 rfl rfl ?_
  refine r_getr nf_Device_20 lc_122 rfl d_Device_goThrough_1 ?_
  refine r_V0 v_Row_empty w_685 row_125.1 (c_Row_empty row_125 _ ) (Nat.le_of_ble_eq_true rfl) (Nat.le_of_ble_eq_true rfl) d_Device_goThrough_4 ?_
  refine r_aload_n (i := 0) d_Device_goThrough_7 rfl rfl ?_
  refine r_getr nf_Device_23 lc_122 rfl d_Device_goThrough_8 ?_
  refine r_V0 v_Row_empty w_685 row_127.1 (c_Row_empty row_127 _ ) (Nat.le_of_ble_eq_true rfl) (Nat.le_of_ble_eq_true rfl) d_Device_goThrough_11 ?_
  refine r_iconst 0 d_Device_goThrough_14 ic_0 ?_
  refine r_istore d_Device_goThrough_15 (Nat.le_of_ble_eq_true rfl) rfl ?_
  dsimp only [List.set]
  refine l_Device_goThrough hn hnn hls hPL hOK (fun v N h => h) nn 0 (fun _ => 0, fun _ => 0) _ (by omega) (fun e e1 e2 e3 => by simp (disch := omega) only [ms_ne]) (by simp (disch := omega) only [ms_ne]) rfl ⟨fun r hr => ?_, fun r hr => ?_⟩
  · simp (disch := omega) only [ms_same, ms_ne]
    simp [cp, hr]
  · simp (disch := omega) only [ms_same, ms_ne]
    simp [cp, hr]

end MDev2
