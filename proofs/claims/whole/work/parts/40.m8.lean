-- the model: programs
section MM9
variable {G : nw_G} {n : Nat} {le nu lf rt nm : Nat → Int32} {mc z : Nat → Nat} {M : nw_M} {T ls : List Ln} {c : Nat} {P : Option Value → nw_M → Prop} {i0 : Int32}
/-- all goes well from the head of the loop -/
def HD (G : nw_G) (P : Option Value → nw_M → Prop) (i0 : Int32) (N : nw_M) : Prop := ∀ (o2 o3 o4 o5 o6 : Option Value), RJ G LM m_Model_programs 5 P 35 [some (.ref (G.2.2 0)), some (.int i0), o2, o3, o4, o5, o6] [] N
def popM (N : nw_M) (T : List Ln) : nw_M := ms N 0 (upd (N 0) 24 (nI (T.length + 1 - 1)))
theorem PG.pop {x : Ln} {N : nw_M} (h : PG M (x :: T) ls c N) : PG M T ls c (popM N T) := by
  unfold popM
  refine ⟨fun e e0 e1 e2 e3 => ?_, fun j j1 j2 j3 => ?_, ?_, ?_, ?_, ?_, ?_⟩
  · rw [ms_ne _ _ e0]; exact h.1 e e0 e1 e2 e3
  · rw [ms_same, upd_ne _ _ j1]; exact h.2.1 j j1 j2 j3
  · rw [ms_same, upd_at]; rfl
  · rw [ms_ne _ _ (by decide)]; exact h.2.2.2.1.2.2.2.2.2
  · rw [ms_same, upd_ne _ _ (by decide)]; exact h.2.2.2.2.1
  · rw [ms_ne _ _ (by decide)]; exact h.2.2.2.2.2.1
  · rw [ms_same, upd_ne _ _ (by decide)]; exact h.2.2.2.2.2.2
theorem pop17 (N : nw_M) (T : List Ln) : popM N T 17 = N 17 := rfl
set_option maxHeartbeats 1000000 in
theorem st1 {k b : Nat} {x y : Int32} {N : nw_M} (hP : PG M ((1, nI k, nI b, x, y) :: T) ls c N) (hT : T.length < 255) (hls : ls.length < 128) (hk : ∀ N2, PG M T (ls ++ [(1, nI b, nI k, x, y)]) c N2 → N2 17 = N 17 → HD G P i0 N2) : HD G P i0 N := by
  have hPp := hP.pop
  intro o2 o3 o4 o5 o6
  refine r_aload_n (i := 0) d_Model_programs_35 rfl rfl ?_
  refine r_gx nf_Model_216 lm_0 rfl (show N 0 24 = nI (T.length + 1) from hP.2.2.1) d_Model_programs_36 ?_
  refine r_if_le 253 d_Model_programs_39 (by decide) (fun h_39 => ?_) (fun h_39 => ?_)
  · skip
    exact absurd h_39 (nI_nle (by omega) (by omega))
  · skip
    refine r_aload_n (i := 0) d_Model_programs_42 rfl rfl ?_
    refine r_dup d_Model_programs_43 rfl ?_
    refine r_gx nf_Model_216 lm_0 rfl (show N 0 24 = nI (T.length + 1) from hP.2.2.1) d_Model_programs_44 ?_
    refine r_iconst 1 d_Model_programs_47 ic_1 ?_
    refine r_isubN (a := (T.length + 1)) (b := 1) d_Model_programs_48 rfl rfl (by omega) ?_
    refine r_puti nf_Model_216 nfin_Model_24 lm_0 rfl d_Model_programs_49 ?_
    refine r_aload_n (i := 0) d_Model_programs_52 rfl rfl ?_
    refine r_getr nf_Model_53 lm_0 rfl d_Model_programs_53 ?_
    refine r_iconst 5 d_Model_programs_56 ic_5 ?_
    refine r_aload_n (i := 0) d_Model_programs_57 rfl rfl ?_
    refine r_gx nf_Model_216 lm_0 rfl (rfl) d_Model_programs_58 ?_
    refine r_imulN (a := 5) (b := T.length) d_Model_programs_61 rfl rfl ?_
    refine r_ia (q := (5 * T.length)) lm_15 rfl (by omega) (by decide) (hP.2.2.2.1.1) d_Model_programs_62 ?_
    refine r_istore_n (i := 2) d_Model_programs_63 rfl (Nat.le_of_ble_eq_true rfl) rfl ?_
    dsimp only [List.set]
    refine r_aload_n (i := 0) d_Model_programs_64 rfl rfl ?_
    refine r_getr nf_Model_53 lm_0 rfl d_Model_programs_65 ?_
    refine r_iconst 5 d_Model_programs_68 ic_5 ?_
    refine r_aload_n (i := 0) d_Model_programs_69 rfl rfl ?_
    refine r_gx nf_Model_216 lm_0 rfl (rfl) d_Model_programs_70 ?_
    refine r_imulN (a := 5) (b := T.length) d_Model_programs_73 rfl rfl ?_
    refine r_iconst 1 d_Model_programs_74 ic_1 ?_
    refine r_iaddN (a := (5 * T.length)) (b := 1) d_Model_programs_75 rfl rfl ?_
    refine r_ia (q := ((5 * T.length) + 1)) lm_15 rfl (by omega) (by decide) (hP.2.2.2.1.2.1) d_Model_programs_76 ?_
    refine r_istore_n (i := 3) d_Model_programs_77 rfl (Nat.le_of_ble_eq_true rfl) rfl ?_
    dsimp only [List.set]
    refine r_aload_n (i := 0) d_Model_programs_78 rfl rfl ?_
    refine r_getr nf_Model_53 lm_0 rfl d_Model_programs_79 ?_
    refine r_iconst 5 d_Model_programs_82 ic_5 ?_
    refine r_aload_n (i := 0) d_Model_programs_83 rfl rfl ?_
    refine r_gx nf_Model_216 lm_0 rfl (rfl) d_Model_programs_84 ?_
    refine r_imulN (a := 5) (b := T.length) d_Model_programs_87 rfl rfl ?_
    refine r_iconst 2 d_Model_programs_88 ic_2 ?_
    refine r_iaddN (a := (5 * T.length)) (b := 2) d_Model_programs_89 rfl rfl ?_
    refine r_ia (q := ((5 * T.length) + 2)) lm_15 rfl (by omega) (by decide) (hP.2.2.2.1.2.2.1) d_Model_programs_90 ?_
    refine r_istore d_Model_programs_91 (Nat.le_of_ble_eq_true rfl) rfl ?_
    dsimp only [List.set]
    refine r_aload_n (i := 0) d_Model_programs_93 rfl rfl ?_
    refine r_getr nf_Model_53 lm_0 rfl d_Model_programs_94 ?_
    refine r_iconst 5 d_Model_programs_97 ic_5 ?_
    refine r_aload_n (i := 0) d_Model_programs_98 rfl rfl ?_
    refine r_gx nf_Model_216 lm_0 rfl (rfl) d_Model_programs_99 ?_
    refine r_imulN (a := 5) (b := T.length) d_Model_programs_102 rfl rfl ?_
    refine r_iconst 3 d_Model_programs_103 ic_3 ?_
    refine r_iaddN (a := (5 * T.length)) (b := 3) d_Model_programs_104 rfl rfl ?_
    refine r_ia (q := ((5 * T.length) + 3)) lm_15 rfl (by omega) (by decide) (hP.2.2.2.1.2.2.2.1) d_Model_programs_105 ?_
    refine r_istore d_Model_programs_106 (Nat.le_of_ble_eq_true rfl) rfl ?_
    dsimp only [List.set]
    refine r_aload_n (i := 0) d_Model_programs_108 rfl rfl ?_
    refine r_getr nf_Model_53 lm_0 rfl d_Model_programs_109 ?_
    refine r_iconst 5 d_Model_programs_112 ic_5 ?_
    refine r_aload_n (i := 0) d_Model_programs_113 rfl rfl ?_
    refine r_gx nf_Model_216 lm_0 rfl (rfl) d_Model_programs_114 ?_
    refine r_imulN (a := 5) (b := T.length) d_Model_programs_117 rfl rfl ?_
    refine r_iconst 4 d_Model_programs_118 ic_4 ?_
    refine r_iaddN (a := (5 * T.length)) (b := 4) d_Model_programs_119 rfl rfl ?_
    refine r_ia (q := ((5 * T.length) + 4)) lm_15 rfl (by omega) (by decide) (hP.2.2.2.1.2.2.2.2.1) d_Model_programs_120 ?_
    refine r_istore d_Model_programs_121 (Nat.le_of_ble_eq_true rfl) rfl ?_
    dsimp only [List.set]
    refine r_iload_n (i := 2) d_Model_programs_123 rfl rfl ?_
    refine r_if_ne 139 d_Model_programs_124 (by decide) (fun h_124 => ?_) (fun h_124 => ?_)
    · skip
      refine r_iload_n (i := 2) d_Model_programs_139 rfl rfl ?_
      refine r_iconst 1 d_Model_programs_140 ic_1 ?_
      refine r_icmp_ne 159 d_Model_programs_141 (by decide) (fun h_141 => ?_) (fun h_141 => ?_)
      · exact absurd h_141 (by decide)
      · skip
        refine r_aload_n (i := 0) d_Model_programs_144 rfl rfl ?_
        refine r_iconst 1 d_Model_programs_145 ic_1 ?_
        refine r_iload d_Model_programs_146 rfl ?_
        refine r_iload_n (i := 3) d_Model_programs_148 rfl rfl ?_
        refine r_iload d_Model_programs_149 rfl ?_
        refine r_iload d_Model_programs_151 rfl ?_
        refine r_W5 v_Model_writes w_1119 lm_0 (c_Model_writes hPp hls _ _ _ _ _) (Nat.le_of_ble_eq_true rfl) (Nat.le_of_ble_eq_true rfl) d_Model_programs_153 (fun v N2 hv => ?_)
        obtain ⟨rfl, hP2, e2⟩ := hv
        refine r_goto 250 d_Model_programs_156 (by decide) ?_
        refine r_goto 35 d_Model_programs_250 (by decide) ?_
        exact hk N2 hP2 (e2.trans (pop17 N T)) _ _ _ _ _
    · exact absurd h_124 (by decide)

set_option maxHeartbeats 1000000 in
theorem st2 {k b x cc : Nat} {N : nw_M} (hP : PG M ((2, nI k, nI b, nI x, 0) :: T) ls c N) (hT : T.length < 255) (hS : MS n le nu lf rt nm mc (M 3)) (hlf : ∀ j, j < n → M 11 j = bI (decide (lf j = -9))) (hn : n ≤ 31) (hls : ls.length < 128) (hx : x < n) (hcc : lf x ≠ -9 → N 17 x = nI cc) (hk : ∀ N2, PG M T (ls ++ [(2, nI b, nI k, srK le lf x, srN nu lf x cc)]) c N2 → N2 17 = N 17 → HD G P i0 N2) : HD G P i0 N := by
  have hPp := hP.pop
  intro o2 o3 o4 o5 o6
  have hS2 : MS n le nu lf rt nm mc (popM N T 3) := by rw [hPp.1 3 (by decide) (by decide) (by decide) (by decide)]; exact hS
  have hlf2 : ∀ j, j < n → popM N T 11 j = bI (decide (lf j = -9)) := by rw [hPp.1 11 (by decide) (by decide) (by decide) (by decide)]; exact hlf
  refine r_aload_n (i := 0) d_Model_programs_35 rfl rfl ?_
  refine r_gx nf_Model_216 lm_0 rfl (show N 0 24 = nI (T.length + 1) from hP.2.2.1) d_Model_programs_36 ?_
  refine r_if_le 253 d_Model_programs_39 (by decide) (fun h_39 => ?_) (fun h_39 => ?_)
  · skip
    exact absurd h_39 (nI_nle (by omega) (by omega))
  · skip
    refine r_aload_n (i := 0) d_Model_programs_42 rfl rfl ?_
    refine r_dup d_Model_programs_43 rfl ?_
    refine r_gx nf_Model_216 lm_0 rfl (show N 0 24 = nI (T.length + 1) from hP.2.2.1) d_Model_programs_44 ?_
    refine r_iconst 1 d_Model_programs_47 ic_1 ?_
    refine r_isubN (a := (T.length + 1)) (b := 1) d_Model_programs_48 rfl rfl (by omega) ?_
    refine r_puti nf_Model_216 nfin_Model_24 lm_0 rfl d_Model_programs_49 ?_
    refine r_aload_n (i := 0) d_Model_programs_52 rfl rfl ?_
    refine r_getr nf_Model_53 lm_0 rfl d_Model_programs_53 ?_
    refine r_iconst 5 d_Model_programs_56 ic_5 ?_
    refine r_aload_n (i := 0) d_Model_programs_57 rfl rfl ?_
    refine r_gx nf_Model_216 lm_0 rfl (rfl) d_Model_programs_58 ?_
    refine r_imulN (a := 5) (b := T.length) d_Model_programs_61 rfl rfl ?_
    refine r_ia (q := (5 * T.length)) lm_15 rfl (by omega) (by decide) (hP.2.2.2.1.1) d_Model_programs_62 ?_
    refine r_istore_n (i := 2) d_Model_programs_63 rfl (Nat.le_of_ble_eq_true rfl) rfl ?_
    dsimp only [List.set]
    refine r_aload_n (i := 0) d_Model_programs_64 rfl rfl ?_
    refine r_getr nf_Model_53 lm_0 rfl d_Model_programs_65 ?_
    refine r_iconst 5 d_Model_programs_68 ic_5 ?_
    refine r_aload_n (i := 0) d_Model_programs_69 rfl rfl ?_
    refine r_gx nf_Model_216 lm_0 rfl (rfl) d_Model_programs_70 ?_
    refine r_imulN (a := 5) (b := T.length) d_Model_programs_73 rfl rfl ?_
    refine r_iconst 1 d_Model_programs_74 ic_1 ?_
    refine r_iaddN (a := (5 * T.length)) (b := 1) d_Model_programs_75 rfl rfl ?_
    refine r_ia (q := ((5 * T.length) + 1)) lm_15 rfl (by omega) (by decide) (hP.2.2.2.1.2.1) d_Model_programs_76 ?_
    refine r_istore_n (i := 3) d_Model_programs_77 rfl (Nat.le_of_ble_eq_true rfl) rfl ?_
    dsimp only [List.set]
    refine r_aload_n (i := 0) d_Model_programs_78 rfl rfl ?_
    refine r_getr nf_Model_53 lm_0 rfl d_Model_programs_79 ?_
    refine r_iconst 5 d_Model_programs_82 ic_5 ?_
    refine r_aload_n (i := 0) d_Model_programs_83 rfl rfl ?_
    refine r_gx nf_Model_216 lm_0 rfl (rfl) d_Model_programs_84 ?_
    refine r_imulN (a := 5) (b := T.length) d_Model_programs_87 rfl rfl ?_
    refine r_iconst 2 d_Model_programs_88 ic_2 ?_
    refine r_iaddN (a := (5 * T.length)) (b := 2) d_Model_programs_89 rfl rfl ?_
    refine r_ia (q := ((5 * T.length) + 2)) lm_15 rfl (by omega) (by decide) (hP.2.2.2.1.2.2.1) d_Model_programs_90 ?_
    refine r_istore d_Model_programs_91 (Nat.le_of_ble_eq_true rfl) rfl ?_
    dsimp only [List.set]
    refine r_aload_n (i := 0) d_Model_programs_93 rfl rfl ?_
    refine r_getr nf_Model_53 lm_0 rfl d_Model_programs_94 ?_
    refine r_iconst 5 d_Model_programs_97 ic_5 ?_
    refine r_aload_n (i := 0) d_Model_programs_98 rfl rfl ?_
    refine r_gx nf_Model_216 lm_0 rfl (rfl) d_Model_programs_99 ?_
    refine r_imulN (a := 5) (b := T.length) d_Model_programs_102 rfl rfl ?_
    refine r_iconst 3 d_Model_programs_103 ic_3 ?_
    refine r_iaddN (a := (5 * T.length)) (b := 3) d_Model_programs_104 rfl rfl ?_
    refine r_ia (q := ((5 * T.length) + 3)) lm_15 rfl (by omega) (by decide) (hP.2.2.2.1.2.2.2.1) d_Model_programs_105 ?_
    refine r_istore d_Model_programs_106 (Nat.le_of_ble_eq_true rfl) rfl ?_
    dsimp only [List.set]
    refine r_aload_n (i := 0) d_Model_programs_108 rfl rfl ?_
    refine r_getr nf_Model_53 lm_0 rfl d_Model_programs_109 ?_
    refine r_iconst 5 d_Model_programs_112 ic_5 ?_
    refine r_aload_n (i := 0) d_Model_programs_113 rfl rfl ?_
    refine r_gx nf_Model_216 lm_0 rfl (rfl) d_Model_programs_114 ?_
    refine r_imulN (a := 5) (b := T.length) d_Model_programs_117 rfl rfl ?_
    refine r_iconst 4 d_Model_programs_118 ic_4 ?_
    refine r_iaddN (a := (5 * T.length)) (b := 4) d_Model_programs_119 rfl rfl ?_
    refine r_ia (q := ((5 * T.length) + 4)) lm_15 rfl (by omega) (by decide) (hP.2.2.2.1.2.2.2.2.1) d_Model_programs_120 ?_
    refine r_istore d_Model_programs_121 (Nat.le_of_ble_eq_true rfl) rfl ?_
    dsimp only [List.set]
    refine r_iload_n (i := 2) d_Model_programs_123 rfl rfl ?_
    refine r_if_ne 139 d_Model_programs_124 (by decide) (fun h_124 => ?_) (fun h_124 => ?_)
    · skip
      refine r_iload_n (i := 2) d_Model_programs_139 rfl rfl ?_
      refine r_iconst 1 d_Model_programs_140 ic_1 ?_
      refine r_icmp_ne 159 d_Model_programs_141 (by decide) (fun h_141 => ?_) (fun h_141 => ?_)
      · skip
        refine r_iload_n (i := 2) d_Model_programs_159 rfl rfl ?_
        refine r_iconst 2 d_Model_programs_160 ic_2 ?_
        refine r_icmp_ne 189 d_Model_programs_161 (by decide) (fun h_161 => ?_) (fun h_161 => ?_)
        · exact absurd h_161 (by decide)
        · skip
          refine r_aload_n (i := 0) d_Model_programs_164 rfl rfl ?_
          refine r_iconst 2 d_Model_programs_165 ic_2 ?_
          refine r_iload d_Model_programs_166 rfl ?_
          refine r_iload_n (i := 3) d_Model_programs_168 rfl rfl ?_
          refine r_aload_n (i := 0) d_Model_programs_169 rfl rfl ?_
          refine r_iload d_Model_programs_170 rfl ?_
          refine r_iconst 0 d_Model_programs_172 ic_0 ?_
          refine r_V2 v_Model_lies w_1115 lm_0 (c0_Model_lies (cc := cc) hS2 hlf2 hx hn) (Nat.le_of_ble_eq_true rfl) (Nat.le_of_ble_eq_true rfl) d_Model_programs_173 ?_
          refine r_aload_n (i := 0) d_Model_programs_176 rfl rfl ?_
          refine r_iload d_Model_programs_177 rfl ?_
          refine r_iconst 1 d_Model_programs_179 ic_1 ?_
          refine r_V2 v_Model_lies w_1115 lm_0 (c1_Model_lies (cc := cc) hS2 hlf2 hx hn hcc) (Nat.le_of_ble_eq_true rfl) (Nat.le_of_ble_eq_true rfl) d_Model_programs_180 ?_
          refine r_W5 v_Model_writes w_1119 lm_0 (c_Model_writes hPp hls _ _ _ _ _) (Nat.le_of_ble_eq_true rfl) (Nat.le_of_ble_eq_true rfl) d_Model_programs_183 (fun v N2 hv => ?_)
          obtain ⟨rfl, hP2, e2⟩ := hv
          refine r_goto 250 d_Model_programs_186 (by decide) ?_
          refine r_goto 35 d_Model_programs_250 (by decide) ?_
          exact hk N2 hP2 (e2.trans (pop17 N T)) _ _ _ _ _
      · exact absurd h_141 (by decide)
    · exact absurd h_124 (by decide)

set_option maxHeartbeats 1000000 in
theorem st3 {b x cc : Nat} {N : nw_M} (hP : PG M ((3, nI x, nI b, 0, 0) :: T) ls c N) (hT : T.length < 255) (hS : MS n le nu lf rt nm mc (M 3)) (hlf : ∀ j, j < n → M 11 j = bI (decide (lf j = -9))) (hn : n ≤ 31) (hls : ls.length < 128) (hx : x < n) (hcc : lf x ≠ -9 → N 17 x = nI cc) (hk : ∀ N2, PG M T (ls ++ [(0, nI b, nI x, srK le lf x, srN nu lf x cc)]) c N2 → N2 17 = N 17 → HD G P i0 N2) : HD G P i0 N := by
  have hPp := hP.pop
  intro o2 o3 o4 o5 o6
  have hS2 : MS n le nu lf rt nm mc (popM N T 3) := by rw [hPp.1 3 (by decide) (by decide) (by decide) (by decide)]; exact hS
  have hlf2 : ∀ j, j < n → popM N T 11 j = bI (decide (lf j = -9)) := by rw [hPp.1 11 (by decide) (by decide) (by decide) (by decide)]; exact hlf
  refine r_aload_n (i := 0) d_Model_programs_35 rfl rfl ?_
  refine r_gx nf_Model_216 lm_0 rfl (show N 0 24 = nI (T.length + 1) from hP.2.2.1) d_Model_programs_36 ?_
  refine r_if_le 253 d_Model_programs_39 (by decide) (fun h_39 => ?_) (fun h_39 => ?_)
  · skip
    exact absurd h_39 (nI_nle (by omega) (by omega))
  · skip
    refine r_aload_n (i := 0) d_Model_programs_42 rfl rfl ?_
    refine r_dup d_Model_programs_43 rfl ?_
    refine r_gx nf_Model_216 lm_0 rfl (show N 0 24 = nI (T.length + 1) from hP.2.2.1) d_Model_programs_44 ?_
    refine r_iconst 1 d_Model_programs_47 ic_1 ?_
    refine r_isubN (a := (T.length + 1)) (b := 1) d_Model_programs_48 rfl rfl (by omega) ?_
    refine r_puti nf_Model_216 nfin_Model_24 lm_0 rfl d_Model_programs_49 ?_
    refine r_aload_n (i := 0) d_Model_programs_52 rfl rfl ?_
    refine r_getr nf_Model_53 lm_0 rfl d_Model_programs_53 ?_
    refine r_iconst 5 d_Model_programs_56 ic_5 ?_
    refine r_aload_n (i := 0) d_Model_programs_57 rfl rfl ?_
    refine r_gx nf_Model_216 lm_0 rfl (rfl) d_Model_programs_58 ?_
    refine r_imulN (a := 5) (b := T.length) d_Model_programs_61 rfl rfl ?_
    refine r_ia (q := (5 * T.length)) lm_15 rfl (by omega) (by decide) (hP.2.2.2.1.1) d_Model_programs_62 ?_
    refine r_istore_n (i := 2) d_Model_programs_63 rfl (Nat.le_of_ble_eq_true rfl) rfl ?_
    dsimp only [List.set]
    refine r_aload_n (i := 0) d_Model_programs_64 rfl rfl ?_
    refine r_getr nf_Model_53 lm_0 rfl d_Model_programs_65 ?_
    refine r_iconst 5 d_Model_programs_68 ic_5 ?_
    refine r_aload_n (i := 0) d_Model_programs_69 rfl rfl ?_
    refine r_gx nf_Model_216 lm_0 rfl (rfl) d_Model_programs_70 ?_
    refine r_imulN (a := 5) (b := T.length) d_Model_programs_73 rfl rfl ?_
    refine r_iconst 1 d_Model_programs_74 ic_1 ?_
    refine r_iaddN (a := (5 * T.length)) (b := 1) d_Model_programs_75 rfl rfl ?_
    refine r_ia (q := ((5 * T.length) + 1)) lm_15 rfl (by omega) (by decide) (hP.2.2.2.1.2.1) d_Model_programs_76 ?_
    refine r_istore_n (i := 3) d_Model_programs_77 rfl (Nat.le_of_ble_eq_true rfl) rfl ?_
    dsimp only [List.set]
    refine r_aload_n (i := 0) d_Model_programs_78 rfl rfl ?_
    refine r_getr nf_Model_53 lm_0 rfl d_Model_programs_79 ?_
    refine r_iconst 5 d_Model_programs_82 ic_5 ?_
    refine r_aload_n (i := 0) d_Model_programs_83 rfl rfl ?_
    refine r_gx nf_Model_216 lm_0 rfl (rfl) d_Model_programs_84 ?_
    refine r_imulN (a := 5) (b := T.length) d_Model_programs_87 rfl rfl ?_
    refine r_iconst 2 d_Model_programs_88 ic_2 ?_
    refine r_iaddN (a := (5 * T.length)) (b := 2) d_Model_programs_89 rfl rfl ?_
    refine r_ia (q := ((5 * T.length) + 2)) lm_15 rfl (by omega) (by decide) (hP.2.2.2.1.2.2.1) d_Model_programs_90 ?_
    refine r_istore d_Model_programs_91 (Nat.le_of_ble_eq_true rfl) rfl ?_
    dsimp only [List.set]
    refine r_aload_n (i := 0) d_Model_programs_93 rfl rfl ?_
    refine r_getr nf_Model_53 lm_0 rfl d_Model_programs_94 ?_
    refine r_iconst 5 d_Model_programs_97 ic_5 ?_
    refine r_aload_n (i := 0) d_Model_programs_98 rfl rfl ?_
    refine r_gx nf_Model_216 lm_0 rfl (rfl) d_Model_programs_99 ?_
    refine r_imulN (a := 5) (b := T.length) d_Model_programs_102 rfl rfl ?_
    refine r_iconst 3 d_Model_programs_103 ic_3 ?_
    refine r_iaddN (a := (5 * T.length)) (b := 3) d_Model_programs_104 rfl rfl ?_
    refine r_ia (q := ((5 * T.length) + 3)) lm_15 rfl (by omega) (by decide) (hP.2.2.2.1.2.2.2.1) d_Model_programs_105 ?_
    refine r_istore d_Model_programs_106 (Nat.le_of_ble_eq_true rfl) rfl ?_
    dsimp only [List.set]
    refine r_aload_n (i := 0) d_Model_programs_108 rfl rfl ?_
    refine r_getr nf_Model_53 lm_0 rfl d_Model_programs_109 ?_
    refine r_iconst 5 d_Model_programs_112 ic_5 ?_
    refine r_aload_n (i := 0) d_Model_programs_113 rfl rfl ?_
    refine r_gx nf_Model_216 lm_0 rfl (rfl) d_Model_programs_114 ?_
    refine r_imulN (a := 5) (b := T.length) d_Model_programs_117 rfl rfl ?_
    refine r_iconst 4 d_Model_programs_118 ic_4 ?_
    refine r_iaddN (a := (5 * T.length)) (b := 4) d_Model_programs_119 rfl rfl ?_
    refine r_ia (q := ((5 * T.length) + 4)) lm_15 rfl (by omega) (by decide) (hP.2.2.2.1.2.2.2.2.1) d_Model_programs_120 ?_
    refine r_istore d_Model_programs_121 (Nat.le_of_ble_eq_true rfl) rfl ?_
    dsimp only [List.set]
    refine r_iload_n (i := 2) d_Model_programs_123 rfl rfl ?_
    refine r_if_ne 139 d_Model_programs_124 (by decide) (fun h_124 => ?_) (fun h_124 => ?_)
    · skip
      refine r_iload_n (i := 2) d_Model_programs_139 rfl rfl ?_
      refine r_iconst 1 d_Model_programs_140 ic_1 ?_
      refine r_icmp_ne 159 d_Model_programs_141 (by decide) (fun h_141 => ?_) (fun h_141 => ?_)
      · skip
        refine r_iload_n (i := 2) d_Model_programs_159 rfl rfl ?_
        refine r_iconst 2 d_Model_programs_160 ic_2 ?_
        refine r_icmp_ne 189 d_Model_programs_161 (by decide) (fun h_161 => ?_) (fun h_161 => ?_)
        · skip
          refine r_iload_n (i := 2) d_Model_programs_189 rfl rfl ?_
          refine r_iconst 3 d_Model_programs_190 ic_3 ?_
          refine r_icmp_ne 217 d_Model_programs_191 (by decide) (fun h_191 => ?_) (fun h_191 => ?_)
          · exact absurd h_191 (by decide)
          · skip
            refine r_aload_n (i := 0) d_Model_programs_194 rfl rfl ?_
            refine r_iconst 0 d_Model_programs_195 ic_0 ?_
            refine r_iload d_Model_programs_196 rfl ?_
            refine r_iload_n (i := 3) d_Model_programs_198 rfl rfl ?_
            refine r_aload_n (i := 0) d_Model_programs_199 rfl rfl ?_
            refine r_iload_n (i := 3) d_Model_programs_200 rfl rfl ?_
            refine r_iconst 0 d_Model_programs_201 ic_0 ?_
            refine r_V2 v_Model_lies w_1115 lm_0 (c0_Model_lies (cc := cc) hS2 hlf2 hx hn) (Nat.le_of_ble_eq_true rfl) (Nat.le_of_ble_eq_true rfl) d_Model_programs_202 ?_
            refine r_aload_n (i := 0) d_Model_programs_205 rfl rfl ?_
            refine r_iload_n (i := 3) d_Model_programs_206 rfl rfl ?_
            refine r_iconst 1 d_Model_programs_207 ic_1 ?_
            refine r_V2 v_Model_lies w_1115 lm_0 (c1_Model_lies (cc := cc) hS2 hlf2 hx hn hcc) (Nat.le_of_ble_eq_true rfl) (Nat.le_of_ble_eq_true rfl) d_Model_programs_208 ?_
            refine r_W5 v_Model_writes w_1119 lm_0 (c_Model_writes hPp hls _ _ _ _ _) (Nat.le_of_ble_eq_true rfl) (Nat.le_of_ble_eq_true rfl) d_Model_programs_211 (fun v N2 hv => ?_)
            obtain ⟨rfl, hP2, e2⟩ := hv
            refine r_goto 250 d_Model_programs_214 (by decide) ?_
            refine r_goto 35 d_Model_programs_250 (by decide) ?_
            exact hk N2 hP2 (e2.trans (pop17 N T)) _ _ _ _ _
        · exact absurd h_161 (by decide)
      · exact absurd h_141 (by decide)
    · exact absurd h_124 (by decide)

theorem PG.cell {N : nw_M} {k : Nat} {x : Int32} (h : PG M T ls c N) : PG M T ls c (ms N 17 (upd (N 17) k x)) := by
  refine ⟨fun e e0 e1 e2 e3 => ?_, h.2.1, h.2.2.1, h.2.2.2.1, h.2.2.2.2.1, h.2.2.2.2.2.1, h.2.2.2.2.2.2⟩
  rw [ms_ne _ _ e3]; exact h.1 e e0 e1 e2 e3
theorem PG.inc {N : nw_M} {c2 : Nat} (h : PG M T ls c N) : PG M T ls c2 (ms N 0 (upd (N 0) 28 (nI c2))) := by
  refine ⟨fun e e0 e1 e2 e3 => ?_, fun j j1 j2 j3 => ?_, ?_, ?_, ?_, ?_, ?_⟩
  · rw [ms_ne _ _ e0]; exact h.1 e e0 e1 e2 e3
  · rw [ms_same, upd_ne _ _ j3]; exact h.2.1 j j1 j2 j3
  · rw [ms_same, upd_ne _ _ (by decide)]; exact h.2.2.1
  · exact h.2.2.2.1
  · rw [ms_same, upd_ne _ _ (by decide)]; exact h.2.2.2.2.1
  · exact h.2.2.2.2.2.1
  · rw [ms_same, upd_at]
set_option maxHeartbeats 1000000 in
theorem st4 {x b : Nat} {N : nw_M} (hP : PG M ((4, nI x, nI b, 0, 0) :: T) ls c N) (hT : T.length < 255) (hx : x < 31) (hls : ls.length < 128) (hk : ∀ N2, PG M T (ls ++ [(3, nI b, nI x, 2, nI c)]) (c + 1) N2 → N2 17 = upd (N 17) x (nI c) → HD G P i0 N2) : HD G P i0 N := by
  have hPp := hP.pop
  intro o2 o3 o4 o5 o6
  refine r_aload_n (i := 0) d_Model_programs_35 rfl rfl ?_
  refine r_gx nf_Model_216 lm_0 rfl (show N 0 24 = nI (T.length + 1) from hP.2.2.1) d_Model_programs_36 ?_
  refine r_if_le 253 d_Model_programs_39 (by decide) (fun h_39 => ?_) (fun h_39 => ?_)
  · skip
    exact absurd h_39 (nI_nle (by omega) (by omega))
  · skip
    refine r_aload_n (i := 0) d_Model_programs_42 rfl rfl ?_
    refine r_dup d_Model_programs_43 rfl ?_
    refine r_gx nf_Model_216 lm_0 rfl (show N 0 24 = nI (T.length + 1) from hP.2.2.1) d_Model_programs_44 ?_
    refine r_iconst 1 d_Model_programs_47 ic_1 ?_
    refine r_isubN (a := (T.length + 1)) (b := 1) d_Model_programs_48 rfl rfl (by omega) ?_
    refine r_puti nf_Model_216 nfin_Model_24 lm_0 rfl d_Model_programs_49 ?_
    refine r_aload_n (i := 0) d_Model_programs_52 rfl rfl ?_
    refine r_getr nf_Model_53 lm_0 rfl d_Model_programs_53 ?_
    refine r_iconst 5 d_Model_programs_56 ic_5 ?_
    refine r_aload_n (i := 0) d_Model_programs_57 rfl rfl ?_
    refine r_gx nf_Model_216 lm_0 rfl (rfl) d_Model_programs_58 ?_
    refine r_imulN (a := 5) (b := T.length) d_Model_programs_61 rfl rfl ?_
    refine r_ia (q := (5 * T.length)) lm_15 rfl (by omega) (by decide) (hP.2.2.2.1.1) d_Model_programs_62 ?_
    refine r_istore_n (i := 2) d_Model_programs_63 rfl (Nat.le_of_ble_eq_true rfl) rfl ?_
    dsimp only [List.set]
    refine r_aload_n (i := 0) d_Model_programs_64 rfl rfl ?_
    refine r_getr nf_Model_53 lm_0 rfl d_Model_programs_65 ?_
    refine r_iconst 5 d_Model_programs_68 ic_5 ?_
    refine r_aload_n (i := 0) d_Model_programs_69 rfl rfl ?_
    refine r_gx nf_Model_216 lm_0 rfl (rfl) d_Model_programs_70 ?_
    refine r_imulN (a := 5) (b := T.length) d_Model_programs_73 rfl rfl ?_
    refine r_iconst 1 d_Model_programs_74 ic_1 ?_
    refine r_iaddN (a := (5 * T.length)) (b := 1) d_Model_programs_75 rfl rfl ?_
    refine r_ia (q := ((5 * T.length) + 1)) lm_15 rfl (by omega) (by decide) (hP.2.2.2.1.2.1) d_Model_programs_76 ?_
    refine r_istore_n (i := 3) d_Model_programs_77 rfl (Nat.le_of_ble_eq_true rfl) rfl ?_
    dsimp only [List.set]
    refine r_aload_n (i := 0) d_Model_programs_78 rfl rfl ?_
    refine r_getr nf_Model_53 lm_0 rfl d_Model_programs_79 ?_
    refine r_iconst 5 d_Model_programs_82 ic_5 ?_
    refine r_aload_n (i := 0) d_Model_programs_83 rfl rfl ?_
    refine r_gx nf_Model_216 lm_0 rfl (rfl) d_Model_programs_84 ?_
    refine r_imulN (a := 5) (b := T.length) d_Model_programs_87 rfl rfl ?_
    refine r_iconst 2 d_Model_programs_88 ic_2 ?_
    refine r_iaddN (a := (5 * T.length)) (b := 2) d_Model_programs_89 rfl rfl ?_
    refine r_ia (q := ((5 * T.length) + 2)) lm_15 rfl (by omega) (by decide) (hP.2.2.2.1.2.2.1) d_Model_programs_90 ?_
    refine r_istore d_Model_programs_91 (Nat.le_of_ble_eq_true rfl) rfl ?_
    dsimp only [List.set]
    refine r_aload_n (i := 0) d_Model_programs_93 rfl rfl ?_
    refine r_getr nf_Model_53 lm_0 rfl d_Model_programs_94 ?_
    refine r_iconst 5 d_Model_programs_97 ic_5 ?_
    refine r_aload_n (i := 0) d_Model_programs_98 rfl rfl ?_
    refine r_gx nf_Model_216 lm_0 rfl (rfl) d_Model_programs_99 ?_
    refine r_imulN (a := 5) (b := T.length) d_Model_programs_102 rfl rfl ?_
    refine r_iconst 3 d_Model_programs_103 ic_3 ?_
    refine r_iaddN (a := (5 * T.length)) (b := 3) d_Model_programs_104 rfl rfl ?_
    refine r_ia (q := ((5 * T.length) + 3)) lm_15 rfl (by omega) (by decide) (hP.2.2.2.1.2.2.2.1) d_Model_programs_105 ?_
    refine r_istore d_Model_programs_106 (Nat.le_of_ble_eq_true rfl) rfl ?_
    dsimp only [List.set]
    refine r_aload_n (i := 0) d_Model_programs_108 rfl rfl ?_
    refine r_getr nf_Model_53 lm_0 rfl d_Model_programs_109 ?_
    refine r_iconst 5 d_Model_programs_112 ic_5 ?_
    refine r_aload_n (i := 0) d_Model_programs_113 rfl rfl ?_
    refine r_gx nf_Model_216 lm_0 rfl (rfl) d_Model_programs_114 ?_
    refine r_imulN (a := 5) (b := T.length) d_Model_programs_117 rfl rfl ?_
    refine r_iconst 4 d_Model_programs_118 ic_4 ?_
    refine r_iaddN (a := (5 * T.length)) (b := 4) d_Model_programs_119 rfl rfl ?_
    refine r_ia (q := ((5 * T.length) + 4)) lm_15 rfl (by omega) (by decide) (hP.2.2.2.1.2.2.2.2.1) d_Model_programs_120 ?_
    refine r_istore d_Model_programs_121 (Nat.le_of_ble_eq_true rfl) rfl ?_
    dsimp only [List.set]
    refine r_iload_n (i := 2) d_Model_programs_123 rfl rfl ?_
    refine r_if_ne 139 d_Model_programs_124 (by decide) (fun h_124 => ?_) (fun h_124 => ?_)
    · skip
      refine r_iload_n (i := 2) d_Model_programs_139 rfl rfl ?_
      refine r_iconst 1 d_Model_programs_140 ic_1 ?_
      refine r_icmp_ne 159 d_Model_programs_141 (by decide) (fun h_141 => ?_) (fun h_141 => ?_)
      · skip
        refine r_iload_n (i := 2) d_Model_programs_159 rfl rfl ?_
        refine r_iconst 2 d_Model_programs_160 ic_2 ?_
        refine r_icmp_ne 189 d_Model_programs_161 (by decide) (fun h_161 => ?_) (fun h_161 => ?_)
        · skip
          refine r_iload_n (i := 2) d_Model_programs_189 rfl rfl ?_
          refine r_iconst 3 d_Model_programs_190 ic_3 ?_
          refine r_icmp_ne 217 d_Model_programs_191 (by decide) (fun h_191 => ?_) (fun h_191 => ?_)
          · skip
            refine r_aload_n (i := 0) d_Model_programs_217 rfl rfl ?_
            refine r_getr nf_Model_59 lm_0 rfl d_Model_programs_218 ?_
            refine r_iload_n (i := 3) d_Model_programs_221 rfl rfl ?_
            refine r_aload_n (i := 0) d_Model_programs_222 rfl rfl ?_
            refine r_gx nf_Model_235 lm_0 rfl (hPp.2.2.2.2.2.2) d_Model_programs_223 ?_
            refine r_ias (q := x) lm_17 rfl (by omega) (by decide) d_Model_programs_226 ?_
            refine r_aload_n (i := 0) d_Model_programs_227 rfl rfl ?_
            refine r_iconst 3 d_Model_programs_228 ic_3 ?_
            refine r_iload d_Model_programs_229 rfl ?_
            refine r_iload_n (i := 3) d_Model_programs_231 rfl rfl ?_
            refine r_iconst 2 d_Model_programs_232 ic_2 ?_
            refine r_aload_n (i := 0) d_Model_programs_233 rfl rfl ?_
            refine r_gx nf_Model_235 lm_0 rfl (hPp.2.2.2.2.2.2) d_Model_programs_234 ?_
            refine r_W5 v_Model_writes w_1119 lm_0 (c_Model_writes hPp.cell hls _ _ _ _ _) (Nat.le_of_ble_eq_true rfl) (Nat.le_of_ble_eq_true rfl) d_Model_programs_237 (fun v N2 hv => ?_)
            obtain ⟨rfl, hP2, e2⟩ := hv
            refine r_aload_n (i := 0) d_Model_programs_240 rfl rfl ?_
            refine r_dup d_Model_programs_241 rfl ?_
            refine r_gx nf_Model_235 lm_0 rfl (hP2.2.2.2.2.2.2) d_Model_programs_242 ?_
            refine r_iconst 1 d_Model_programs_245 ic_1 ?_
            refine r_iaddN (a := c) (b := 1) d_Model_programs_246 rfl rfl ?_
            refine r_puti nf_Model_235 nfin_Model_28 lm_0 rfl d_Model_programs_247 ?_
            refine r_goto 35 d_Model_programs_250 (by decide) ?_
            exact hk _ hP2.inc e2 _ _ _ _ _
          · exact absurd h_191 (by decide)
        · exact absurd h_161 (by decide)
      · exact absurd h_141 (by decide)
    · exact absurd h_124 (by decide)

set_option maxHeartbeats 1000000 in
theorem st0 {k b i : Nat} {R : nw_M → Prop} {N : nw_M} (hP : PG M ((0, nI k, nI b, nI i, 0) :: T) ls c N) (hT : T.length < 255) (hpl : CJ G LM m_Model_plans 2 [.ref (G.2.2 0), .int (nI k), .int (nI b), .int (nI i)] (popM N T) (fun v N2 => v = none ∧ R N2)) (hk : ∀ N2, R N2 → HD G P i0 N2) : HD G P i0 N := by
  have hPp := hP.pop
  intro o2 o3 o4 o5 o6
  refine r_aload_n (i := 0) d_Model_programs_35 rfl rfl ?_
  refine r_gx nf_Model_216 lm_0 rfl (show N 0 24 = nI (T.length + 1) from hP.2.2.1) d_Model_programs_36 ?_
  refine r_if_le 253 d_Model_programs_39 (by decide) (fun h_39 => ?_) (fun h_39 => ?_)
  · skip
    exact absurd h_39 (nI_nle (by omega) (by omega))
  · skip
    refine r_aload_n (i := 0) d_Model_programs_42 rfl rfl ?_
    refine r_dup d_Model_programs_43 rfl ?_
    refine r_gx nf_Model_216 lm_0 rfl (show N 0 24 = nI (T.length + 1) from hP.2.2.1) d_Model_programs_44 ?_
    refine r_iconst 1 d_Model_programs_47 ic_1 ?_
    refine r_isubN (a := (T.length + 1)) (b := 1) d_Model_programs_48 rfl rfl (by omega) ?_
    refine r_puti nf_Model_216 nfin_Model_24 lm_0 rfl d_Model_programs_49 ?_
    refine r_aload_n (i := 0) d_Model_programs_52 rfl rfl ?_
    refine r_getr nf_Model_53 lm_0 rfl d_Model_programs_53 ?_
    refine r_iconst 5 d_Model_programs_56 ic_5 ?_
    refine r_aload_n (i := 0) d_Model_programs_57 rfl rfl ?_
    refine r_gx nf_Model_216 lm_0 rfl (rfl) d_Model_programs_58 ?_
    refine r_imulN (a := 5) (b := T.length) d_Model_programs_61 rfl rfl ?_
    refine r_ia (q := (5 * T.length)) lm_15 rfl (by omega) (by decide) (hP.2.2.2.1.1) d_Model_programs_62 ?_
    refine r_istore_n (i := 2) d_Model_programs_63 rfl (Nat.le_of_ble_eq_true rfl) rfl ?_
    dsimp only [List.set]
    refine r_aload_n (i := 0) d_Model_programs_64 rfl rfl ?_
    refine r_getr nf_Model_53 lm_0 rfl d_Model_programs_65 ?_
    refine r_iconst 5 d_Model_programs_68 ic_5 ?_
    refine r_aload_n (i := 0) d_Model_programs_69 rfl rfl ?_
    refine r_gx nf_Model_216 lm_0 rfl (rfl) d_Model_programs_70 ?_
    refine r_imulN (a := 5) (b := T.length) d_Model_programs_73 rfl rfl ?_
    refine r_iconst 1 d_Model_programs_74 ic_1 ?_
    refine r_iaddN (a := (5 * T.length)) (b := 1) d_Model_programs_75 rfl rfl ?_
    refine r_ia (q := ((5 * T.length) + 1)) lm_15 rfl (by omega) (by decide) (hP.2.2.2.1.2.1) d_Model_programs_76 ?_
    refine r_istore_n (i := 3) d_Model_programs_77 rfl (Nat.le_of_ble_eq_true rfl) rfl ?_
    dsimp only [List.set]
    refine r_aload_n (i := 0) d_Model_programs_78 rfl rfl ?_
    refine r_getr nf_Model_53 lm_0 rfl d_Model_programs_79 ?_
    refine r_iconst 5 d_Model_programs_82 ic_5 ?_
    refine r_aload_n (i := 0) d_Model_programs_83 rfl rfl ?_
    refine r_gx nf_Model_216 lm_0 rfl (rfl) d_Model_programs_84 ?_
    refine r_imulN (a := 5) (b := T.length) d_Model_programs_87 rfl rfl ?_
    refine r_iconst 2 d_Model_programs_88 ic_2 ?_
    refine r_iaddN (a := (5 * T.length)) (b := 2) d_Model_programs_89 rfl rfl ?_
    refine r_ia (q := ((5 * T.length) + 2)) lm_15 rfl (by omega) (by decide) (hP.2.2.2.1.2.2.1) d_Model_programs_90 ?_
    refine r_istore d_Model_programs_91 (Nat.le_of_ble_eq_true rfl) rfl ?_
    dsimp only [List.set]
    refine r_aload_n (i := 0) d_Model_programs_93 rfl rfl ?_
    refine r_getr nf_Model_53 lm_0 rfl d_Model_programs_94 ?_
    refine r_iconst 5 d_Model_programs_97 ic_5 ?_
    refine r_aload_n (i := 0) d_Model_programs_98 rfl rfl ?_
    refine r_gx nf_Model_216 lm_0 rfl (rfl) d_Model_programs_99 ?_
    refine r_imulN (a := 5) (b := T.length) d_Model_programs_102 rfl rfl ?_
    refine r_iconst 3 d_Model_programs_103 ic_3 ?_
    refine r_iaddN (a := (5 * T.length)) (b := 3) d_Model_programs_104 rfl rfl ?_
    refine r_ia (q := ((5 * T.length) + 3)) lm_15 rfl (by omega) (by decide) (hP.2.2.2.1.2.2.2.1) d_Model_programs_105 ?_
    refine r_istore d_Model_programs_106 (Nat.le_of_ble_eq_true rfl) rfl ?_
    dsimp only [List.set]
    refine r_aload_n (i := 0) d_Model_programs_108 rfl rfl ?_
    refine r_getr nf_Model_53 lm_0 rfl d_Model_programs_109 ?_
    refine r_iconst 5 d_Model_programs_112 ic_5 ?_
    refine r_aload_n (i := 0) d_Model_programs_113 rfl rfl ?_
    refine r_gx nf_Model_216 lm_0 rfl (rfl) d_Model_programs_114 ?_
    refine r_imulN (a := 5) (b := T.length) d_Model_programs_117 rfl rfl ?_
    refine r_iconst 4 d_Model_programs_118 ic_4 ?_
    refine r_iaddN (a := (5 * T.length)) (b := 4) d_Model_programs_119 rfl rfl ?_
    refine r_ia (q := ((5 * T.length) + 4)) lm_15 rfl (by omega) (by decide) (hP.2.2.2.1.2.2.2.2.1) d_Model_programs_120 ?_
    refine r_istore d_Model_programs_121 (Nat.le_of_ble_eq_true rfl) rfl ?_
    dsimp only [List.set]
    refine r_iload_n (i := 2) d_Model_programs_123 rfl rfl ?_
    refine r_if_ne 139 d_Model_programs_124 (by decide) (fun h_124 => ?_) (fun h_124 => ?_)
    · exact absurd h_124 (by decide)
    · skip
      refine r_aload_n (i := 0) d_Model_programs_127 rfl rfl ?_
      refine r_iload_n (i := 3) d_Model_programs_128 rfl rfl ?_
      refine r_iload d_Model_programs_129 rfl ?_
      refine r_iload d_Model_programs_131 rfl ?_
      refine r_W3 v_Model_plans w_1111 lm_0 hpl (Nat.le_of_ble_eq_true rfl) (Nat.le_of_ble_eq_true rfl) d_Model_programs_133 (fun v N2 hv => ?_)
      obtain ⟨rfl, hv⟩ := hv
      refine r_goto 250 d_Model_programs_136 (by decide) ?_
      refine r_goto 35 d_Model_programs_250 (by decide) ?_
      exact hk N2 hv _ _ _ _ _

theorem st_end {N : nw_M} (hP : PG M [] ls c N) (h : P none N) : HD G P i0 N := by
  intro o2 o3 o4 o5 o6
  refine r_aload_n (i := 0) d_Model_programs_35 rfl rfl ?_
  refine r_gx nf_Model_216 lm_0 rfl (hP.2.2.1) d_Model_programs_36 ?_
  refine r_if_le 253 d_Model_programs_39 (by decide) (fun _ => ?_) (fun h9 => absurd (show nI 0 ≤ 0 by decide) h9)
  exact r_vret rfl d_Model_programs_253 h
/-- all that a program rests on -/
def PSm (n : Nat) (le nu lf rt nm : Nat → Int32) (mc z : Nat → Nat) (Wy : Nat → Nat → Nat) (Q : nP) (M : nw_M) : Prop := MS n le nu lf rt nm mc (M 3) ∧ WF n le nu lf rt z ∧ (∀ j, j < n → M 11 j = bI (decide (lf j = -9))) ∧ mc 0 ≤ 6 ∧ (∀ k i, k < n → 1 ≤ i → i ≤ mc 0 → M 13 (7 * k + i) = nI (Wy k i)) ∧ (∀ k i, k < n → rt k ≠ -9 → 1 ≤ Wy k i ∧ Wy k i < 7 ∧ ((Wy k i = 1 ∨ Wy k i = 2 ∨ Wy k i = 5) → 2 ≤ i)) ∧ (∀ k i, k < n → rt k = -9 → Wy k i = 0) ∧ ∀ k b i c, k < n → Q k b i c = pX le nu lf rt z Wy Q k b i c
def HMk (G : nw_G) (P : Option Value → nw_M → Prop) (i0 : Int32) (mc z : Nat → Nat) (Q : nP) (M : nw_M) (k : Nat) : Prop := ∀ (b i c : Nat) (T ls : List Ln) (N : nw_M), 1 ≤ i → i ≤ mc 0 → T.length + 6 * z k ≤ 250 → ls.length + 3 * z k ≤ 120 → PG M ((0, nI k, nI b, nI i, 0) :: T) ls c N → (∀ N2, PG M T (ls ++ (Q k b i c).1) (Q k b i c).2 N2 → (∀ y, (k < y ∨ y + z k ≤ k) → N2 17 y = N 17 y) → HD G P i0 N2) → HD G P i0 N
def HKk (G : nw_G) (P : Option Value → nw_M → Prop) (i0 : Int32) (lf : Nat → Int32) (mc z : Nat → Nat) (Q : nP) (M : nw_M) (k : Nat) : Prop := ∀ (b i c : Nat) (T ls : List Ln) (N : nw_M), 1 ≤ i → i ≤ mc 0 → T.length + 1 + 6 * z k ≤ 250 → ls.length + 1 + 3 * z k ≤ 120 → PG M (kT lf k b i ++ T) ls c N → (∀ N2, PG M T (ls ++ kpL lf Q k b i c) (kpC lf Q k b i c) N2 → (∀ y, (k < y ∨ y + z k ≤ k) → N2 17 y = N 17 y) → (lf k ≠ -9 → N2 17 k = nI (Q k b i c).2) → HD G P i0 N2) → HD G P i0 N
variable {Wy : Nat → Nat → Nat} {Q : nP}
theorem hk_of (hS : PSm n le nu lf rt nm mc z Wy Q M) {x : Nat} (hx : x < n) (hm : HMk G P i0 mc z Q M x) : HKk G P i0 lf mc z Q M x := by
  intro b i c T ls N hi1 hi hT hls hP hk
  have hn := hS.2.1.1
  by_cases hl : lf x = -9
  · rw [kT, if_pos hl] at hP
    refine hk N ?_ (fun y _ => rfl) (fun q => absurd hl q)
    rw [kpL, if_pos hl, kpC, if_pos hl, List.append_nil]
    exact hP
  · rw [kT, if_neg hl] at hP
    simp only [List.cons_append, List.nil_append] at hP
    have zb := hS.2.1.zb x hx
    refine hm b i c _ ls N hi1 hi (by simp only [List.length_cons]; omega) (by omega) hP (fun N2 hP2 h17 => ?_)
    have pl := pX_le hS.2.1 hS.2.2.2.2.2.2.2 x hx b i c
    refine st4 hP2 (by omega) (by omega) (by simp only [List.length_append]; omega) (fun N3 hP3 h3 => ?_)
    refine hk N3 ?_ (fun y hy => ?_) (fun _ => ?_)
    · rw [kpL, if_neg hl, kpC, if_neg hl, ← List.append_assoc]
      exact hP3
    · rw [h3, upd_ne _ _ (by omega)]; exact h17 y hy
    · rw [h3, upd_at]
set_option maxHeartbeats 2000000 in
theorem hm_all (hS : PSm n le nu lf rt nm mc z Wy Q M) : ∀ k, k < n → HMk G P i0 mc z Q M k := by
  obtain ⟨hS1, hw, hlf, h6, hW, hWr, hW0, hQ⟩ := hS
  have hS : PSm n le nu lf rt nm mc z Wy Q M := ⟨hS1, hw, hlf, h6, hW, hWr, hW0, hQ⟩
  have hn := hw.1
  have pl := pX_le hw hQ
  intro k
  induction k using Nat.strongRecOn with
  | _ k ih =>
    intro hk b i c T ls N hi1 hi hT hls hP fin
    have zb := hw.zb k hk
    have hPp := hP.pop
    have e13 : popM N T 13 (7 * k + i) = nI (Wy k i) := by rw [hPp.1 13 (by decide) (by decide) (by decide) (by decide)]; exact hW k i hk hi1 hi
    have plk := pl k hk b i c
    by_cases hl : lf k = -9
    · refine st0 hP (by omega) (cL_Model_plans (w := 0) hS1 hlf hPp hk hn hi1 (by omega) hl (by omega)) (fun N2 h => ?_)
      refine fin N2 ?_ (fun y _ => by rw [h.2]; rfl)
      rw [hQ k b i c hk, pX, if_pos hl]
      exact h.1
    · by_cases hr : rt k = -9
      · have s := hw.single hk hl hr
        have w0 := hW0 k i hk hr
        rw [w0] at e13
        refine st0 hP (by omega) (c0_Model_plans (w := 0) hS1 hlf hPp hk hn hi1 (by omega) (by omega) hl e13 (l := k - 1) (by omega) s.2.2.2.1) (fun N2 h => ?_)
        have plc := pl (k - 1) (by omega) b i c
        refine ih (k - 1) (by omega) (by omega) b i c _ ls N2 hi1 hi (by simp only [List.length_cons]; omega) (by omega) h.1 (fun N3 h3 g3 => ?_)
        refine st1 h3 (by omega) (by simp only [List.length_append]; omega) (fun N4 h4 g4 => ?_)
        refine fin N4 ?_ (fun y hy => by rw [g4, g3 y (by omega), h.2]; rfl)
        rw [hQ k b i c hk, pX, if_neg hl, if_pos hr, ← List.append_assoc]
        exact h4
      · have s := hw.pair hk hr
        have zR := hw.zb (k - 1) (by omega)
        have zL := hw.zb (k - 1 - z (k - 1)) (by omega)
        have ez := s.2.2.2.2.2.2
        have el := s.2.2.2.2.2.1
        have er := s.2.2.2.1
        have wr := hWr k i hk hr
        have ihR := ih (k - 1) (by omega) (by omega)
        have ihL := ih (k - 1 - z (k - 1)) (by omega) (by omega)
        have kR := hk_of (G := G) (P := P) (i0 := i0) hS (x := k - 1) (by omega) ihR
        have kL := hk_of (G := G) (P := P) (i0 := i0) hS (x := k - 1 - z (k - 1)) (by omega) ihL
        have pR := pl (k - 1) (by omega)
        have pL := pl (k - 1 - z (k - 1)) (by omega)
        have eQ : Q k b i c = pW le nu lf Q k (k - 1 - z (k - 1)) (k - 1) (Wy k i) b i c := by rw [hQ k b i c hk, pX, if_neg hl, if_neg hr]
        rw [eQ] at fin plk
        have lk : k - 1 - z (k - 1) < k := by omega
        have rk : k - 1 < k := by omega
        have l1 : k - 1 - z (k - 1) + z (k - 1) = k - 1 := by omega
        have k1 : k - 1 + 1 = k := by omega
        generalize k - 1 - z (k - 1) = l at *
        generalize k - 1 = r at *
        have kpl : ∀ x, x < n → ∀ b i c, (kpL lf Q x b i c).length + 1 ≤ 3 * z x := by
          intro x hx b i c
          have a := pl x hx b i c
          have := hw.zb x hx
          unfold kpL
          split
          · simp only [List.length_nil]; omega
          · simp only [List.length_append, List.length_cons, List.length_nil]; omega
        rcases six wr.1 wr.2.1 with w | w | w | w | w | w
        · have i2 := wr.2.2 (Or.inl w)
          rw [w] at e13 fin plk
          rw [pW, if_pos rfl] at fin plk
          refine st0 hP (by omega) (c1_Model_plans (w := 0) hS1 hlf hPp hk hn hi1 (by omega) (by omega) hl e13 lk rk el er) (fun N2 h => ?_)
          refine ihL b i c _ ls N2 hi1 hi (by simp only [List.length_cons]; omega) (by omega) h.1 (fun N3 h3 g3 => ?_)
          have x1 := pL b i c
          refine ihR (b + 1) (i - 1) _ _ _ N3 (by omega) (by omega) (by simp only [List.length_cons]; omega) (by simp only [List.length_append]; omega) h3 (fun N4 h4 g4 => ?_)
          have x2 := pR (b + 1) (i - 1) (Q l b i c).2
          refine st1 h4 (by omega) (by simp only [List.length_append]; omega) (fun N5 h5 g5 => ?_)
          refine fin N5 ?_ (fun y hy => by rw [g5, g4 y (by omega), g3 y (by omega), h.2]; rfl)
          simp only [List.append_assoc] at h5 ⊢
          exact h5
        · have i2 := wr.2.2 (Or.inr (Or.inl w))
          rw [w] at e13 fin plk
          rw [pW, if_neg (by decide), if_pos rfl] at fin plk
          refine st0 hP (by omega) (c2_Model_plans (w := 0) hS1 hlf hPp hk hn hi1 (by omega) (by omega) hl e13 lk rk el er) (fun N2 h => ?_)
          refine ihR b i c _ ls N2 hi1 hi (by simp only [List.length_cons]; omega) (by omega) h.1 (fun N3 h3 g3 => ?_)
          have x1 := pR b i c
          refine ihL (b + 1) (i - 1) _ _ _ N3 (by omega) (by omega) (by simp only [List.length_cons]; omega) (by simp only [List.length_append]; omega) h3 (fun N4 h4 g4 => ?_)
          have x2 := pL (b + 1) (i - 1) (Q r b i c).2
          refine st1 h4 (by omega) (by simp only [List.length_append]; omega) (fun N5 h5 g5 => ?_)
          refine fin N5 ?_ (fun y hy => by rw [g5, g4 y (by omega), g3 y (by omega), h.2]; rfl)
          simp only [List.append_assoc] at h5 ⊢
          exact h5
        · rw [w] at e13 fin plk
          rw [pW, if_neg (by decide), if_neg (by decide), if_pos rfl] at fin plk
          refine st0 hP (by omega) (c3_Model_plans (w := 0) hS1 hlf hPp hk hn hi1 (by omega) (by omega) hl e13 lk rk el er) (fun N2 h => ?_)
          refine kR b i c _ ls N2 hi1 hi (by simp only [List.length_cons]; omega) (by omega) h.1 (fun N3 h3 g3 c3 => ?_)
          have x1 := kpl r (by omega) b i c
          refine ihL b i _ _ _ N3 hi1 hi (by simp only [List.length_cons]; omega) (by simp only [List.length_append]; omega) h3 (fun N4 h4 g4 => ?_)
          have x2 := pL b i (kpC lf Q r b i c)
          refine st2 h4 (by omega) hS1 hlf hn (by simp only [List.length_append]; omega) (by omega) (fun q => (g4 r (by omega)).trans (c3 q)) (fun N5 h5 g5 => ?_)
          refine fin N5 ?_ (fun y hy => by rw [g5, g4 y (by omega), g3 y (by omega), h.2]; rfl)
          simp only [List.append_assoc] at h5 ⊢
          exact h5
        · rw [w] at e13 fin plk
          rw [pW, if_neg (by decide), if_neg (by decide), if_neg (by decide), if_pos rfl] at fin plk
          refine st0 hP (by omega) (c4_Model_plans (w := 0) hS1 hlf hPp hk hn hi1 (by omega) (by omega) hl e13 lk rk el er) (fun N2 h => ?_)
          refine kL b i c _ ls N2 hi1 hi (by simp only [List.length_cons]; omega) (by omega) h.1 (fun N3 h3 g3 c3 => ?_)
          have x1 := kpl l (by omega) b i c
          refine ihR b i _ _ _ N3 hi1 hi (by simp only [List.length_cons]; omega) (by simp only [List.length_append]; omega) h3 (fun N4 h4 g4 => ?_)
          have x2 := pR b i (kpC lf Q l b i c)
          refine st2 h4 (by omega) hS1 hlf hn (by simp only [List.length_append]; omega) (by omega) (fun q => (g4 l (by omega)).trans (c3 q)) (fun N5 h5 g5 => ?_)
          refine fin N5 ?_ (fun y hy => by rw [g5, g4 y (by omega), g3 y (by omega), h.2]; rfl)
          simp only [List.append_assoc] at h5 ⊢
          exact h5
        · have i2 := wr.2.2 (Or.inr (Or.inr w))
          rw [w] at e13 fin plk
          rw [pW, if_neg (by decide), if_neg (by decide), if_neg (by decide), if_neg (by decide), if_pos rfl] at fin plk
          refine st0 hP (by omega) (c5_Model_plans (w := 0) hS1 hlf hPp hk hn hi1 (by omega) (by omega) hl e13 lk rk el er) (fun N2 h => ?_)
          refine kL b i c _ ls N2 hi1 hi (by simp only [List.length_cons]; omega) (by omega) h.1 (fun N3 h3 g3 c3 => ?_)
          have x1 := kpl l (by omega) b i c
          refine ihR b i _ _ _ N3 hi1 hi (by simp only [List.length_cons]; omega) (by simp only [List.length_append]; omega) h3 (fun N4 h4 g4 => ?_)
          have x2 := pR b i (kpC lf Q l b i c)
          refine st3 h4 (by simp only [List.length_cons]; omega) hS1 hlf hn (by simp only [List.length_append]; omega) (by omega) (fun q => (g4 l (by omega)).trans (c3 q)) (fun N5 h5 g5 => ?_)
          refine st1 h5 (by omega) (by simp only [List.length_append, List.length_cons, List.length_nil]; omega) (fun N6 h6' g6 => ?_)
          refine fin N6 ?_ (fun y hy => by rw [g6, g5, g4 y (by omega), g3 y (by omega), h.2]; rfl)
          simp only [List.append_assoc] at h6' ⊢
          exact h6'
        · rw [w] at e13 fin plk
          rw [pW, if_neg (by decide), if_neg (by decide), if_neg (by decide), if_neg (by decide), if_neg (by decide)] at fin plk
          refine st0 hP (by omega) (c6_Model_plans (w := 0) hS1 hlf hPp hk hn hi1 (by omega) (by omega) hl e13 lk rk el er) (fun N2 h => ?_)
          have y1 := kT_len lf r b i
          refine kL b i c _ ls N2 hi1 hi (by simp only [List.length_append, List.length_cons]; omega) (by omega) h.1 (fun N3 h3 g3 c3 => ?_)
          have x1 := kpl l (by omega) b i c
          refine kR b i _ _ _ N3 hi1 hi (by simp only [List.length_cons]; omega) (by simp only [List.length_append]; omega) h3 (fun N4 h4 g4 c4 => ?_)
          have x2 := kpl r (by omega) b i (kpC lf Q l b i c)
          refine st3 h4 (by simp only [List.length_cons]; omega) hS1 hlf hn (by simp only [List.length_append]; omega) (by omega) (fun q => (g4 l (by omega)).trans (c3 q)) (fun N5 h5 g5 => ?_)
          refine st2 h5 (by omega) hS1 hlf hn (by simp only [List.length_append, List.length_cons, List.length_nil]; omega) (by omega) (fun q => by rw [g5]; exact c4 q) (fun N6 h6' g6 => ?_)
          refine fin N6 ?_ (fun y hy => by rw [g6, g5, g4 y (by omega), g3 y (by omega), h.2]; rfl)
          simp only [List.append_assoc] at h6' ⊢
          exact h6'
end MM9
