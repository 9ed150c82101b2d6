-- Program: haveByWay, have, makeBy
section MProg3
variable {G : nw_G}
theorem HI_add {M0 N N' : nw_M} (h : HI M0 N) (h1 : ∀ q, q ≠ 117 → q ≠ 119 → N' q = N q) (h2 : N' 117 4 = N 117 4) : HI M0 N' := ⟨fun q q1 q2 q3 => by rw [h1 q q1 q2]; exact h.1 q q1 q2 q3, by rw [h2]; exact h.2⟩
theorem kp_le {n : Nat} {le nu lf rt : Nat → Int32} {z : Nat → Nat} {Wy : Nat → Nat → Nat} {Q : nP} (hw : WF n le nu lf rt z) (hQ : ∀ k b i c, k < n → Q k b i c = pX le nu lf rt z Wy Q k b i c) {x : Nat} (hx : x < n) (b i c : Nat) : (kpL lf Q x b i c).length + 1 ≤ 3 * z x := by
  have := pX_le hw hQ x hx b i c
  have zb := hw.zb x hx
  unfold kpL
  by_cases q : lf x = -9
  · rw [if_pos q]; simp only [List.length_nil]; omega
  · rw [if_neg q]; simp only [List.length_append, List.length_cons, List.length_nil]; omega
set_option maxHeartbeats 4000000 in
theorem hk_way {n Rg : Nat} {z : Nat → Nat} {Wy : Nat → Nat → Nat} {Q : nP} {M0 : nw_M} (hS : PSt n Rg z Wy Q M0) {x : Nat} (hx : x < n) (hr : M0 19 x ≠ -9) (hvL : HV G Rg z Q M0 (x - 1 - z (x - 1))) (hvR : HV G Rg z Q M0 (x - 1)) : HW G Rg z Q M0 x := by
  have hkL := hk_kept hS (x := x - 1 - z (x - 1)) (by omega) hvL
  have hkR := hk_kept hS (x := x - 1) (by omega) hvR
  have sp := hS.1.pair hx hr
  have hlf := hS.1.pair_lf hx hr
  have zR := hS.1.zb (x - 1) (by omega)
  have zL := hS.1.zb (x - 1 - z (x - 1)) (by omega)
  have lenL := pX_le hS.1 hS.2.2.2.2 (x - 1 - z (x - 1)) (by omega)
  have lenR := pX_le hS.1 hS.2.2.2.2 (x - 1) (by omega)
  have kenL := kp_le hS.1 hS.2.2.2.2 (x := x - 1 - z (x - 1)) (by omega)
  have kenR := kp_le hS.1 hS.2.2.2.2 (x := x - 1) (by omega)
  have hLR : x - 1 - z (x - 1) + z (x - 1) = x - 1 := by omega
  intro b i c dp ls M hI hPM hi1 hbi hdp hls
  have hn := hS.1.1
  have zb := hS.1.zb x hx
  have k13 : M 13 = M0 13 := hI.1 _ (by omega) (by omega) (by omega)
  have k15 : M 15 = M0 15 := hI.1 _ (by omega) (by omega) (by omega)
  have k17 : M 17 = M0 17 := hI.1 _ (by omega) (by omega) (by omega)
  have k19 : M 19 = M0 19 := hI.1 _ (by omega) (by omega) (by omega)
  have k114 : M 114 = M0 114 := hI.1 _ (by omega) (by omega) (by omega)
  have hQ : Q x b i c = pW (M0 13) (M0 15) (M0 17) Q x (x - 1 - z (x - 1)) (x - 1) (Wy x i) b i c := by
    rw [hS.2.2.2.2 x b i c hx]; unfold pX; rw [if_neg hlf, if_neg hr]
  have eL : M 17 x = nI (x - 1 - z (x - 1)) := by rw [k17]; exact sp.2.2.2.2.2.1
  have eR : M 19 x = nI (x - 1) := by rw [k19]; exact sp.2.2.2.1
  have eW : M 114 (7 * x + i) = nI (Wy x i) := by rw [k114]; exact hS.2.2.1 x i hx hi1 (by omega)
  have hx1 : 1 ≤ x := sp.2.2.1
  have hzx := sp.2.2.2.2.2.2
  have hRg := hS.2.1
  generalize x - 1 - z (x - 1) = L at *
  have hRx : x - 1 + 1 = x := by omega
  generalize x - 1 = R at *
  have lL1 := lenL b i c
  have lR1 := lenR b i c
  have kL1 := kenL b i c
  have kR1 := kenR b i c
  have lR2 := lenR (b + 1) (i - 1) (Q L b i c).2
  have lL2 := lenL (b + 1) (i - 1) (Q R b i c).2
  have lL3 := lenL b i (kpC (M0 17) Q R b i c)
  have lR3 := lenR b i (kpC (M0 17) Q L b i c)
  have kR2 := kenR b i (kpC (M0 17) Q L b i c)
  refine CJ_of2 (n0 := 2) (by decide) rfl rfl ?_
  simp only [List.map_cons, List.map_nil, List.cons_append, List.nil_append, List.reduceReplicate]
  refine r_aload_n (i := 1) d_Program_haveByWay_0 rfl rfl ?_
  refine r_getr nf_Program_65 tree_11.1 rfl d_Program_haveByWay_1 ?_
  refine r_iload_n (i := 3) d_Program_haveByWay_4 rfl rfl ?_
  refine r_V1 v_Row_get w_649 (isTree.lefts tree_11).1 (c2_Row_get (isTree.lefts tree_11) (by omega) eL) (by omega) (Nat.le_of_ble_eq_true rfl) d_Program_haveByWay_5 ?_
  refine r_istore d_Program_haveByWay_8 (Nat.le_of_ble_eq_true rfl) rfl ?_
  dsimp only [List.set]
  refine r_aload_n (i := 1) d_Program_haveByWay_10 rfl rfl ?_
  refine r_getr nf_Program_71 tree_11.1 rfl d_Program_haveByWay_11 ?_
  refine r_iload_n (i := 3) d_Program_haveByWay_14 rfl rfl ?_
  refine r_V1 v_Row_get w_649 (isTree.rights tree_11).1 (c2_Row_get (isTree.rights tree_11) (by omega) eR) (by omega) (Nat.le_of_ble_eq_true rfl) d_Program_haveByWay_15 ?_
  refine r_istore d_Program_haveByWay_18 (Nat.le_of_ble_eq_true rfl) rfl ?_
  dsimp only [List.set]
  refine r_aload_n (i := 2) d_Program_haveByWay_20 rfl rfl ?_
  refine r_iload_n (i := 3) d_Program_haveByWay_21 rfl rfl ?_
  refine r_iload d_Program_haveByWay_22 rfl ?_
  refine r_V2 v_Costs_wayOf w_664 costs_110.1 (c2_Costs_wayOf costs_110 _ (by omega) eW) (by omega) (Nat.le_of_ble_eq_true rfl) d_Program_haveByWay_24 ?_
  have hW := hS.2.2.2.1 x i hx hr
  have hw6 : Wy x i = 1 ∨ Wy x i = 2 ∨ Wy x i = 3 ∨ Wy x i = 4 ∨ Wy x i = 5 ∨ Wy x i = 6 := by omega
  rcases hw6 with hw | hw | hw | hw | hw | hw
  · rw [hw]
    refine r_tableIn 60 d_Program_haveByWay_27 (by decide) (by decide) (off := 33) rfl (by decide) ?_
    refine r_aload_n (i := 0) d_Program_haveByWay_60 rfl rfl ?_
    refine r_aload_n (i := 1) d_Program_haveByWay_61 rfl rfl ?_
    refine r_aload_n (i := 2) d_Program_haveByWay_62 rfl rfl ?_
    refine r_iload d_Program_haveByWay_63 rfl ?_
    refine r_iload d_Program_haveByWay_65 rfl ?_
    refine r_iload d_Program_haveByWay_67 rfl ?_
    refine r_iload d_Program_haveByWay_69 rfl ?_
    refine r_iconst 1 d_Program_haveByWay_71 ic_1 ?_
    refine r_iadd d_Program_haveByWay_72 ?_
    simp only [nI_1, nI_m1 hi1]
    refine r_W6 v_Program_have w_641 lc_117 (hvL (b) (i) (c) (dp + 1) (ls) M hI hPM (by omega) (by omega) (by omega) (by (try simp only [List.length_append]); omega)) (by omega) (Nat.le_of_ble_eq_true rfl) d_Program_haveByWay_73 (fun v N1 hv1 => ?_)
    obtain ⟨rfl, N1I, N1P, N1F⟩ := hv1
    refine r_aload_n (i := 0) d_Program_haveByWay_76 rfl rfl ?_
    refine r_aload_n (i := 1) d_Program_haveByWay_77 rfl rfl ?_
    refine r_aload_n (i := 2) d_Program_haveByWay_78 rfl rfl ?_
    refine r_iload d_Program_haveByWay_79 rfl ?_
    refine r_iload d_Program_haveByWay_81 rfl ?_
    refine r_iconst 1 d_Program_haveByWay_83 ic_1 ?_
    refine r_iadd d_Program_haveByWay_84 ?_
    refine r_iload d_Program_haveByWay_85 rfl ?_
    refine r_iconst 1 d_Program_haveByWay_87 ic_1 ?_
    refine r_isub d_Program_haveByWay_88 ?_
    refine r_iload d_Program_haveByWay_89 rfl ?_
    refine r_iconst 1 d_Program_haveByWay_91 ic_1 ?_
    refine r_iadd d_Program_haveByWay_92 ?_
    simp only [nI_1, nI_m1 hi1]
    refine r_W6 v_Program_have w_641 lc_117 (hvR (b + 1) (i - 1) ((Q L b i c).2) (dp + 1) (ls ++ (Q L b i c).1) N1 N1I N1P (by omega) (by omega) (by omega) (by (try simp only [List.length_append]); omega)) (by omega) (Nat.le_of_ble_eq_true rfl) d_Program_haveByWay_93 (fun v N2 hv1 => ?_)
    obtain ⟨rfl, N2I, N2P, N2F⟩ := hv1
    refine r_aload_n (i := 0) d_Program_haveByWay_96 rfl rfl ?_
    refine r_iconst 1 d_Program_haveByWay_97 ic_1 ?_
    refine r_iload d_Program_haveByWay_98 rfl ?_
    refine r_iload_n (i := 3) d_Program_haveByWay_100 rfl rfl ?_
    refine r_iload d_Program_haveByWay_101 rfl ?_
    refine r_iload d_Program_haveByWay_103 rfl ?_
    refine r_iconst 1 d_Program_haveByWay_105 ic_1 ?_
    refine r_iadd d_Program_haveByWay_106 ?_
    simp only [nI_1]
    refine r_W5 v_Program_add w_654 lc_117 (c_Program_add _ _ _ _ _ (ls ++ (Q L b i c).1 ++ (Q R (b + 1) (i - 1) (Q L b i c).2).1) ((Q R (b + 1) (i - 1) (Q L b i c).2).2) _ N2P (by simp only [List.length_append, List.length_cons, List.length_nil]; omega)) (by omega) (Nat.le_of_ble_eq_true rfl) d_Program_haveByWay_107 (fun v N3 hv1 => ?_)
    obtain ⟨rfl, N3g, N3h, N3P⟩ := hv1
    have N3I := HI_add N2I N3g N3h
    refine r_goto 426 d_Program_haveByWay_110 (by decide) ?_
    refine r_vret rfl d_Program_haveByWay_426 ?_
    refine ⟨rfl, N3I, ?_, fun y hy => ?_⟩
    · rw [hQ]
      unfold pW
      simp only [hw, if_true, if_false, Nat.reduceEqDiff, List.append_assoc] at N3P ⊢
      exact N3P
    · rw [N3g 121 (by omega) (by omega)]
      rw [N2F y (by omega), N1F y (by omega)]
  · rw [hw]
    refine r_tableIn 113 d_Program_haveByWay_27 (by decide) (by decide) (off := 86) rfl (by decide) ?_
    refine r_aload_n (i := 0) d_Program_haveByWay_113 rfl rfl ?_
    refine r_aload_n (i := 1) d_Program_haveByWay_114 rfl rfl ?_
    refine r_aload_n (i := 2) d_Program_haveByWay_115 rfl rfl ?_
    refine r_iload d_Program_haveByWay_116 rfl ?_
    refine r_iload d_Program_haveByWay_118 rfl ?_
    refine r_iload d_Program_haveByWay_120 rfl ?_
    refine r_iload d_Program_haveByWay_122 rfl ?_
    refine r_iconst 1 d_Program_haveByWay_124 ic_1 ?_
    refine r_iadd d_Program_haveByWay_125 ?_
    simp only [nI_1, nI_m1 hi1]
    refine r_W6 v_Program_have w_641 lc_117 (hvR (b) (i) (c) (dp + 1) (ls) M hI hPM (by omega) (by omega) (by omega) (by (try simp only [List.length_append]); omega)) (by omega) (Nat.le_of_ble_eq_true rfl) d_Program_haveByWay_126 (fun v N1 hv1 => ?_)
    obtain ⟨rfl, N1I, N1P, N1F⟩ := hv1
    refine r_aload_n (i := 0) d_Program_haveByWay_129 rfl rfl ?_
    refine r_aload_n (i := 1) d_Program_haveByWay_130 rfl rfl ?_
    refine r_aload_n (i := 2) d_Program_haveByWay_131 rfl rfl ?_
    refine r_iload d_Program_haveByWay_132 rfl ?_
    refine r_iload d_Program_haveByWay_134 rfl ?_
    refine r_iconst 1 d_Program_haveByWay_136 ic_1 ?_
    refine r_iadd d_Program_haveByWay_137 ?_
    refine r_iload d_Program_haveByWay_138 rfl ?_
    refine r_iconst 1 d_Program_haveByWay_140 ic_1 ?_
    refine r_isub d_Program_haveByWay_141 ?_
    refine r_iload d_Program_haveByWay_142 rfl ?_
    refine r_iconst 1 d_Program_haveByWay_144 ic_1 ?_
    refine r_iadd d_Program_haveByWay_145 ?_
    simp only [nI_1, nI_m1 hi1]
    refine r_W6 v_Program_have w_641 lc_117 (hvL (b + 1) (i - 1) ((Q R b i c).2) (dp + 1) (ls ++ (Q R b i c).1) N1 N1I N1P (by omega) (by omega) (by omega) (by (try simp only [List.length_append]); omega)) (by omega) (Nat.le_of_ble_eq_true rfl) d_Program_haveByWay_146 (fun v N2 hv1 => ?_)
    obtain ⟨rfl, N2I, N2P, N2F⟩ := hv1
    refine r_aload_n (i := 0) d_Program_haveByWay_149 rfl rfl ?_
    refine r_iconst 1 d_Program_haveByWay_150 ic_1 ?_
    refine r_iload d_Program_haveByWay_151 rfl ?_
    refine r_iload_n (i := 3) d_Program_haveByWay_153 rfl rfl ?_
    refine r_iload d_Program_haveByWay_154 rfl ?_
    refine r_iconst 1 d_Program_haveByWay_156 ic_1 ?_
    refine r_iadd d_Program_haveByWay_157 ?_
    refine r_iload d_Program_haveByWay_158 rfl ?_
    simp only [nI_1]
    refine r_W5 v_Program_add w_654 lc_117 (c_Program_add _ _ _ _ _ (ls ++ (Q R b i c).1 ++ (Q L (b + 1) (i - 1) (Q R b i c).2).1) ((Q L (b + 1) (i - 1) (Q R b i c).2).2) _ N2P (by simp only [List.length_append, List.length_cons, List.length_nil]; omega)) (by omega) (Nat.le_of_ble_eq_true rfl) d_Program_haveByWay_160 (fun v N3 hv1 => ?_)
    obtain ⟨rfl, N3g, N3h, N3P⟩ := hv1
    have N3I := HI_add N2I N3g N3h
    refine r_goto 426 d_Program_haveByWay_163 (by decide) ?_
    refine r_vret rfl d_Program_haveByWay_426 ?_
    refine ⟨rfl, N3I, ?_, fun y hy => ?_⟩
    · rw [hQ]
      unfold pW
      simp only [hw, if_true, if_false, Nat.reduceEqDiff, List.append_assoc] at N3P ⊢
      exact N3P
    · rw [N3g 121 (by omega) (by omega)]
      rw [N2F y (by omega), N1F y (by omega)]
  · rw [hw]
    refine r_tableIn 166 d_Program_haveByWay_27 (by decide) (by decide) (off := 139) rfl (by decide) ?_
    refine r_aload_n (i := 0) d_Program_haveByWay_166 rfl rfl ?_
    refine r_aload_n (i := 1) d_Program_haveByWay_167 rfl rfl ?_
    refine r_aload_n (i := 2) d_Program_haveByWay_168 rfl rfl ?_
    refine r_iload d_Program_haveByWay_169 rfl ?_
    refine r_iload d_Program_haveByWay_171 rfl ?_
    refine r_iload d_Program_haveByWay_173 rfl ?_
    refine r_iload d_Program_haveByWay_175 rfl ?_
    refine r_iconst 1 d_Program_haveByWay_177 ic_1 ?_
    refine r_iadd d_Program_haveByWay_178 ?_
    simp only [nI_1, nI_m1 hi1]
    refine r_W6 v_Program_haveKept w_665 lc_117 (hkR (b) (i) (c) (dp + 1) (ls) M hI hPM (by omega) (by omega) (by omega) (by (try simp only [List.length_append]); omega)) (by omega) (Nat.le_of_ble_eq_true rfl) d_Program_haveByWay_179 (fun v N1 hv1 => ?_)
    obtain ⟨rfl, ⟨N1I, N1P, N1F⟩, N1C⟩ := hv1
    refine r_aload_n (i := 0) d_Program_haveByWay_182 rfl rfl ?_
    refine r_aload_n (i := 1) d_Program_haveByWay_183 rfl rfl ?_
    refine r_aload_n (i := 2) d_Program_haveByWay_184 rfl rfl ?_
    refine r_iload d_Program_haveByWay_185 rfl ?_
    refine r_iload d_Program_haveByWay_187 rfl ?_
    refine r_iload d_Program_haveByWay_189 rfl ?_
    refine r_iload d_Program_haveByWay_191 rfl ?_
    refine r_iconst 1 d_Program_haveByWay_193 ic_1 ?_
    refine r_iadd d_Program_haveByWay_194 ?_
    simp only [nI_1, nI_m1 hi1]
    refine r_W6 v_Program_have w_641 lc_117 (hvL (b) (i) (kpC (M0 17) Q R b i c) (dp + 1) (ls ++ kpL (M0 17) Q R b i c) N1 N1I N1P (by omega) (by omega) (by omega) (by (try simp only [List.length_append]); omega)) (by omega) (Nat.le_of_ble_eq_true rfl) d_Program_haveByWay_195 (fun v N2 hv1 => ?_)
    obtain ⟨rfl, N2I, N2P, N2F⟩ := hv1
    refine r_aload_n (i := 0) d_Program_haveByWay_198 rfl rfl ?_
    refine r_iconst 2 d_Program_haveByWay_199 ic_2 ?_
    refine r_iload d_Program_haveByWay_200 rfl ?_
    refine r_iload_n (i := 3) d_Program_haveByWay_202 rfl rfl ?_
    refine r_aload_n (i := 1) d_Program_haveByWay_203 rfl rfl ?_
    refine r_iload d_Program_haveByWay_204 rfl ?_
    refine r_S2 f_Program_sourceKind w_646 (c2_sourceKind (x := R) (by omega) (N2I.1 13 (by omega) (by omega) (by omega)) (N2I.1 17 (by omega) (by omega) (by omega))) (by omega) (Nat.le_of_ble_eq_true rfl) d_Program_haveByWay_206 ?_
    refine r_aload_n (i := 0) d_Program_haveByWay_209 rfl rfl ?_
    refine r_aload_n (i := 1) d_Program_haveByWay_210 rfl rfl ?_
    refine r_iload d_Program_haveByWay_211 rfl ?_
    refine r_V2 v_Program_sourceNumber w_650 lc_117 (c2_sourceNumber (x := R) (cc := (Q R b i c).2) (by omega) (N2I.1 15 (by omega) (by omega) (by omega)) (N2I.1 17 (by omega) (by omega) (by omega)) (fun q => by rw [N2F R (by omega)]; exact N1C q)) (by omega) (Nat.le_of_ble_eq_true rfl) d_Program_haveByWay_213 ?_
    refine r_W5 v_Program_add w_654 lc_117 (c_Program_add _ _ _ _ _ (ls ++ kpL (M0 17) Q R b i c ++ (Q L b i (kpC (M0 17) Q R b i c)).1) ((Q L b i (kpC (M0 17) Q R b i c)).2) _ N2P (by simp only [List.length_append, List.length_cons, List.length_nil]; omega)) (by omega) (Nat.le_of_ble_eq_true rfl) d_Program_haveByWay_216 (fun v N3 hv1 => ?_)
    obtain ⟨rfl, N3g, N3h, N3P⟩ := hv1
    have N3I := HI_add N2I N3g N3h
    refine r_goto 426 d_Program_haveByWay_219 (by decide) ?_
    refine r_vret rfl d_Program_haveByWay_426 ?_
    refine ⟨rfl, N3I, ?_, fun y hy => ?_⟩
    · rw [hQ]
      unfold pW
      simp only [hw, if_true, if_false, Nat.reduceEqDiff, List.append_assoc] at N3P ⊢
      exact N3P
    · rw [N3g 121 (by omega) (by omega)]
      rw [N2F y (by omega), N1F y (by omega)]
  · rw [hw]
    refine r_tableIn 222 d_Program_haveByWay_27 (by decide) (by decide) (off := 195) rfl (by decide) ?_
    refine r_aload_n (i := 0) d_Program_haveByWay_222 rfl rfl ?_
    refine r_aload_n (i := 1) d_Program_haveByWay_223 rfl rfl ?_
    refine r_aload_n (i := 2) d_Program_haveByWay_224 rfl rfl ?_
    refine r_iload d_Program_haveByWay_225 rfl ?_
    refine r_iload d_Program_haveByWay_227 rfl ?_
    refine r_iload d_Program_haveByWay_229 rfl ?_
    refine r_iload d_Program_haveByWay_231 rfl ?_
    refine r_iconst 1 d_Program_haveByWay_233 ic_1 ?_
    refine r_iadd d_Program_haveByWay_234 ?_
    simp only [nI_1, nI_m1 hi1]
    refine r_W6 v_Program_haveKept w_665 lc_117 (hkL (b) (i) (c) (dp + 1) (ls) M hI hPM (by omega) (by omega) (by omega) (by (try simp only [List.length_append]); omega)) (by omega) (Nat.le_of_ble_eq_true rfl) d_Program_haveByWay_235 (fun v N1 hv1 => ?_)
    obtain ⟨rfl, ⟨N1I, N1P, N1F⟩, N1C⟩ := hv1
    refine r_aload_n (i := 0) d_Program_haveByWay_238 rfl rfl ?_
    refine r_aload_n (i := 1) d_Program_haveByWay_239 rfl rfl ?_
    refine r_aload_n (i := 2) d_Program_haveByWay_240 rfl rfl ?_
    refine r_iload d_Program_haveByWay_241 rfl ?_
    refine r_iload d_Program_haveByWay_243 rfl ?_
    refine r_iload d_Program_haveByWay_245 rfl ?_
    refine r_iload d_Program_haveByWay_247 rfl ?_
    refine r_iconst 1 d_Program_haveByWay_249 ic_1 ?_
    refine r_iadd d_Program_haveByWay_250 ?_
    simp only [nI_1, nI_m1 hi1]
    refine r_W6 v_Program_have w_641 lc_117 (hvR (b) (i) (kpC (M0 17) Q L b i c) (dp + 1) (ls ++ kpL (M0 17) Q L b i c) N1 N1I N1P (by omega) (by omega) (by omega) (by (try simp only [List.length_append]); omega)) (by omega) (Nat.le_of_ble_eq_true rfl) d_Program_haveByWay_251 (fun v N2 hv1 => ?_)
    obtain ⟨rfl, N2I, N2P, N2F⟩ := hv1
    refine r_aload_n (i := 0) d_Program_haveByWay_254 rfl rfl ?_
    refine r_iconst 2 d_Program_haveByWay_255 ic_2 ?_
    refine r_iload d_Program_haveByWay_256 rfl ?_
    refine r_iload_n (i := 3) d_Program_haveByWay_258 rfl rfl ?_
    refine r_aload_n (i := 1) d_Program_haveByWay_259 rfl rfl ?_
    refine r_iload d_Program_haveByWay_260 rfl ?_
    refine r_S2 f_Program_sourceKind w_646 (c2_sourceKind (x := L) (by omega) (N2I.1 13 (by omega) (by omega) (by omega)) (N2I.1 17 (by omega) (by omega) (by omega))) (by omega) (Nat.le_of_ble_eq_true rfl) d_Program_haveByWay_262 ?_
    refine r_aload_n (i := 0) d_Program_haveByWay_265 rfl rfl ?_
    refine r_aload_n (i := 1) d_Program_haveByWay_266 rfl rfl ?_
    refine r_iload d_Program_haveByWay_267 rfl ?_
    refine r_V2 v_Program_sourceNumber w_650 lc_117 (c2_sourceNumber (x := L) (cc := (Q L b i c).2) (by omega) (N2I.1 15 (by omega) (by omega) (by omega)) (N2I.1 17 (by omega) (by omega) (by omega)) (fun q => by rw [N2F L (by omega)]; exact N1C q)) (by omega) (Nat.le_of_ble_eq_true rfl) d_Program_haveByWay_269 ?_
    refine r_W5 v_Program_add w_654 lc_117 (c_Program_add _ _ _ _ _ (ls ++ kpL (M0 17) Q L b i c ++ (Q R b i (kpC (M0 17) Q L b i c)).1) ((Q R b i (kpC (M0 17) Q L b i c)).2) _ N2P (by simp only [List.length_append, List.length_cons, List.length_nil]; omega)) (by omega) (Nat.le_of_ble_eq_true rfl) d_Program_haveByWay_272 (fun v N3 hv1 => ?_)
    obtain ⟨rfl, N3g, N3h, N3P⟩ := hv1
    have N3I := HI_add N2I N3g N3h
    refine r_goto 426 d_Program_haveByWay_275 (by decide) ?_
    refine r_vret rfl d_Program_haveByWay_426 ?_
    refine ⟨rfl, N3I, ?_, fun y hy => ?_⟩
    · rw [hQ]
      unfold pW
      simp only [hw, if_true, if_false, Nat.reduceEqDiff, List.append_assoc] at N3P ⊢
      exact N3P
    · rw [N3g 121 (by omega) (by omega)]
      rw [N2F y (by omega), N1F y (by omega)]
  · rw [hw]
    refine r_tableIn 278 d_Program_haveByWay_27 (by decide) (by decide) (off := 251) rfl (by decide) ?_
    refine r_aload_n (i := 0) d_Program_haveByWay_278 rfl rfl ?_
    refine r_aload_n (i := 1) d_Program_haveByWay_279 rfl rfl ?_
    refine r_aload_n (i := 2) d_Program_haveByWay_280 rfl rfl ?_
    refine r_iload d_Program_haveByWay_281 rfl ?_
    refine r_iload d_Program_haveByWay_283 rfl ?_
    refine r_iload d_Program_haveByWay_285 rfl ?_
    refine r_iload d_Program_haveByWay_287 rfl ?_
    refine r_iconst 1 d_Program_haveByWay_289 ic_1 ?_
    refine r_iadd d_Program_haveByWay_290 ?_
    simp only [nI_1, nI_m1 hi1]
    refine r_W6 v_Program_haveKept w_665 lc_117 (hkL (b) (i) (c) (dp + 1) (ls) M hI hPM (by omega) (by omega) (by omega) (by (try simp only [List.length_append]); omega)) (by omega) (Nat.le_of_ble_eq_true rfl) d_Program_haveByWay_291 (fun v N1 hv1 => ?_)
    obtain ⟨rfl, ⟨N1I, N1P, N1F⟩, N1C⟩ := hv1
    refine r_aload_n (i := 0) d_Program_haveByWay_294 rfl rfl ?_
    refine r_aload_n (i := 1) d_Program_haveByWay_295 rfl rfl ?_
    refine r_aload_n (i := 2) d_Program_haveByWay_296 rfl rfl ?_
    refine r_iload d_Program_haveByWay_297 rfl ?_
    refine r_iload d_Program_haveByWay_299 rfl ?_
    refine r_iload d_Program_haveByWay_301 rfl ?_
    refine r_iload d_Program_haveByWay_303 rfl ?_
    refine r_iconst 1 d_Program_haveByWay_305 ic_1 ?_
    refine r_iadd d_Program_haveByWay_306 ?_
    simp only [nI_1, nI_m1 hi1]
    refine r_W6 v_Program_have w_641 lc_117 (hvR (b) (i) (kpC (M0 17) Q L b i c) (dp + 1) (ls ++ kpL (M0 17) Q L b i c) N1 N1I N1P (by omega) (by omega) (by omega) (by (try simp only [List.length_append]); omega)) (by omega) (Nat.le_of_ble_eq_true rfl) d_Program_haveByWay_307 (fun v N2 hv1 => ?_)
    obtain ⟨rfl, N2I, N2P, N2F⟩ := hv1
    refine r_aload_n (i := 0) d_Program_haveByWay_310 rfl rfl ?_
    refine r_iconst 0 d_Program_haveByWay_311 ic_0 ?_
    refine r_iload d_Program_haveByWay_312 rfl ?_
    refine r_iconst 1 d_Program_haveByWay_314 ic_1 ?_
    refine r_iadd d_Program_haveByWay_315 ?_
    refine r_iload d_Program_haveByWay_316 rfl ?_
    refine r_aload_n (i := 1) d_Program_haveByWay_318 rfl rfl ?_
    refine r_iload d_Program_haveByWay_319 rfl ?_
    refine r_S2 f_Program_sourceKind w_646 (c2_sourceKind (x := L) (by omega) (N2I.1 13 (by omega) (by omega) (by omega)) (N2I.1 17 (by omega) (by omega) (by omega))) (by omega) (Nat.le_of_ble_eq_true rfl) d_Program_haveByWay_321 ?_
    refine r_aload_n (i := 0) d_Program_haveByWay_324 rfl rfl ?_
    refine r_aload_n (i := 1) d_Program_haveByWay_325 rfl rfl ?_
    refine r_iload d_Program_haveByWay_326 rfl ?_
    refine r_V2 v_Program_sourceNumber w_650 lc_117 (c2_sourceNumber (x := L) (cc := (Q L b i c).2) (by omega) (N2I.1 15 (by omega) (by omega) (by omega)) (N2I.1 17 (by omega) (by omega) (by omega)) (fun q => by rw [N2F L (by omega)]; exact N1C q)) (by omega) (Nat.le_of_ble_eq_true rfl) d_Program_haveByWay_328 ?_
    simp only [nI_1]
    refine r_W5 v_Program_add w_654 lc_117 (c_Program_add _ _ _ _ _ (ls ++ kpL (M0 17) Q L b i c ++ (Q R b i (kpC (M0 17) Q L b i c)).1) ((Q R b i (kpC (M0 17) Q L b i c)).2) _ N2P (by simp only [List.length_append, List.length_cons, List.length_nil]; omega)) (by omega) (Nat.le_of_ble_eq_true rfl) d_Program_haveByWay_331 (fun v N3 hv1 => ?_)
    obtain ⟨rfl, N3g, N3h, N3P⟩ := hv1
    have N3I := HI_add N2I N3g N3h
    refine r_aload_n (i := 0) d_Program_haveByWay_334 rfl rfl ?_
    refine r_iconst 1 d_Program_haveByWay_335 ic_1 ?_
    refine r_iload d_Program_haveByWay_336 rfl ?_
    refine r_iload_n (i := 3) d_Program_haveByWay_338 rfl rfl ?_
    refine r_iload d_Program_haveByWay_339 rfl ?_
    refine r_iconst 1 d_Program_haveByWay_341 ic_1 ?_
    refine r_iadd d_Program_haveByWay_342 ?_
    refine r_iload d_Program_haveByWay_343 rfl ?_
    simp only [nI_1]
    refine r_W5 v_Program_add w_654 lc_117 (c_Program_add _ _ _ _ _ (ls ++ kpL (M0 17) Q L b i c ++ (Q R b i (kpC (M0 17) Q L b i c)).1 ++ [(0, nI (b + 1), nI L, srK (M0 13) (M0 17) L, srN (M0 15) (M0 17) L (Q L b i c).2)]) ((Q R b i (kpC (M0 17) Q L b i c)).2) _ N3P (by simp only [List.length_append, List.length_cons, List.length_nil]; omega)) (by omega) (Nat.le_of_ble_eq_true rfl) d_Program_haveByWay_345 (fun v N4 hv1 => ?_)
    obtain ⟨rfl, N4g, N4h, N4P⟩ := hv1
    have N4I := HI_add N3I N4g N4h
    refine r_goto 426 d_Program_haveByWay_348 (by decide) ?_
    refine r_vret rfl d_Program_haveByWay_426 ?_
    refine ⟨rfl, N4I, ?_, fun y hy => ?_⟩
    · rw [hQ]
      unfold pW
      simp only [hw, if_true, if_false, Nat.reduceEqDiff, List.append_assoc] at N4P ⊢
      exact N4P
    · rw [N4g 121 (by omega) (by omega), N3g 121 (by omega) (by omega)]
      rw [N2F y (by omega), N1F y (by omega)]
  · rw [hw]
    refine r_tableOut 351 d_Program_haveByWay_27 (by decide) (by decide) ?_
    refine r_aload_n (i := 0) d_Program_haveByWay_351 rfl rfl ?_
    refine r_aload_n (i := 1) d_Program_haveByWay_352 rfl rfl ?_
    refine r_aload_n (i := 2) d_Program_haveByWay_353 rfl rfl ?_
    refine r_iload d_Program_haveByWay_354 rfl ?_
    refine r_iload d_Program_haveByWay_356 rfl ?_
    refine r_iload d_Program_haveByWay_358 rfl ?_
    refine r_iload d_Program_haveByWay_360 rfl ?_
    refine r_iconst 1 d_Program_haveByWay_362 ic_1 ?_
    refine r_iadd d_Program_haveByWay_363 ?_
    simp only [nI_1, nI_m1 hi1]
    refine r_W6 v_Program_haveKept w_665 lc_117 (hkL (b) (i) (c) (dp + 1) (ls) M hI hPM (by omega) (by omega) (by omega) (by (try simp only [List.length_append]); omega)) (by omega) (Nat.le_of_ble_eq_true rfl) d_Program_haveByWay_364 (fun v N1 hv1 => ?_)
    obtain ⟨rfl, ⟨N1I, N1P, N1F⟩, N1C⟩ := hv1
    refine r_aload_n (i := 0) d_Program_haveByWay_367 rfl rfl ?_
    refine r_aload_n (i := 1) d_Program_haveByWay_368 rfl rfl ?_
    refine r_aload_n (i := 2) d_Program_haveByWay_369 rfl rfl ?_
    refine r_iload d_Program_haveByWay_370 rfl ?_
    refine r_iload d_Program_haveByWay_372 rfl ?_
    refine r_iload d_Program_haveByWay_374 rfl ?_
    refine r_iload d_Program_haveByWay_376 rfl ?_
    refine r_iconst 1 d_Program_haveByWay_378 ic_1 ?_
    refine r_iadd d_Program_haveByWay_379 ?_
    simp only [nI_1, nI_m1 hi1]
    refine r_W6 v_Program_haveKept w_665 lc_117 (hkR (b) (i) (kpC (M0 17) Q L b i c) (dp + 1) (ls ++ kpL (M0 17) Q L b i c) N1 N1I N1P (by omega) (by omega) (by omega) (by (try simp only [List.length_append]); omega)) (by omega) (Nat.le_of_ble_eq_true rfl) d_Program_haveByWay_380 (fun v N2 hv1 => ?_)
    obtain ⟨rfl, ⟨N2I, N2P, N2F⟩, N2C⟩ := hv1
    refine r_aload_n (i := 0) d_Program_haveByWay_383 rfl rfl ?_
    refine r_iconst 0 d_Program_haveByWay_384 ic_0 ?_
    refine r_iload d_Program_haveByWay_385 rfl ?_
    refine r_iload d_Program_haveByWay_387 rfl ?_
    refine r_aload_n (i := 1) d_Program_haveByWay_389 rfl rfl ?_
    refine r_iload d_Program_haveByWay_390 rfl ?_
    refine r_S2 f_Program_sourceKind w_646 (c2_sourceKind (x := L) (by omega) (N2I.1 13 (by omega) (by omega) (by omega)) (N2I.1 17 (by omega) (by omega) (by omega))) (by omega) (Nat.le_of_ble_eq_true rfl) d_Program_haveByWay_392 ?_
    refine r_aload_n (i := 0) d_Program_haveByWay_395 rfl rfl ?_
    refine r_aload_n (i := 1) d_Program_haveByWay_396 rfl rfl ?_
    refine r_iload d_Program_haveByWay_397 rfl ?_
    refine r_V2 v_Program_sourceNumber w_650 lc_117 (c2_sourceNumber (x := L) (cc := (Q L b i c).2) (by omega) (N2I.1 15 (by omega) (by omega) (by omega)) (N2I.1 17 (by omega) (by omega) (by omega)) (fun q => by rw [N2F L (by omega)]; exact N1C q)) (by omega) (Nat.le_of_ble_eq_true rfl) d_Program_haveByWay_399 ?_
    refine r_W5 v_Program_add w_654 lc_117 (c_Program_add _ _ _ _ _ (ls ++ kpL (M0 17) Q L b i c ++ kpL (M0 17) Q R b i (kpC (M0 17) Q L b i c)) (kpC (M0 17) Q R b i (kpC (M0 17) Q L b i c)) _ N2P (by simp only [List.length_append, List.length_cons, List.length_nil]; omega)) (by omega) (Nat.le_of_ble_eq_true rfl) d_Program_haveByWay_402 (fun v N3 hv1 => ?_)
    obtain ⟨rfl, N3g, N3h, N3P⟩ := hv1
    have N3I := HI_add N2I N3g N3h
    refine r_aload_n (i := 0) d_Program_haveByWay_405 rfl rfl ?_
    refine r_iconst 2 d_Program_haveByWay_406 ic_2 ?_
    refine r_iload d_Program_haveByWay_407 rfl ?_
    refine r_iload_n (i := 3) d_Program_haveByWay_409 rfl rfl ?_
    refine r_aload_n (i := 1) d_Program_haveByWay_410 rfl rfl ?_
    refine r_iload d_Program_haveByWay_411 rfl ?_
    refine r_S2 f_Program_sourceKind w_646 (c2_sourceKind (x := R) (by omega) (N3I.1 13 (by omega) (by omega) (by omega)) (N3I.1 17 (by omega) (by omega) (by omega))) (by omega) (Nat.le_of_ble_eq_true rfl) d_Program_haveByWay_413 ?_
    refine r_aload_n (i := 0) d_Program_haveByWay_416 rfl rfl ?_
    refine r_aload_n (i := 1) d_Program_haveByWay_417 rfl rfl ?_
    refine r_iload d_Program_haveByWay_418 rfl ?_
    refine r_V2 v_Program_sourceNumber w_650 lc_117 (c2_sourceNumber (x := R) (cc := (Q R b i (kpC (M0 17) Q L b i c)).2) (by omega) (N3I.1 15 (by omega) (by omega) (by omega)) (N3I.1 17 (by omega) (by omega) (by omega)) (fun q => by rw [N3g 121 (by omega) (by omega)]; exact N2C q)) (by omega) (Nat.le_of_ble_eq_true rfl) d_Program_haveByWay_420 ?_
    refine r_W5 v_Program_add w_654 lc_117 (c_Program_add _ _ _ _ _ (ls ++ kpL (M0 17) Q L b i c ++ kpL (M0 17) Q R b i (kpC (M0 17) Q L b i c) ++ [(0, nI b, nI L, srK (M0 13) (M0 17) L, srN (M0 15) (M0 17) L (Q L b i c).2)]) (kpC (M0 17) Q R b i (kpC (M0 17) Q L b i c)) _ N3P (by simp only [List.length_append, List.length_cons, List.length_nil]; omega)) (by omega) (Nat.le_of_ble_eq_true rfl) d_Program_haveByWay_423 (fun v N4 hv1 => ?_)
    obtain ⟨rfl, N4g, N4h, N4P⟩ := hv1
    have N4I := HI_add N3I N4g N4h
    refine r_vret rfl d_Program_haveByWay_426 ?_
    refine ⟨rfl, N4I, ?_, fun y hy => ?_⟩
    · rw [hQ]
      unfold pW
      simp only [hw, if_true, if_false, Nat.reduceEqDiff, List.append_assoc] at N4P ⊢
      exact N4P
    · rw [N4g 121 (by omega) (by omega), N3g 121 (by omega) (by omega)]
      rw [N2F y (by omega), N1F y (by omega)]

set_option maxHeartbeats 4000000 in
theorem hk_have {n Rg : Nat} {z : Nat → Nat} {Wy : Nat → Nat → Nat} {Q : nP} {M0 : nw_M} (hS : PSt n Rg z Wy Q M0) {x : Nat} (hx : x < n) (hvS : M0 17 x ≠ -9 → M0 19 x = -9 → HV G Rg z Q M0 (x - 1)) (hwy : M0 19 x ≠ -9 → HW G Rg z Q M0 x) : HV G Rg z Q M0 x := by
  intro b i c dp ls M hI hPM hi1 hbi hdp hls
  have hn := hS.1.1
  have zb := hS.1.zb x hx
  have k13 : M 13 = M0 13 := hI.1 _ (by omega) (by omega) (by omega)
  have k15 : M 15 = M0 15 := hI.1 _ (by omega) (by omega) (by omega)
  have k17 : M 17 = M0 17 := hI.1 _ (by omega) (by omega) (by omega)
  have k19 : M 19 = M0 19 := hI.1 _ (by omega) (by omega) (by omega)
  have k114 : M 114 = M0 114 := hI.1 _ (by omega) (by omega) (by omega)
  refine CJ_of2 (n0 := 0) (by decide) rfl rfl ?_
  simp only [List.map_cons, List.map_nil, List.cons_append, List.nil_append, List.reduceReplicate]
  refine r_iload d_Program_have_0 rfl ?_
  refine r_bipush 31 d_Program_have_2 bp_31 ?_
  refine r_icmp_lt 8 d_Program_have_4 (by decide) (fun h_4 => ?_) (fun h_4 => ?_)
  · skip
    refine r_aload_n (i := 1) d_Program_have_8 rfl rfl ?_
    refine r_iload_n (i := 3) d_Program_have_9 rfl rfl ?_
    refine r_V1 v_Tree_isLeaf w_645 tree_11.1 (c2_isLeaf (by omega) k17) (by omega) (Nat.le_of_ble_eq_true rfl) d_Program_have_10 ?_
    refine r_if_eq 38 d_Program_have_13 (by decide) (fun h_13 => ?_) (fun h_13 => ?_)
    · skip
      rw [bI_f, beq_eq_false_iff_ne] at h_13
      refine r_aload_n (i := 1) d_Program_have_38 rfl rfl ?_
      refine r_iload_n (i := 3) d_Program_have_39 rfl rfl ?_
      refine r_V1 v_Tree_isPair w_659 tree_11.1 (c2_isPair (by omega) k19) (by omega) (Nat.le_of_ble_eq_true rfl) d_Program_have_40 ?_
      refine r_if_ne 83 d_Program_have_43 (by decide) (fun h_43 => ?_) (fun h_43 => ?_)
      · skip
        rw [bI_t, bne_iff_ne] at h_43
        refine r_aload_n (i := 0) d_Program_have_83 rfl rfl ?_
        refine r_aload_n (i := 1) d_Program_have_84 rfl rfl ?_
        refine r_aload_n (i := 2) d_Program_have_85 rfl rfl ?_
        refine r_iload_n (i := 3) d_Program_have_86 rfl rfl ?_
        refine r_iload d_Program_have_87 rfl ?_
        refine r_iload d_Program_have_89 rfl ?_
        refine r_iload d_Program_have_91 rfl ?_
        refine r_W6 v_Program_haveByWay w_660 lc_117 (hwy h_43 b i c dp ls M hI hPM hi1 hbi hdp hls) (by omega) (Nat.le_of_ble_eq_true rfl) d_Program_have_93 (fun v N hv1 => ?_)
        obtain ⟨rfl, hv2⟩ := hv1
        refine r_vret rfl d_Program_have_96 ?_
        exact ⟨rfl, hv2⟩
      · skip
        rw [bI_f, bne_eq_false_iff_eq] at h_43
        have sp := hS.1.single hx h_13 h_43
        have hvS1 := hvS h_13 h_43
        have len1 := pX_le hS.1 hS.2.2.2.2 (x - 1) (by omega) b i c
        have hQ : Q x b i c = ((Q (x - 1) b i c).1 ++ [(1, nI b, nI x, nI b, nI b)], (Q (x - 1) b i c).2) := by rw [hS.2.2.2.2 x b i c hx]; unfold pX; rw [if_neg h_13, if_pos h_43]
        refine r_aload_n (i := 0) d_Program_have_46 rfl rfl ?_
        refine r_aload_n (i := 1) d_Program_have_47 rfl rfl ?_
        refine r_aload_n (i := 2) d_Program_have_48 rfl rfl ?_
        refine r_aload_n (i := 1) d_Program_have_49 rfl rfl ?_
        refine r_getr nf_Program_65 tree_11.1 rfl d_Program_have_50 ?_
        refine r_iload_n (i := 3) d_Program_have_53 rfl rfl ?_
        refine r_V1 v_Row_get w_649 (isTree.lefts tree_11).1 (c2_Row_get (isTree.lefts tree_11) (by omega) (show M 17 x = nI (x - 1) by rw [k17]; exact sp.2.2.2.1)) (by omega) (Nat.le_of_ble_eq_true rfl) d_Program_have_54 ?_
        refine r_iload d_Program_have_57 rfl ?_
        refine r_iload d_Program_have_59 rfl ?_
        refine r_iload d_Program_have_61 rfl ?_
        refine r_iconst 1 d_Program_have_63 ic_1 ?_
        refine r_iadd d_Program_have_64 ?_
        simp only [nI_1]
        refine r_W6 v_Program_have w_641 lc_117 (hvS1 b i c (dp + 1) ls M hI hPM hi1 hbi (by omega) (by omega)) (by omega) (Nat.le_of_ble_eq_true rfl) d_Program_have_65 (fun v N1 hv1 => ?_)
        obtain ⟨rfl, N1I, N1P, N1F⟩ := hv1
        refine r_aload_n (i := 0) d_Program_have_68 rfl rfl ?_
        refine r_iconst 1 d_Program_have_69 ic_1 ?_
        refine r_iload d_Program_have_70 rfl ?_
        refine r_iload_n (i := 3) d_Program_have_72 rfl rfl ?_
        refine r_iload d_Program_have_73 rfl ?_
        refine r_iload d_Program_have_75 rfl ?_
        refine r_W5 v_Program_add w_654 lc_117 (c_Program_add _ _ _ _ _ (ls ++ (Q (x - 1) b i c).1) (Q (x - 1) b i c).2 _ N1P (by (try simp only [List.length_append]); omega)) (by omega) (Nat.le_of_ble_eq_true rfl) d_Program_have_77 (fun v N hv1 => ?_)
        obtain ⟨rfl, g1, g2, g3⟩ := hv1
        have gI := HI_add N1I g1 g2
        refine r_goto 96 d_Program_have_80 (by decide) ?_
        refine r_vret rfl d_Program_have_96 ?_
        rw [hQ]
        refine ⟨rfl, gI, ?_, fun y hy => by rw [g1 121 (by omega) (by omega)]; exact N1F y (by omega)⟩
        simp only [List.append_assoc] at g3 ⊢
        exact g3
    · skip
      rw [bI_t, beq_iff_eq] at h_13
      have hQ : Q x b i c = ([(0, nI b, nI x, srK (M0 13) (M0 17) x, M0 15 x)], c) := by rw [hS.2.2.2.2 x b i c hx]; unfold pX; rw [if_pos h_13]
      refine r_aload_n (i := 0) d_Program_have_16 rfl rfl ?_
      refine r_iconst 0 d_Program_have_17 ic_0 ?_
      refine r_iload d_Program_have_18 rfl ?_
      refine r_iload_n (i := 3) d_Program_have_20 rfl rfl ?_
      refine r_aload_n (i := 1) d_Program_have_21 rfl rfl ?_
      refine r_iload_n (i := 3) d_Program_have_22 rfl rfl ?_
      refine r_S2 f_Program_sourceKind w_646 (c2_sourceKind (x := x) (by omega) k13 k17) (by omega) (Nat.le_of_ble_eq_true rfl) d_Program_have_23 ?_
      refine r_aload_n (i := 0) d_Program_have_26 rfl rfl ?_
      refine r_aload_n (i := 1) d_Program_have_27 rfl rfl ?_
      refine r_iload_n (i := 3) d_Program_have_28 rfl rfl ?_
      refine r_V2 v_Program_sourceNumber w_650 lc_117 (c2_sourceNumber (x := x) (cc := 0) (by omega) k15 k17 (fun q => absurd h_13 q)) (by omega) (Nat.le_of_ble_eq_true rfl) d_Program_have_29 ?_
      refine r_W5 v_Program_add w_654 lc_117 (c_Program_add _ _ _ _ _ ls c _ hPM (by omega)) (by omega) (Nat.le_of_ble_eq_true rfl) d_Program_have_32 (fun v N hv1 => ?_)
      obtain ⟨rfl, g1, g2, g3⟩ := hv1
      have gI := HI_add hI g1 g2
      refine r_goto 96 d_Program_have_35 (by decide) ?_
      refine r_vret rfl d_Program_have_96 ?_
      rw [hQ]
      refine ⟨rfl, gI, ?_, fun y hy => by rw [g1 121 (by omega) (by omega)]⟩
      have e : srN (M0 15) (M0 17) x 0 = M0 15 x := by unfold srN; rw [if_pos h_13]
      rw [e] at g3
      exact g3
  · skip
    exact absurd (show nI dp < nI 31 from nI_lt (by omega) (by omega)) h_4

theorem hk_all {n Rg : Nat} {z : Nat → Nat} {Wy : Nat → Nat → Nat} {Q : nP} {M0 : nw_M} (hS : PSt n Rg z Wy Q M0) : ∀ x, x < n → HV G Rg z Q M0 x := by
  intro x
  induction x using Nat.strongRecOn with
  | _ x ih =>
    intro hx
    refine hk_have hS hx (fun h1 h2 => ?_) (fun h2 => ?_)
    · have sp := hS.1.single hx h1 h2
      exact ih (x - 1) (by omega) (by omega)
    · have sp := hS.1.pair hx h2
      exact hk_way hS hx h2 (ih _ (by omega) (by omega)) (ih _ (by omega) (by omega))
theorem c_Program_makeBy {i : Nat} {n Rg : Nat} {z : Nat → Nat} {Wy : Nat → Nat → Nat} {Q : nP} {M : nw_M} (hS : PSt n Rg z Wy Q (ms M 117 (upd (M 117) 4 (nI i)))) (hn0 : 0 < n) (hs : M 11 9 = nI n) (hi1 : 1 ≤ i) (hi : i ≤ Rg) (hP : M 117 4 = nI i → PM M (Q (n - 1) 0 i 0).1 (Q (n - 1) 0 i 0).2) : CJ G LC m_Program_makeBy 100 [.ref (G.2.2 117), .int (nI i), .ref (G.2.2 11), .ref (G.2.2 110)] M (fun v N => v = none ∧ (∀ e, e ≠ 117 → e ≠ 119 → e ≠ 121 → N e = M e) ∧ N 117 4 = nI i ∧ PM N (Q (n - 1) 0 i 0).1 (Q (n - 1) 0 i 0).2) := by
  have hn := hS.1.1
  have zb := hS.1.zb (n - 1) (by omega)
  have hRg := hS.2.1
  refine CJ_of2 (n0 := 0) (by decide) rfl rfl ?_
  simp only [List.map_cons, List.map_nil, List.cons_append, List.nil_append, List.reduceReplicate]
  refine r_aload_n (i := 0) d_Program_makeBy_0 rfl rfl ?_
  refine r_geti nf_Program_27 lc_117 rfl d_Program_makeBy_1 ?_
  refine r_iload_n (i := 1) d_Program_makeBy_4 rfl rfl ?_
  refine r_icmp_ne 9 d_Program_makeBy_5 (by decide) (fun h_5 => ?_) (fun h_5 => ?_)
  · skip
    refine r_aload_n (i := 0) d_Program_makeBy_9 rfl rfl ?_
    refine r_iload_n (i := 1) d_Program_makeBy_10 rfl rfl ?_
    refine r_puti nf_Program_27 nfin_Program_4 lc_117 rfl d_Program_makeBy_11 ?_
    refine r_aload_n (i := 0) d_Program_makeBy_14 rfl rfl ?_
    refine r_iconst 0 d_Program_makeBy_15 ic_0 ?_
    refine r_puti nf_Program_31 nfin_Program_2 lc_117 rfl d_Program_makeBy_16 ?_
    refine r_aload_n (i := 0) d_Program_makeBy_19 rfl rfl ?_
    refine r_iconst 0 d_Program_makeBy_20 ic_0 ?_
    refine r_puti nf_Program_34 nfin_Program_3 lc_117 rfl d_Program_makeBy_21 ?_
    refine r_aload_n (i := 0) d_Program_makeBy_24 rfl rfl ?_
    refine r_aload_n (i := 2) d_Program_makeBy_25 rfl rfl ?_
    refine r_aload_n (i := 3) d_Program_makeBy_26 rfl rfl ?_
    refine r_aload_n (i := 2) d_Program_makeBy_27 rfl rfl ?_
    refine r_V0 v_Tree_root w_640 tree_11.1 (c_Tree_root tree_11 _ ) (by omega) (Nat.le_of_ble_eq_true rfl) d_Program_makeBy_28 ?_
    refine r_iconst 0 d_Program_makeBy_31 ic_0 ?_
    refine r_iload_n (i := 1) d_Program_makeBy_32 rfl rfl ?_
    refine r_iconst 0 d_Program_makeBy_33 ic_0 ?_
    have e11 : (ms (ms (ms M 117 (upd (M 117) 4 (nI i))) 117 (upd (ms M 117 (upd (M 117) 4 (nI i)) 117) 2 0)) 117 (upd (ms (ms M 117 (upd (M 117) 4 (nI i))) 117 (upd (ms M 117 (upd (M 117) 4 (nI i)) 117) 2 0) 117) 3 0)) 11 9 = nI n := by simp (disch := omega) only [ms_ne]; exact hs
    rw [e11, nI_m1 (by omega)]
    refine r_W6 v_Program_have w_641 lc_117 (hk_all hS (n - 1) (by omega) 0 i 0 0 [] _ ⟨fun e e1 e2 e3 => by simp (disch := omega) only [ms_ne], by simp (disch := omega) only [ms_same, upd_ne, upd_at]⟩ ⟨by simp (disch := omega) only [ms_same, upd_ne, upd_at]; rfl, by simp (disch := omega) only [ms_same, upd_at]; rfl, fun j x h => by simp at h⟩ hi1 (by omega) (by omega) (by simp only [List.length_nil]; omega)) (by omega) (Nat.le_of_ble_eq_true rfl) d_Program_makeBy_34 (fun v N hv1 => ?_)
    obtain ⟨rfl, NI, NP, NF⟩ := hv1
    refine r_vret rfl d_Program_makeBy_37 ?_
    refine ⟨rfl, fun e e1 e2 e3 => ?_, ?_, NP⟩
    · rw [NI.1 e e1 e2 e3]; simp (disch := omega) only [ms_ne]
    · rw [NI.2]; simp (disch := omega) only [ms_same, upd_at]
  · skip
    refine r_vret rfl d_Program_makeBy_8 ?_
    exact ⟨rfl, fun _ _ _ _ => rfl, h_5, hP h_5⟩

end MProg3
