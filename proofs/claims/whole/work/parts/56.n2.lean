-- the class: NeedCode, what is asked
/-- nothing of what lasts has changed, but for what is told -/
def KF (M N : nw_M) : Prop := (∀ e, 1 ≤ e → e ≤ 116 → N e = M e) ∧ N 0 11 = M 0 11 ∧ N 129 = M 129 ∧ N 131 = M 131 ∧ N 133 = M 133
section NN2
variable {G : nw_G} {n : Nat} {z : Nat → Nat} {tp : Nat → Bool} {nd ld ak mc : Nat → Nat} {C : Nat → Nat → Nat} {Q : nP} {V : Nat → Nat} {M N : nw_M}
variable {len : Nat} {s : SN} {l : List SN} {K : Nat → Option SN} {ask trp : Int32}
theorem KF.rf (M : nw_M) : KF M M := ⟨fun _ _ _ => rfl, rfl, rfl, rfl, rfl⟩
theorem KF.of (h : ∀ e, e ≠ 117 → e ≠ 119 → e ≠ 121 → N e = M e) : KF M N := ⟨fun e _ _ => h e (by omega) (by omega) (by omega), by rw [h 0 (by decide) (by decide) (by decide)], h 129 (by decide) (by decide) (by decide), h 131 (by decide) (by decide) (by decide), h 133 (by decide) (by decide) (by decide)⟩
theorem isN_out {w : Int32} (h : isN 9 w = false) : w.toInt < 0 ∨ 8 < w.toInt := by
  have h2 := of_decide_eq_false h
  rcases Decidable.em (w.toInt < 0 ∨ 8 < w.toInt) with q | q
  · exact q
  · refine absurd ⟨?_, ?_⟩ h2
    · rw [Int32.lt_iff_toInt_lt]; show ¬ w.toInt < 0; omega
    · rw [Int32.le_iff_toInt_le, nI_toInt (by omega)]; show ¬ 9 ≤ w.toInt; omega
theorem ctA_0 {sl len ul : Nat} : ctA n mc sl len ul (nI 0) = nI n := by rw [ctA, if_pos (by decide), if_pos (by decide)]
theorem ndA_0 {le nu lf rt : Nat → Int32} {k : Nat} : ndA n le nu lf rt z tp nd ld ak k (nI 0) = le k := by rw [ndA, if_pos (by decide)]
theorem ctA_1 {sl len ul : Nat} : ctA n mc sl len ul (nI 1) = nI (mc 0) := by rw [ctA, if_pos (by decide), if_neg (by decide), if_pos (by decide)]; rfl
theorem ndA_1 {le nu lf rt : Nat → Int32} {k : Nat} : ndA n le nu lf rt z tp nd ld ak k (nI 1) = nu k := by rw [ndA, if_neg (by decide), if_pos (by decide)]
theorem ctA_2 {sl len ul : Nat} : ctA n mc sl len ul (nI 2) = nI (mc 1) := by rw [ctA, if_pos (by decide), if_neg (by decide), if_pos (by decide)]; rfl
theorem ndA_2 {le nu lf rt : Nat → Int32} {k : Nat} : ndA n le nu lf rt z tp nd ld ak k (nI 2) = lf k := by rw [ndA, if_neg (by decide), if_neg (by decide), if_pos (by decide)]
theorem ctA_3 {sl len ul : Nat} : ctA n mc sl len ul (nI 3) = nI (mc 2) := by rw [ctA, if_pos (by decide), if_neg (by decide), if_pos (by decide)]; rfl
theorem ndA_3 {le nu lf rt : Nat → Int32} {k : Nat} : ndA n le nu lf rt z tp nd ld ak k (nI 3) = rt k := by rw [ndA, if_neg (by decide), if_neg (by decide), if_neg (by decide), if_pos (by decide)]
theorem ctA_4 {sl len ul : Nat} : ctA n mc sl len ul (nI 4) = nI (mc 3) := by rw [ctA, if_pos (by decide), if_neg (by decide), if_pos (by decide)]; rfl
theorem ndA_4 {le nu lf rt : Nat → Int32} {k : Nat} : ndA n le nu lf rt z tp nd ld ak k (nI 4) = nI (nv lf rt nd n k) := by rw [ndA, if_neg (by decide), if_neg (by decide), if_neg (by decide), if_neg (by decide), if_pos (by decide)]
theorem ctA_5 {sl len ul : Nat} : ctA n mc sl len ul (nI 5) = nI (mc 4) := by rw [ctA, if_pos (by decide), if_neg (by decide), if_pos (by decide)]; rfl
theorem ndA_5 {le nu lf rt : Nat → Int32} {k : Nat} : ndA n le nu lf rt z tp nd ld ak k (nI 5) = nI (nv lf rt ld n k) := by rw [ndA, if_neg (by decide), if_neg (by decide), if_neg (by decide), if_neg (by decide), if_neg (by decide), if_pos (by decide)]
theorem ctA_6 {sl len ul : Nat} : ctA n mc sl len ul (nI 6) = nI sl := by rw [ctA, if_pos (by decide), if_neg (by decide), if_neg (by decide), if_pos (by decide)]
theorem ndA_6 {le nu lf rt : Nat → Int32} {k : Nat} : ndA n le nu lf rt z tp nd ld ak k (nI 6) = bI (tp k) := by rw [ndA, if_neg (by decide), if_neg (by decide), if_neg (by decide), if_neg (by decide), if_neg (by decide), if_neg (by decide), if_pos (by decide)]
theorem ctA_7 {sl len ul : Nat} : ctA n mc sl len ul (nI 7) = nI len := by rw [ctA, if_pos (by decide), if_neg (by decide), if_neg (by decide), if_neg (by decide), if_pos (by decide)]
theorem ndA_7 {le nu lf rt : Nat → Int32} {k : Nat} : ndA n le nu lf rt z tp nd ld ak k (nI 7) = nI (z k) := by rw [ndA, if_neg (by decide), if_neg (by decide), if_neg (by decide), if_neg (by decide), if_neg (by decide), if_neg (by decide), if_neg (by decide), if_pos (by decide)]
theorem ctA_8 {sl len ul : Nat} : ctA n mc sl len ul (nI 8) = nI ul := by rw [ctA, if_pos (by decide), if_neg (by decide), if_neg (by decide), if_neg (by decide), if_neg (by decide)]
theorem ndA_8 {le nu lf rt : Nat → Int32} {k : Nat} : ndA n le nu lf rt z tp nd ld ak k (nI 8) = nI (ak k) := by rw [ndA, if_neg (by decide), if_neg (by decide), if_neg (by decide), if_neg (by decide), if_neg (by decide), if_neg (by decide), if_neg (by decide), if_neg (by decide), if_pos (by decide)]
theorem ctA_no {sl len ul : Nat} {w : Int32} (h : isN 9 w = false) : ctA n mc sl len ul w = -1 := by rw [ctA, h, if_neg (by decide)]
theorem c_Need_asked : CF G LC m_Need_asked 0 [.ref (G.2.2 0)] M (some (.int (M 0 12))) M := by
  refine CJ_of2 (n0 := 0) (by decide) rfl rfl ?_
  simp only [List.map_cons, List.map_nil, List.cons_append, List.nil_append, List.reduceReplicate]
  refine r_aload_n (i := 0) d_Need_asked_0 rfl rfl ?_
  refine r_geti nf_Need_218 lc_0 rfl d_Need_asked_1 ?_
  refine r_iret rfl d_Need_asked_4 ?_
  exact ⟨rfl, rfl⟩

theorem c_Need_trapped : CF G LC m_Need_trapped 0 [.ref (G.2.2 0)] M (some (.int (M 0 13))) M := by
  refine CJ_of2 (n0 := 0) (by decide) rfl rfl ?_
  simp only [List.map_cons, List.map_nil, List.cons_append, List.nil_append, List.reduceReplicate]
  refine r_aload_n (i := 0) d_Need_trapped_0 rfl rfl ?_
  refine r_geti nf_Need_80 lc_0 rfl d_Need_trapped_1 ?_
  refine r_iret rfl d_Need_trapped_4 ?_
  exact ⟨rfl, rfl⟩

theorem c_Need_clear : CF G LC m_Need_clear 0 [.ref (G.2.2 0)] M (some (.int (M 0 11))) (ms M 0 (upd (M 0) 11 0)) := by
  refine CJ_of2 (n0 := 1) (by decide) rfl rfl ?_
  simp only [List.map_cons, List.map_nil, List.cons_append, List.nil_append, List.reduceReplicate]
  refine r_aload_n (i := 0) d_Need_clear_0 rfl rfl ?_
  refine r_geti nf_Need_91 lc_0 rfl d_Need_clear_1 ?_
  refine r_istore_n (i := 1) d_Need_clear_4 rfl (Nat.le_of_ble_eq_true rfl) rfl ?_
  dsimp only [List.set]
  refine r_aload_n (i := 0) d_Need_clear_5 rfl rfl ?_
  refine r_iconst 0 d_Need_clear_6 ic_0 ?_
  refine r_puti nf_Need_91 nfin_Need_11 lc_0 rfl d_Need_clear_7 ?_
  refine r_iload_n (i := 1) d_Need_clear_10 rfl rfl ?_
  refine r_iret rfl d_Need_clear_11 ?_
  exact ⟨rfl, rfl⟩

theorem c_Need_type (h : M 0 11 = nI len) (hl : len ≤ 60) (c : Int32) : CJ G LC m_Need_type 1 [.ref (G.2.2 0), .int c] M (fun v N => v = some (.int (tyA len c)) ∧ (∀ e, e ≠ 0 → e ≠ 2 → N e = M e) ∧ (∀ j, j ≠ 11 → N 0 j = M 0 j) ∧ N 0 11 = nI (tyN len c) ∧ N 2 = tyX len (M 2) c) := by
  refine CJ_of2 (n0 := 0) (by decide) rfl rfl ?_
  simp only [List.map_cons, List.map_nil, List.cons_append, List.nil_append, List.reduceReplicate]
  refine r_iload_n (i := 1) d_Need_type_0 rfl rfl ?_
  refine r_if_lt 11 d_Need_type_1 (by decide) (fun h_1 => ?_) (fun h_1 => ?_)
  · skip
    have hb : isN 256 c = false := isN_neg h_1
    refine r_iconst (-1) d_Need_type_11 ic_m1 ?_
    refine r_iret rfl d_Need_type_12 ?_
    rw [tyA, tyN, tyX, hb]
    exact ⟨rfl, fun _ _ _ => rfl, fun _ _ => rfl, h, rfl⟩
  · skip
    refine r_iload_n (i := 1) d_Need_type_4 rfl rfl ?_
    refine r_sipush 255 d_Need_type_5 sp_255 ?_
    refine r_icmp_le 13 d_Need_type_8 (by decide) (fun h_8 => ?_) (fun h_8 => ?_)
    · skip
      have hb : isN 256 c = true := by
        rw [← in255]
        exact decide_eq_true ⟨h_1, fun q => absurd h_8 (Int32.not_le.mpr q)⟩
      refine r_aload_n (i := 0) d_Need_type_13 rfl rfl ?_
      refine r_gx nf_Need_91 lc_0 rfl (h) d_Need_type_14 ?_
      refine r_bipush 60 d_Need_type_17 bp_60 ?_
      refine r_icmp_lt 25 d_Need_type_19 (by decide) (fun h_19 => ?_) (fun h_19 => ?_)
      · skip
        have hlt : len < 60 := (nI_ltI (b := 60) (by omega) (by omega)).mp h_19
        refine r_aload_n (i := 0) d_Need_type_25 rfl rfl ?_
        refine r_getr nf_Need_14 lc_0 rfl d_Need_type_26 ?_
        refine r_aload_n (i := 0) d_Need_type_29 rfl rfl ?_
        refine r_gx nf_Need_91 lc_0 rfl (h) d_Need_type_30 ?_
        refine r_iload_n (i := 1) d_Need_type_33 rfl rfl ?_
        refine r_V2 v_Row_put w_303 row_1.1 (CF_eq (c_Row_put row_1 _ _ _) rfl (show _ = ms M 2 (upd (M 2) len c) by rw [rp_nI _ _ (by omega) (by decide)])) (Nat.le_of_ble_eq_true rfl) (Nat.le_of_ble_eq_true rfl) d_Need_type_34 ?_
        refine r_aload_n (i := 0) d_Need_type_37 rfl rfl ?_
        refine r_dup d_Need_type_38 rfl ?_
        refine r_gx nf_Need_91 lc_0 rfl ((by rw [ms_ne _ _ (by decide)]; exact h : _ = nI len)) d_Need_type_39 ?_
        refine r_iconst 1 d_Need_type_42 ic_1 ?_
        refine r_iaddN (a := len) (b := 1) d_Need_type_43 rfl rfl ?_
        refine r_puti nf_Need_91 nfin_Need_11 lc_0 rfl d_Need_type_44 ?_
        refine r_aload_n (i := 0) d_Need_type_47 rfl rfl ?_
        refine r_gx nf_Need_91 lc_0 rfl ((by rw [ms_same, upd_at] : _ = nI (len + 1))) d_Need_type_48 ?_
        refine r_iret rfl d_Need_type_51 ?_
        rw [tyA, tyN, tyX, hb, decide_eq_true hlt, if_pos rfl, if_pos hlt]
        refine ⟨rfl, fun e e0 e2 => by simp (disch := omega) only [ms_ne], fun j hj => by simp (disch := omega) only [ms_same, upd_ne, ms_ne], ?_, ?_⟩
        · rw [ms_same, upd_at]; rfl
        · rw [ms_ne _ _ (by decide), ms_same]; rfl
      · skip
        refine r_bipush (-3) d_Need_type_22 bp_m3 ?_
        refine r_iret rfl d_Need_type_24 ?_
        have hge : ¬ len < 60 := fun q => h_19 (nI_lt q (by decide))
        rw [tyA, tyN, tyX, hb, decide_eq_false hge, if_pos rfl, if_neg hge]
        exact ⟨rfl, fun _ _ _ => rfl, fun _ _ => rfl, h, rfl⟩
    · skip
      have hb : isN 256 c = false := by
        rw [← in255]
        exact decide_eq_false (fun q => q.2 (Int32.not_le.mp h_8))
      refine r_iconst (-1) d_Need_type_11 ic_m1 ?_
      refine r_iret rfl d_Need_type_12 ?_
      rw [tyA, tyN, tyX, hb]
      exact ⟨rfl, fun _ _ _ => rfl, fun _ _ => rfl, h, rfl⟩

theorem c_Need_count (h : CRg n z tp nd ld ak mc C Q V len s l K ask trp M) (w : Int32) : CF G LC m_Need_count 1 [.ref (G.2.2 0), .int w] M (some (.int (ctA n mc (shL n (M 17) tp ak).length len l.length w))) M := by
  obtain ⟨h1, h2, h3, h4, ⟨hB, hV, hS, hP⟩, h6, ⟨p, a1, a2, a3, a4, a5⟩, h8⟩ := h
  have hm := hB.2.2.1
  refine CJ_of2 (n0 := 0) (by decide) rfl rfl ?_
  simp only [List.map_cons, List.map_nil, List.cons_append, List.nil_append, List.reduceReplicate]
  refine r_iload_n (i := 1) d_Need_count_0 rfl rfl ?_
  rcases hw9 : isN 9 w with _ | _
  · refine r_tableOut 144 d_Need_count_1 (isN_out hw9) (by decide) ?_
    refine r_iconst (-1) d_Need_count_144 ic_m1 ?_
    refine r_iret rfl d_Need_count_145 ?_
    exact ⟨by rw [ctA_no hw9], rfl⟩
  · obtain ⟨q, hq, rfl⟩ := isN_ex hw9 (by omega)
    rcases nine hq with rfl | rfl | rfl | rfl | rfl | rfl | rfl | rfl | rfl
    · refine r_tableIn 52 d_Need_count_1 (by decide) (by decide) (off := 51) rfl (by decide) ?_
      refine r_aload_n (i := 0) d_Need_count_52 rfl rfl ?_
      refine r_getr nf_Need_28 lc_0 rfl d_Need_count_53 ?_
      refine r_getr nf_Need_101 image_10.1 rfl d_Need_count_56 ?_
      refine r_gx nf_Need_118 (isImage.tree image_10).1 rfl (hB.size) d_Need_count_59 ?_
      refine r_iret rfl d_Need_count_62 ?_
      exact ⟨by rw [ctA_0], rfl⟩
    · refine r_tableIn 63 d_Need_count_1 (by decide) (by decide) (off := 62) rfl (by decide) ?_
      refine r_aload_n (i := 0) d_Need_count_63 rfl rfl ?_
      refine r_getr nf_Need_28 lc_0 rfl d_Need_count_64 ?_
      refine r_getr nf_Need_84 image_10.1 rfl d_Need_count_67 ?_
      refine r_iconst 0 d_Need_count_70 ic_0 ?_
      refine r_V1 v_Row_get w_580 (isImage.machine image_10).1 (c2_Row_get (k := 0) image_10.machine (by decide) (hm 0 (by decide))) (Nat.le_of_ble_eq_true rfl) (Nat.le_of_ble_eq_true rfl) d_Need_count_71 ?_
      refine r_iret rfl d_Need_count_74 ?_
      exact ⟨by rw [ctA_1], rfl⟩
    · refine r_tableIn 75 d_Need_count_1 (by decide) (by decide) (off := 74) rfl (by decide) ?_
      refine r_aload_n (i := 0) d_Need_count_75 rfl rfl ?_
      refine r_getr nf_Need_28 lc_0 rfl d_Need_count_76 ?_
      refine r_getr nf_Need_84 image_10.1 rfl d_Need_count_79 ?_
      refine r_iconst 1 d_Need_count_82 ic_1 ?_
      refine r_V1 v_Row_get w_580 (isImage.machine image_10).1 (c2_Row_get (k := 1) image_10.machine (by decide) (hm 1 (by decide))) (Nat.le_of_ble_eq_true rfl) (Nat.le_of_ble_eq_true rfl) d_Need_count_83 ?_
      refine r_iret rfl d_Need_count_86 ?_
      exact ⟨by rw [ctA_2], rfl⟩
    · refine r_tableIn 87 d_Need_count_1 (by decide) (by decide) (off := 86) rfl (by decide) ?_
      refine r_aload_n (i := 0) d_Need_count_87 rfl rfl ?_
      refine r_getr nf_Need_28 lc_0 rfl d_Need_count_88 ?_
      refine r_getr nf_Need_84 image_10.1 rfl d_Need_count_91 ?_
      refine r_iconst 2 d_Need_count_94 ic_2 ?_
      refine r_V1 v_Row_get w_580 (isImage.machine image_10).1 (c2_Row_get (k := 2) image_10.machine (by decide) (hm 2 (by decide))) (Nat.le_of_ble_eq_true rfl) (Nat.le_of_ble_eq_true rfl) d_Need_count_95 ?_
      refine r_iret rfl d_Need_count_98 ?_
      exact ⟨by rw [ctA_3], rfl⟩
    · refine r_tableIn 99 d_Need_count_1 (by decide) (by decide) (off := 98) rfl (by decide) ?_
      refine r_aload_n (i := 0) d_Need_count_99 rfl rfl ?_
      refine r_getr nf_Need_28 lc_0 rfl d_Need_count_100 ?_
      refine r_getr nf_Need_84 image_10.1 rfl d_Need_count_103 ?_
      refine r_iconst 3 d_Need_count_106 ic_3 ?_
      refine r_V1 v_Row_get w_580 (isImage.machine image_10).1 (c2_Row_get (k := 3) image_10.machine (by decide) (hm 3 (by decide))) (Nat.le_of_ble_eq_true rfl) (Nat.le_of_ble_eq_true rfl) d_Need_count_107 ?_
      refine r_iret rfl d_Need_count_110 ?_
      exact ⟨by rw [ctA_4], rfl⟩
    · refine r_tableIn 111 d_Need_count_1 (by decide) (by decide) (off := 110) rfl (by decide) ?_
      refine r_aload_n (i := 0) d_Need_count_111 rfl rfl ?_
      refine r_getr nf_Need_28 lc_0 rfl d_Need_count_112 ?_
      refine r_getr nf_Need_84 image_10.1 rfl d_Need_count_115 ?_
      refine r_iconst 4 d_Need_count_118 ic_4 ?_
      refine r_V1 v_Row_get w_580 (isImage.machine image_10).1 (c2_Row_get (k := 4) image_10.machine (by decide) (hm 4 (by decide))) (Nat.le_of_ble_eq_true rfl) (Nat.le_of_ble_eq_true rfl) d_Need_count_119 ?_
      refine r_iret rfl d_Need_count_122 ?_
      exact ⟨by rw [ctA_5], rfl⟩
    · refine r_tableIn 123 d_Need_count_1 (by decide) (by decide) (off := 122) rfl (by decide) ?_
      refine r_aload_n (i := 0) d_Need_count_123 rfl rfl ?_
      refine r_getr nf_Need_76 lc_0 rfl d_Need_count_124 ?_
      refine r_gx nf_Need_249 lc_129 rfl (hS.1.1) d_Need_count_127 ?_
      refine r_iret rfl d_Need_count_130 ?_
      exact ⟨by rw [ctA_6], rfl⟩
    · refine r_tableIn 131 d_Need_count_1 (by decide) (by decide) (off := 130) rfl (by decide) ?_
      refine r_aload_n (i := 0) d_Need_count_131 rfl rfl ?_
      refine r_gx nf_Need_91 lc_0 rfl (h2) d_Need_count_132 ?_
      refine r_iret rfl d_Need_count_135 ?_
      exact ⟨by rw [ctA_7], rfl⟩
    · refine r_tableIn 136 d_Need_count_1 (by decide) (by decide) (off := 135) rfl (by decide) ?_
      refine r_aload_n (i := 0) d_Need_count_136 rfl rfl ?_
      refine r_getr nf_Need_48 lc_0 rfl d_Need_count_137 ?_
      refine r_gx nf_Need_231 lc_101 rfl (a3) d_Need_count_140 ?_
      refine r_iret rfl d_Need_count_143 ?_
      exact ⟨by rw [ctA_8], rfl⟩

theorem c_Need_node (h : NB n z tp nd ld ak mc C Q M) (k w : Int32) : CJ G LC m_Need_node 1 [.ref (G.2.2 0), .int k, .int w] M (fun v N => N = M ∧ ((isN n k = false ∧ v = some (.int (-1))) ∨ ∃ j, j < n ∧ k = nI j ∧ v = some (.int (ndA n (M 13) (M 15) (M 17) (M 19) z tp nd ld ak j w)))) := by
  have hn := h.n31
  refine CJ_of2 (n0 := 0) (by decide) rfl rfl ?_
  simp only [List.map_cons, List.map_nil, List.cons_append, List.nil_append, List.reduceReplicate]
  refine r_aload_n (i := 0) d_Need_node_0 rfl rfl ?_
  refine r_getr nf_Need_28 lc_0 rfl d_Need_node_1 ?_
  refine r_getr nf_Need_101 image_10.1 rfl d_Need_node_4 ?_
  refine r_iload_n (i := 1) d_Need_node_7 rfl rfl ?_
  refine r_V1 v_Tree_has w_576 (isImage.tree image_10).1 (c2_Tree_has h.size _) (Nat.le_of_ble_eq_true rfl) (Nat.le_of_ble_eq_true rfl) d_Need_node_8 ?_
  refine r_if_ne 16 d_Need_node_11 (by decide) (fun h_11 => ?_) (fun h_11 => ?_)
  · skip
    obtain ⟨j, hj, rfl⟩ := isN_ex ((bI_t _).mp h_11) (by omega)
    refine r_iload_n (i := 2) d_Need_node_16 rfl rfl ?_
    rcases hw9 : isN 9 w with _ | _
    · refine r_tableOut 203 d_Need_node_17 (isN_out hw9) (by decide) ?_
      refine r_iconst (-1) d_Need_node_203 ic_m1 ?_
      refine r_iret rfl d_Need_node_204 ?_
      exact ⟨rfl, Or.inr ⟨j, hj, rfl, by rw [ndA_bad hw9]⟩⟩
    · obtain ⟨q, hq, rfl⟩ := isN_ex hw9 (by omega)
      rcases nine hq with rfl | rfl | rfl | rfl | rfl | rfl | rfl | rfl | rfl
      · refine r_tableIn 68 d_Need_node_17 (by decide) (by decide) (off := 51) rfl (by decide) ?_
        refine r_aload_n (i := 0) d_Need_node_68 rfl rfl ?_
        refine r_getr nf_Need_28 lc_0 rfl d_Need_node_69 ?_
        refine r_getr nf_Need_101 image_10.1 rfl d_Need_node_72 ?_
        refine r_getr nf_Need_125 (isImage.tree image_10).1 rfl d_Need_node_75 ?_
        refine r_iload_n (i := 1) d_Need_node_78 rfl rfl ?_
        refine r_V1 v_Row_get w_580 (isTree.letters (isImage.tree image_10)).1 (c2_Row_get (k := j) tree_11.letters (by omega) (rfl)) (Nat.le_of_ble_eq_true rfl) (Nat.le_of_ble_eq_true rfl) d_Need_node_79 ?_
        refine r_iret rfl d_Need_node_82 ?_
        exact ⟨rfl, Or.inr ⟨j, hj, rfl, by rw [ndA_0]⟩⟩
      · refine r_tableIn 83 d_Need_node_17 (by decide) (by decide) (off := 66) rfl (by decide) ?_
        refine r_aload_n (i := 0) d_Need_node_83 rfl rfl ?_
        refine r_getr nf_Need_28 lc_0 rfl d_Need_node_84 ?_
        refine r_getr nf_Need_101 image_10.1 rfl d_Need_node_87 ?_
        refine r_getr nf_Need_132 (isImage.tree image_10).1 rfl d_Need_node_90 ?_
        refine r_iload_n (i := 1) d_Need_node_93 rfl rfl ?_
        refine r_V1 v_Row_get w_580 (isTree.numbers (isImage.tree image_10)).1 (c2_Row_get (k := j) tree_11.numbers (by omega) (rfl)) (Nat.le_of_ble_eq_true rfl) (Nat.le_of_ble_eq_true rfl) d_Need_node_94 ?_
        refine r_iret rfl d_Need_node_97 ?_
        exact ⟨rfl, Or.inr ⟨j, hj, rfl, by rw [ndA_1]⟩⟩
      · refine r_tableIn 98 d_Need_node_17 (by decide) (by decide) (off := 81) rfl (by decide) ?_
        refine r_aload_n (i := 0) d_Need_node_98 rfl rfl ?_
        refine r_getr nf_Need_28 lc_0 rfl d_Need_node_99 ?_
        refine r_getr nf_Need_101 image_10.1 rfl d_Need_node_102 ?_
        refine r_getr nf_Need_135 (isImage.tree image_10).1 rfl d_Need_node_105 ?_
        refine r_iload_n (i := 1) d_Need_node_108 rfl rfl ?_
        refine r_V1 v_Row_get w_580 (isTree.lefts (isImage.tree image_10)).1 (c2_Row_get (k := j) tree_11.lefts (by omega) (rfl)) (Nat.le_of_ble_eq_true rfl) (Nat.le_of_ble_eq_true rfl) d_Need_node_109 ?_
        refine r_iret rfl d_Need_node_112 ?_
        exact ⟨rfl, Or.inr ⟨j, hj, rfl, by rw [ndA_2]⟩⟩
      · refine r_tableIn 113 d_Need_node_17 (by decide) (by decide) (off := 96) rfl (by decide) ?_
        refine r_aload_n (i := 0) d_Need_node_113 rfl rfl ?_
        refine r_getr nf_Need_28 lc_0 rfl d_Need_node_114 ?_
        refine r_getr nf_Need_101 image_10.1 rfl d_Need_node_117 ?_
        refine r_getr nf_Need_138 (isImage.tree image_10).1 rfl d_Need_node_120 ?_
        refine r_iload_n (i := 1) d_Need_node_123 rfl rfl ?_
        refine r_V1 v_Row_get w_580 (isTree.rights (isImage.tree image_10)).1 (c2_Row_get (k := j) tree_11.rights (by omega) (rfl)) (Nat.le_of_ble_eq_true rfl) (Nat.le_of_ble_eq_true rfl) d_Need_node_124 ?_
        refine r_iret rfl d_Need_node_127 ?_
        exact ⟨rfl, Or.inr ⟨j, hj, rfl, by rw [ndA_3]⟩⟩
      · refine r_tableIn 128 d_Need_node_17 (by decide) (by decide) (off := 111) rfl (by decide) ?_
        refine r_aload_n (i := 0) d_Need_node_128 rfl rfl ?_
        refine r_getr nf_Need_28 lc_0 rfl d_Need_node_129 ?_
        refine r_getr nf_Need_101 image_10.1 rfl d_Need_node_132 ?_
        refine r_getr nf_Need_141 (isImage.tree image_10).1 rfl d_Need_node_135 ?_
        refine r_iload_n (i := 1) d_Need_node_138 rfl rfl ?_
        refine r_V1 v_Row_get w_580 (isTree.needs (isImage.tree image_10)).1 (c2_Row_get (k := j) tree_11.needs (by omega) ((h.1.2.2 j hj).2.2.1)) (Nat.le_of_ble_eq_true rfl) (Nat.le_of_ble_eq_true rfl) d_Need_node_139 ?_
        refine r_iret rfl d_Need_node_142 ?_
        exact ⟨rfl, Or.inr ⟨j, hj, rfl, by rw [ndA_4]⟩⟩
      · refine r_tableIn 143 d_Need_node_17 (by decide) (by decide) (off := 126) rfl (by decide) ?_
        refine r_aload_n (i := 0) d_Need_node_143 rfl rfl ?_
        refine r_getr nf_Need_28 lc_0 rfl d_Need_node_144 ?_
        refine r_getr nf_Need_101 image_10.1 rfl d_Need_node_147 ?_
        refine r_getr nf_Need_144 (isImage.tree image_10).1 rfl d_Need_node_150 ?_
        refine r_iload_n (i := 1) d_Need_node_153 rfl rfl ?_
        refine r_V1 v_Row_get w_580 (isTree.leasts (isImage.tree image_10)).1 (c2_Row_get (k := j) tree_11.leasts (by omega) ((h.1.2.2 j hj).2.2.2.1)) (Nat.le_of_ble_eq_true rfl) (Nat.le_of_ble_eq_true rfl) d_Need_node_154 ?_
        refine r_iret rfl d_Need_node_157 ?_
        exact ⟨rfl, Or.inr ⟨j, hj, rfl, by rw [ndA_5]⟩⟩
      · refine r_tableIn 158 d_Need_node_17 (by decide) (by decide) (off := 141) rfl (by decide) ?_
        refine r_aload_n (i := 0) d_Need_node_158 rfl rfl ?_
        refine r_getr nf_Need_28 lc_0 rfl d_Need_node_159 ?_
        refine r_getr nf_Need_101 image_10.1 rfl d_Need_node_162 ?_
        refine r_getr nf_Need_147 (isImage.tree image_10).1 rfl d_Need_node_165 ?_
        refine r_iload_n (i := 1) d_Need_node_168 rfl rfl ?_
        refine r_V1 v_Row_get w_580 (isTree.traps (isImage.tree image_10)).1 (c2_Row_get (k := j) tree_11.traps (by omega) ((h.1.2.2 j hj).2.1)) (Nat.le_of_ble_eq_true rfl) (Nat.le_of_ble_eq_true rfl) d_Need_node_169 ?_
        refine r_iret rfl d_Need_node_172 ?_
        exact ⟨rfl, Or.inr ⟨j, hj, rfl, by rw [ndA_6]⟩⟩
      · refine r_tableIn 173 d_Need_node_17 (by decide) (by decide) (off := 156) rfl (by decide) ?_
        refine r_aload_n (i := 0) d_Need_node_173 rfl rfl ?_
        refine r_getr nf_Need_28 lc_0 rfl d_Need_node_174 ?_
        refine r_getr nf_Need_101 image_10.1 rfl d_Need_node_177 ?_
        refine r_getr nf_Need_150 (isImage.tree image_10).1 rfl d_Need_node_180 ?_
        refine r_iload_n (i := 1) d_Need_node_183 rfl rfl ?_
        refine r_V1 v_Row_get w_580 (isTree.spans (isImage.tree image_10)).1 (c2_Row_get (k := j) tree_11.spans (by omega) ((h.1.2.2 j hj).1)) (Nat.le_of_ble_eq_true rfl) (Nat.le_of_ble_eq_true rfl) d_Need_node_184 ?_
        refine r_iret rfl d_Need_node_187 ?_
        exact ⟨rfl, Or.inr ⟨j, hj, rfl, by rw [ndA_7]⟩⟩
      · refine r_tableIn 188 d_Need_node_17 (by decide) (by decide) (off := 171) rfl (by decide) ?_
        refine r_aload_n (i := 0) d_Need_node_188 rfl rfl ?_
        refine r_getr nf_Need_28 lc_0 rfl d_Need_node_189 ?_
        refine r_getr nf_Need_101 image_10.1 rfl d_Need_node_192 ?_
        refine r_getr nf_Need_153 (isImage.tree image_10).1 rfl d_Need_node_195 ?_
        refine r_iload_n (i := 1) d_Need_node_198 rfl rfl ?_
        refine r_V1 v_Row_get w_580 (isTree.alikes (isImage.tree image_10)).1 (c2_Row_get (k := j) tree_11.alikes (by omega) ((h.1.2.2 j hj).2.2.2.2)) (Nat.le_of_ble_eq_true rfl) (Nat.le_of_ble_eq_true rfl) d_Need_node_199 ?_
        refine r_iret rfl d_Need_node_202 ?_
        exact ⟨rfl, Or.inr ⟨j, hj, rfl, by rw [ndA_8]⟩⟩
  · skip
    refine r_iconst (-1) d_Need_node_14 ic_m1 ?_
    refine r_iret rfl d_Need_node_15 ?_
    exact ⟨rfl, Or.inl ⟨(bI_f _).mp h_11, rfl⟩⟩

theorem isN_nI2 {j : Nat} (h : isN n (nI j) = false) (hj : j < n) (hn : n < 2 ^ 31) : False := by
  rw [isN_nI hj hn] at h
  exact absurd h (by decide)
theorem c_Need_value (h : NB n z tp nd ld ak mc C Q M) (k : Int32) : CJ G LC m_Need_value 4 [.ref (G.2.2 0), .int k] M (fun v N => KF M N ∧ N 117 = M 117 ∧ N 119 = M 119 ∧ ((isN n k = false ∧ v = some (.int (-1)) ∧ N 0 12 = M 0 12 ∧ N 0 13 = M 0 13) ∨ ∃ j, j < n ∧ k = nI j ∧ ((∃ w, evs (M 13) (M 15) (M 17) (M 19) (M 31) (j + 1 - z j) (M 124) (z j) = .inl w ∧ v = some (.int 1) ∧ N 0 12 = w j ∧ N 0 13 = M 0 13) ∨ ∃ t, evs (M 13) (M 15) (M 17) (M 19) (M 31) (j + 1 - z j) (M 124) (z j) = .inr t ∧ v = some (.int (-4)) ∧ N 0 12 = M 0 12 ∧ N 0 13 = nI t))) := by
  have hn := h.n31
  refine CJ_of2 (n0 := 0) (by decide) rfl rfl ?_
  simp only [List.map_cons, List.map_nil, List.cons_append, List.nil_append, List.reduceReplicate]
  refine r_aload_n (i := 0) d_Need_value_0 rfl rfl ?_
  refine r_getr nf_Need_28 lc_0 rfl d_Need_value_1 ?_
  refine r_getr nf_Need_101 image_10.1 rfl d_Need_value_4 ?_
  refine r_iload_n (i := 1) d_Need_value_7 rfl rfl ?_
  refine r_V1 v_Tree_has w_576 (isImage.tree image_10).1 (c2_Tree_has h.size _) (Nat.le_of_ble_eq_true rfl) (Nat.le_of_ble_eq_true rfl) d_Need_value_8 ?_
  refine r_if_ne 16 d_Need_value_11 (by decide) (fun h_11 => ?_) (fun h_11 => ?_)
  · skip
    obtain ⟨j, hj, rfl⟩ := isN_ex ((bI_t _).mp h_11) (by omega)
    refine r_aload_n (i := 0) d_Need_value_16 rfl rfl ?_
    refine r_aload_n (i := 0) d_Need_value_17 rfl rfl ?_
    refine r_getr nf_Need_69 lc_0 rfl d_Need_value_18 ?_
    refine r_aload_n (i := 0) d_Need_value_21 rfl rfl ?_
    refine r_getr nf_Need_28 lc_0 rfl d_Need_value_22 ?_
    refine r_getr nf_Need_101 image_10.1 rfl d_Need_value_25 ?_
    refine r_aload_n (i := 0) d_Need_value_28 rfl rfl ?_
    refine r_getr nf_Need_28 lc_0 rfl d_Need_value_29 ?_
    refine r_getr nf_Need_156 image_10.1 rfl d_Need_value_32 ?_
    refine r_iload_n (i := 1) d_Need_value_35 rfl rfl ?_
    refine r_W3 v_Device_evaluate w_585 lc_122 (c_Device_evaluate (n := n) (k := j) (f0 := j + 1 - z j) (z := z) h.2.1.1.1 hj (by have := h.2.1.1.1.zb j hj; omega) (h.1.2.2 j hj).1) (Nat.le_of_ble_eq_true rfl) (Nat.le_of_ble_eq_true rfl) d_Need_value_36 (fun v N hv => ?_)
    obtain ⟨q1, q2⟩ := hv
    rcases q1 with ⟨w, e1, rfl, e2, e3⟩ | ⟨t, e1, rfl, e2⟩
    · skip
      skip
      refine r_V1 v_Need_tell w_602 lc_0 (c1_Need_tell) (Nat.le_of_ble_eq_true rfl) (Nat.le_of_ble_eq_true rfl) d_Need_value_39 ?_
      refine r_iret rfl d_Need_value_42 ?_
      have q117 := q2 117 (by decide) (by decide)
      have q119 := q2 119 (by decide) (by decide)
      have q0 := q2 0 (by decide) (by decide)
      first
        | exact ⟨⟨fun e e1 e2 => by rw [ms_ne _ _ (by omega)]; exact q2 e (by omega) (by omega), by rw [ms_same, upd_ne _ _ (by decide), q2 0 (by decide) (by decide)], by rw [ms_ne _ _ (by decide)]; exact q2 129 (by decide) (by decide), by rw [ms_ne _ _ (by decide)]; exact q2 131 (by decide) (by decide), by rw [ms_ne _ _ (by decide)]; exact q2 133 (by decide) (by decide)⟩, q117, q119, Or.inr ⟨j, hj, rfl, Or.inl ⟨w, e1, rfl, by rw [ms_same, upd_at]; exact e2, by rw [ms_same, upd_ne _ _ (by decide), q0]⟩⟩⟩
        | exact ⟨⟨fun e e1 e2 => by rw [ms_ne _ _ (by omega)]; exact q2 e (by omega) (by omega), by rw [ms_same, upd_ne _ _ (by decide), q2 0 (by decide) (by decide)], by rw [ms_ne _ _ (by decide)]; exact q2 129 (by decide) (by decide), by rw [ms_ne _ _ (by decide)]; exact q2 131 (by decide) (by decide), by rw [ms_ne _ _ (by decide)]; exact q2 133 (by decide) (by decide)⟩, q117, q119, Or.inr ⟨j, hj, rfl, Or.inr ⟨t, e1, rfl, by rw [ms_same, upd_ne _ _ (by decide), q0], by rw [ms_same, upd_at]; exact e2⟩⟩⟩
    · skip
      skip
      refine r_V1 v_Need_tell w_602 lc_0 (c0_Need_tell) (Nat.le_of_ble_eq_true rfl) (Nat.le_of_ble_eq_true rfl) d_Need_value_39 ?_
      refine r_iret rfl d_Need_value_42 ?_
      have q117 := q2 117 (by decide) (by decide)
      have q119 := q2 119 (by decide) (by decide)
      have q0 := q2 0 (by decide) (by decide)
      first
        | exact ⟨⟨fun e e1 e2 => by rw [ms_ne _ _ (by omega)]; exact q2 e (by omega) (by omega), by rw [ms_same, upd_ne _ _ (by decide), q2 0 (by decide) (by decide)], by rw [ms_ne _ _ (by decide)]; exact q2 129 (by decide) (by decide), by rw [ms_ne _ _ (by decide)]; exact q2 131 (by decide) (by decide), by rw [ms_ne _ _ (by decide)]; exact q2 133 (by decide) (by decide)⟩, q117, q119, Or.inr ⟨j, hj, rfl, Or.inl ⟨w, e1, rfl, by rw [ms_same, upd_at]; exact e2, by rw [ms_same, upd_ne _ _ (by decide), q0]⟩⟩⟩
        | exact ⟨⟨fun e e1 e2 => by rw [ms_ne _ _ (by omega)]; exact q2 e (by omega) (by omega), by rw [ms_same, upd_ne _ _ (by decide), q2 0 (by decide) (by decide)], by rw [ms_ne _ _ (by decide)]; exact q2 129 (by decide) (by decide), by rw [ms_ne _ _ (by decide)]; exact q2 131 (by decide) (by decide), by rw [ms_ne _ _ (by decide)]; exact q2 133 (by decide) (by decide)⟩, q117, q119, Or.inr ⟨j, hj, rfl, Or.inr ⟨t, e1, rfl, by rw [ms_same, upd_ne _ _ (by decide), q0], by rw [ms_same, upd_at]; exact e2⟩⟩⟩
  · skip
    refine r_iconst (-1) d_Need_value_14 ic_m1 ?_
    refine r_iret rfl d_Need_value_15 ?_
    exact ⟨KF.rf M, rfl, rfl, Or.inl ⟨(bI_f _).mp h_11, rfl, rfl, rfl⟩⟩

theorem c_Need_cost (h : NB n z tp nd ld ak mc C Q M) (k i : Int32) : CJ G LC m_Need_cost 3 [.ref (G.2.2 0), .int k, .int i] M (fun v N => N = M ∧ (((isN n k = false ∨ isR mc i = false) ∧ v = some (.int (-1))) ∨ ∃ j a, j < n ∧ 1 ≤ a ∧ a ≤ mc 0 ∧ k = nI j ∧ i = nI a ∧ v = some (.int (nI (C j a))))) := by
  have hn := h.n31
  refine CJ_of2 (n0 := 0) (by decide) rfl rfl ?_
  simp only [List.map_cons, List.map_nil, List.cons_append, List.nil_append, List.reduceReplicate]
  refine r_aload_n (i := 0) d_Need_cost_0 rfl rfl ?_
  refine r_getr nf_Need_28 lc_0 rfl d_Need_cost_1 ?_
  refine r_getr nf_Need_101 image_10.1 rfl d_Need_cost_4 ?_
  refine r_iload_n (i := 1) d_Need_cost_7 rfl rfl ?_
  refine r_V1 v_Tree_has w_576 (isImage.tree image_10).1 (c2_Tree_has h.size _) (Nat.le_of_ble_eq_true rfl) (Nat.le_of_ble_eq_true rfl) d_Need_cost_8 ?_
  refine r_if_eq 34 d_Need_cost_11 (by decide) (fun h_11 => ?_) (fun h_11 => ?_)
  · skip
    refine r_iconst (-1) d_Need_cost_34 ic_m1 ?_
    refine r_iret rfl d_Need_cost_35 ?_
    exact ⟨rfl, Or.inl ⟨Or.inl ((bI_f _).mp h_11), rfl⟩⟩
  · skip
    refine r_aload_n (i := 0) d_Need_cost_14 rfl rfl ?_
    refine r_iload_n (i := 2) d_Need_cost_15 rfl rfl ?_
    refine r_V1 v_Need_hasRegisters w_610 lc_0 (c_Need_hasRegisters (h.2.2.1 0 (by decide)) _) (Nat.le_of_ble_eq_true rfl) (Nat.le_of_ble_eq_true rfl) d_Need_cost_16 ?_
    refine r_if_eq 34 d_Need_cost_19 (by decide) (fun h_19 => ?_) (fun h_19 => ?_)
    · skip
      refine r_iconst (-1) d_Need_cost_34 ic_m1 ?_
      refine r_iret rfl d_Need_cost_35 ?_
      exact ⟨rfl, Or.inl ⟨Or.inr ((bI_f _).mp h_19), rfl⟩⟩
    · skip
      obtain ⟨j, hj, rfl⟩ := isN_ex ((bI_t _).mp h_11) (by omega)
      obtain ⟨a, ha1, ha2, rfl⟩ := isR_nat ((bI_t _).mp h_19) h.r6.2
      refine r_aload_n (i := 0) d_Need_cost_22 rfl rfl ?_
      refine r_getr nf_Need_55 lc_0 rfl d_Need_cost_23 ?_
      refine r_iload_n (i := 1) d_Need_cost_26 rfl rfl ?_
      refine r_iload_n (i := 2) d_Need_cost_27 rfl rfl ?_
      refine r_V2 v_Costs_costOf w_618 costs_110.1 (h.cost hj ha1 ha2) (Nat.le_of_ble_eq_true rfl) (Nat.le_of_ble_eq_true rfl) d_Need_cost_28 ?_
      refine r_goto 35 d_Need_cost_31 (by decide) ?_
      refine r_iret rfl d_Need_cost_35 ?_
      exact ⟨rfl, Or.inr ⟨j, a, hj, ha1, ha2, rfl, rfl, rfl⟩⟩

theorem c_Need_way (h : NB n z tp nd ld ak mc C Q M) (k i : Int32) : CJ G LC m_Need_way 3 [.ref (G.2.2 0), .int k, .int i] M (fun v N => N = M ∧ (((isN n k = false ∨ isR mc i = false) ∧ v = some (.int (-1))) ∨ ∃ j a, j < n ∧ 1 ≤ a ∧ a ≤ mc 0 ∧ k = nI j ∧ i = nI a ∧ v = some (.int (nI (wy0 mc (M 13) (M 17) (M 19) z tp C j a))))) := by
  have hn := h.n31
  refine CJ_of2 (n0 := 0) (by decide) rfl rfl ?_
  simp only [List.map_cons, List.map_nil, List.cons_append, List.nil_append, List.reduceReplicate]
  refine r_aload_n (i := 0) d_Need_way_0 rfl rfl ?_
  refine r_getr nf_Need_28 lc_0 rfl d_Need_way_1 ?_
  refine r_getr nf_Need_101 image_10.1 rfl d_Need_way_4 ?_
  refine r_iload_n (i := 1) d_Need_way_7 rfl rfl ?_
  refine r_V1 v_Tree_has w_576 (isImage.tree image_10).1 (c2_Tree_has h.size _) (Nat.le_of_ble_eq_true rfl) (Nat.le_of_ble_eq_true rfl) d_Need_way_8 ?_
  refine r_if_eq 34 d_Need_way_11 (by decide) (fun h_11 => ?_) (fun h_11 => ?_)
  · skip
    refine r_iconst (-1) d_Need_way_34 ic_m1 ?_
    refine r_iret rfl d_Need_way_35 ?_
    exact ⟨rfl, Or.inl ⟨Or.inl ((bI_f _).mp h_11), rfl⟩⟩
  · skip
    refine r_aload_n (i := 0) d_Need_way_14 rfl rfl ?_
    refine r_iload_n (i := 2) d_Need_way_15 rfl rfl ?_
    refine r_V1 v_Need_hasRegisters w_610 lc_0 (c_Need_hasRegisters (h.2.2.1 0 (by decide)) _) (Nat.le_of_ble_eq_true rfl) (Nat.le_of_ble_eq_true rfl) d_Need_way_16 ?_
    refine r_if_eq 34 d_Need_way_19 (by decide) (fun h_19 => ?_) (fun h_19 => ?_)
    · skip
      refine r_iconst (-1) d_Need_way_34 ic_m1 ?_
      refine r_iret rfl d_Need_way_35 ?_
      exact ⟨rfl, Or.inl ⟨Or.inr ((bI_f _).mp h_19), rfl⟩⟩
    · skip
      obtain ⟨j, hj, rfl⟩ := isN_ex ((bI_t _).mp h_11) (by omega)
      obtain ⟨a, ha1, ha2, rfl⟩ := isR_nat ((bI_t _).mp h_19) h.r6.2
      refine r_aload_n (i := 0) d_Need_way_22 rfl rfl ?_
      refine r_getr nf_Need_55 lc_0 rfl d_Need_way_23 ?_
      refine r_iload_n (i := 1) d_Need_way_26 rfl rfl ?_
      refine r_iload_n (i := 2) d_Need_way_27 rfl rfl ?_
      refine r_V2 v_Costs_wayOf w_623 costs_110.1 (h.way hj ha1 ha2) (Nat.le_of_ble_eq_true rfl) (Nat.le_of_ble_eq_true rfl) d_Need_way_28 ?_
      refine r_goto 35 d_Need_way_31 (by decide) ?_
      refine r_iret rfl d_Need_way_35 ?_
      exact ⟨rfl, Or.inr ⟨j, a, hj, ha1, ha2, rfl, rfl, rfl⟩⟩

end NN2
