-- the class: NeedCode, acts
theorem AC.keep2 {s : SN} {l : List SN} {M N : nw_M} (h : AC s l M) (h1 : N 101 = M 101) (h3 : N 103 = M 103) (h5 : N 105 = M 105) (h7 : N 107 = M 107) (h9 : N 109 = M 109) : AC s l N := by
  obtain ⟨p, a1, a2, a3, a4, a5⟩ := h
  refine ⟨p, a1, by rw [h1]; exact a2, by rw [h1]; exact a3, a4, UND.cong (r := 10) (fun q _ _ => ?_) l s p a1 (fun i _ => by omega) a5⟩
  rw [h3, h5, h7, h9]
  exact ⟨rfl, rfl, rfl, fun _ _ => rfl⟩
section NN4
variable {G : nw_G} {n : Nat} {z : Nat → Nat} {tp : Nat → Bool} {nd ld ak mc : Nat → Nat} {C : Nat → Nat → Nat} {Q : nP} {V : Nat → Nat} {M N : nw_M}
variable {len : Nat} {s : SN} {l : List SN} {K : Nat → Option SN} {ask trp : Int32}
theorem in8_t {w : Int32} (h1 : ¬ w < 0) (h2 : w < 8) : isN 8 w = true := isN_lt (x := 8) rfl h1 (fun q => absurd h2 (Int32.not_lt.mpr q))
theorem in8_f {w : Int32} (h : ¬ w < 8) : isN 8 w = false := isN_ge (x := 8) rfl (Int32.not_lt.mp h)
theorem CRg.parts (h : CRg n z tp nd ld ak mc C Q V len s l K ask trp M) : NW n z tp nd ld ak mc C Q V M ∧ MS n (M 13) (M 15) (M 17) (M 19) (M 31) mc s := ⟨h.2.2.2.2.1, h.2.2.2.2.2.1⟩
set_option maxHeartbeats 1000000 in
theorem c_Need_let (h : CRg n z tp nd ld ak mc C Q V len s l K ask trp M) (k x : Int32) : CJ G LC m_Need_let 3 [.ref (G.2.2 0), .int k, .int x] M (fun v N => (isN 8 k = false ∧ v = some (.int (-1)) ∧ N = M) ∨ ∃ j, j < 8 ∧ k = nI j ∧ v = some (.int 1) ∧ N 2 = M 2 ∧ CRg n z tp nd ld ak mc C Q V len (upd s (125 + j) x) (pushU s l) K (s (125 + j)) trp N) := by
  obtain ⟨h1, h2, h3, h4, h5, h6, ⟨p, a1, a2, a3, a4, a5⟩, h8⟩ := h
  refine CJ_of2 (n0 := 0) (by decide) rfl rfl ?_
  simp only [List.map_cons, List.map_nil, List.cons_append, List.nil_append, List.reduceReplicate]
  refine r_iload_n (i := 1) d_Need_let_0 rfl rfl ?_
  refine r_if_lt 10 d_Need_let_1 (by decide) (fun h_1 => ?_) (fun h_1 => ?_)
  · skip
    have hb : isN 8 k = false := isN_neg h_1
    refine r_iconst (-1) d_Need_let_10 ic_m1 ?_
    refine r_iret rfl d_Need_let_11 ?_
    exact Or.inl ⟨hb, rfl, rfl⟩
  · skip
    refine r_iload_n (i := 1) d_Need_let_4 rfl rfl ?_
    refine r_bipush 8 d_Need_let_5 bp_8 ?_
    refine r_icmp_lt 12 d_Need_let_7 (by decide) (fun h_7 => ?_) (fun h_7 => ?_)
    · skip
      obtain ⟨j, hj, rfl⟩ := isN_ex (in8_t h_1 h_7) (by omega)
      refine r_aload_n (i := 0) d_Need_let_12 rfl rfl ?_
      refine r_aload_n (i := 0) d_Need_let_13 rfl rfl ?_
      refine r_getr nf_Need_28 lc_0 rfl d_Need_let_14 ?_
      refine r_getr nf_Need_156 image_10.1 rfl d_Need_let_17 ?_
      refine r_iload_n (i := 1) d_Need_let_20 rfl rfl ?_
      refine r_V1 v_Row_get w_580 (isImage.names image_10).1 (c2_Row_get (k := j) image_10.names (by omega) (show M 31 j = s (125 + j) from (h6.gnm hj).symm)) (Nat.le_of_ble_eq_true rfl) (Nat.le_of_ble_eq_true rfl) d_Need_let_21 ?_
      refine r_puti nf_Need_218 nfin_Need_12 lc_0 rfl d_Need_let_24 ?_
      refine r_aload_n (i := 0) d_Need_let_27 rfl rfl ?_
      refine r_getr nf_Need_48 lc_0 rfl d_Need_let_28 ?_
      refine r_iload_n (i := 1) d_Need_let_31 rfl rfl ?_
      refine r_aload_n (i := 0) d_Need_let_32 rfl rfl ?_
      refine r_gx nf_Need_218 lc_0 rfl ((by rw [ms_same, upd_at] : _ = s (125 + j))) d_Need_let_33 ?_
      refine r_W2 v_Acts_addLet w_739 lc_101 (c_Acts_addLet p l.length a1 a4 _ _ _ (by rw [ms_ne _ _ (by decide)]; exact a2) (by rw [ms_ne _ _ (by decide)]; exact a3)) (Nat.le_of_ble_eq_true rfl) (Nat.le_of_ble_eq_true rfl) d_Need_let_36 (fun v N1 hv => ?_)
      obtain ⟨rfl, hN1⟩ := hv
      have g := acM_rg (ms M 0 (upd (M 0) 12 (s (125 + j)))) p l.length 1 (nI j) (s (125 + j))
      rw [← hN1] at g
      clear hN1
      refine r_aload_n (i := 0) d_Need_let_39 rfl rfl ?_
      refine r_getr nf_Need_28 lc_0 rfl d_Need_let_40 ?_
      refine r_getr nf_Need_156 image_10.1 rfl d_Need_let_43 ?_
      refine r_iload_n (i := 1) d_Need_let_46 rfl rfl ?_
      refine r_iload_n (i := 2) d_Need_let_47 rfl rfl ?_
      refine r_V2 v_Row_put w_303 (isImage.names image_10).1 (CF_eq (c_Row_put image_10.names _ _ _) rfl (show _ = ms N1 31 (upd (N1 31) j x) by rw [rp_nI _ _ (by omega) (by decide)])) (Nat.le_of_ble_eq_true rfl) (Nat.le_of_ble_eq_true rfl) d_Need_let_48 ?_
      refine r_iconst 1 d_Need_let_51 ic_1 ?_
      refine r_iret rfl d_Need_let_52 ?_
      refine Or.inr ⟨j, hj, rfl, rfl, ?_, ?_⟩
      · rw [ms_ne _ _ (by decide), g.1 2 (by decide), ms_ne _ _ (by decide)]
      have q : ∀ e, e ≠ 0 → e ≠ 31 → (e < 101 ∨ 109 < e) → (ms N1 31 (upd (N1 31) j x)) e = M e := fun e e0 e31 he => by
        rw [ms_ne _ _ e31, g.1 e he, ms_ne _ _ e0]
      have q0 : (ms N1 31 (upd (N1 31) j x)) 0 = upd (M 0) 12 (s (125 + j)) := by rw [ms_ne _ _ (by decide), g.1 0 (by decide), ms_same]
      have q31 : (ms N1 31 (upd (N1 31) j x)) 31 = upd (M 31) j x := by rw [ms_same, g.1 31 (by decide), ms_ne _ _ (by decide)]
      generalize hNN : ms N1 31 (upd (N1 31) j x) = N at *
      refine ⟨h1, by rw [q0, upd_ne _ _ (by decide)]; exact h2, by rw [q0, upd_at], by rw [q0, upd_ne _ _ (by decide)]; exact h4, h5.keep2 (fun e he => q e (by omega) (by omega) (by omega)), ?_, ?_, h8.keep (fun e e1 e2 => q e (by omega) (by omega) (by omega))⟩
      · rw [q 13 (by decide) (by decide) (by decide), q 15 (by decide) (by decide) (by decide), q 17 (by decide) (by decide) (by decide), q 19 (by decide) (by decide) (by decide), q31]
        have hn := h5.1.n31
        refine ⟨by rw [upd_ne _ _ (by omega)]; exact h6.1, fun i hi => ?_, fun i hi => ?_, fun i hi => by rw [upd_ne _ _ (by omega)]; exact h6.gmc hi⟩
        · rw [upd_ne _ _ (by omega), upd_ne _ _ (by omega), upd_ne _ _ (by omega), upd_ne _ _ (by omega)]; exact h6.2.1 i hi
        · by_cases e : i = j
          · subst e; rw [upd_at, upd_at]
          · rw [upd_ne _ _ (by omega), upd_ne _ _ e]; exact h6.gnm hi
      · have u5 : UND s l p (ms M 0 (upd (M 0) 12 (s (125 + j)))) := UND.cong (M := M) (N := ms M 0 (upd (M 0) 12 (s (125 + j)))) (r := 10) (fun q _ _ => ⟨rfl, rfl, rfl, fun _ _ => rfl⟩) l s p a1 (fun i _ => by omega) a5
        have w3 : N 101 = N1 101 := by rw [← hNN]; exact ms_ne _ _ (by decide)
        have w4 : N 103 = N1 103 := by rw [← hNN]; exact ms_ne _ _ (by decide)
        have w5 : N 105 = N1 105 := by rw [← hNN]; exact ms_ne _ _ (by decide)
        have w6 : N 107 = N1 107 := by rw [← hNN]; exact ms_ne _ _ (by decide)
        have w7 : N 109 = N1 109 := by rw [← hNN]; exact ms_ne _ _ (by decide)
        refine (AC.push a4 a1 u5 g (Or.inr (Or.inl ⟨g.2.2.2.2.1, j, x, hj, g.2.2.2.2.2.1, g.2.2.2.2.2.2, rfl⟩))).keep2 w3 w4 w5 w6 w7
    · skip
      have hb : isN 8 k = false := in8_f h_7
      refine r_iconst (-1) d_Need_let_10 ic_m1 ?_
      refine r_iret rfl d_Need_let_11 ?_
      exact Or.inl ⟨hb, rfl, rfl⟩

theorem c0_Need_machine {r a b c d : Int32} (hv : mcV r a b c d = false) : CF G LC m_Need_machine 7 [.ref (G.2.2 0), .int r, .int a, .int b, .int c, .int d] M (some (.int (-1))) M := by
  refine CJ_of2 (n0 := 0) (by decide) rfl rfl ?_
  simp only [List.map_cons, List.map_nil, List.cons_append, List.nil_append, List.reduceReplicate]
  refine r_iload_n (i := 1) d_Need_machine_0 rfl rfl ?_
  refine r_iconst 1 d_Need_machine_1 ic_1 ?_
  refine r_icmp_lt 41 d_Need_machine_2 (by decide) (fun h_2 => ?_) (fun h_2 => ?_)
  · skip
    refine r_iconst (-1) d_Need_machine_41 ic_m1 ?_
    refine r_iret rfl d_Need_machine_42 ?_
    exact ⟨rfl, rfl⟩
  · skip
    refine r_iload_n (i := 1) d_Need_machine_5 rfl rfl ?_
    refine r_bipush 6 d_Need_machine_6 bp_6 ?_
    refine r_icmp_gt 41 d_Need_machine_8 (by decide) (fun h_8 => ?_) (fun h_8 => ?_)
    · skip
      refine r_iconst (-1) d_Need_machine_41 ic_m1 ?_
      refine r_iret rfl d_Need_machine_42 ?_
      exact ⟨rfl, rfl⟩
    · skip
      refine r_iload_n (i := 2) d_Need_machine_11 rfl rfl ?_
      refine r_S1 f_Need_isPrice w_747 (c_Need_isPrice _) (Nat.le_of_ble_eq_true rfl) (Nat.le_of_ble_eq_true rfl) d_Need_machine_12 ?_
      refine r_if_eq 41 d_Need_machine_15 (by decide) (fun h_15 => ?_) (fun h_15 => ?_)
      · skip
        refine r_iconst (-1) d_Need_machine_41 ic_m1 ?_
        refine r_iret rfl d_Need_machine_42 ?_
        exact ⟨rfl, rfl⟩
      · skip
        refine r_iload_n (i := 3) d_Need_machine_18 rfl rfl ?_
        refine r_S1 f_Need_isPrice w_747 (c_Need_isPrice _) (Nat.le_of_ble_eq_true rfl) (Nat.le_of_ble_eq_true rfl) d_Need_machine_19 ?_
        refine r_if_eq 41 d_Need_machine_22 (by decide) (fun h_22 => ?_) (fun h_22 => ?_)
        · skip
          refine r_iconst (-1) d_Need_machine_41 ic_m1 ?_
          refine r_iret rfl d_Need_machine_42 ?_
          exact ⟨rfl, rfl⟩
        · skip
          refine r_iload d_Need_machine_25 rfl ?_
          refine r_S1 f_Need_isPrice w_747 (c_Need_isPrice _) (Nat.le_of_ble_eq_true rfl) (Nat.le_of_ble_eq_true rfl) d_Need_machine_27 ?_
          refine r_if_eq 41 d_Need_machine_30 (by decide) (fun h_30 => ?_) (fun h_30 => ?_)
          · skip
            refine r_iconst (-1) d_Need_machine_41 ic_m1 ?_
            refine r_iret rfl d_Need_machine_42 ?_
            exact ⟨rfl, rfl⟩
          · skip
            refine r_iload d_Need_machine_33 rfl ?_
            refine r_S1 f_Need_isPrice w_747 (c_Need_isPrice _) (Nat.le_of_ble_eq_true rfl) (Nat.le_of_ble_eq_true rfl) d_Need_machine_35 ?_
            refine r_if_ne 43 d_Need_machine_38 (by decide) (fun h_38 => ?_) (fun h_38 => ?_)
            · skip
              refine absurd hv ?_
              unfold mcV
              rw [decide_eq_true ⟨h_2, h_8⟩, (bI_t _).mp h_15, (bI_t _).mp h_22, (bI_t _).mp h_30, (bI_t _).mp h_38]
              decide
            · skip
              refine r_iconst (-1) d_Need_machine_41 ic_m1 ?_
              refine r_iret rfl d_Need_machine_42 ?_
              exact ⟨rfl, rfl⟩

set_option maxHeartbeats 2000000 in
theorem c_Need_machine (h : CRg n z tp nd ld ak mc C Q V len s l K ask trp M) {m : Nat → Nat} (hm : MOK m) (hv : mcV (nI (m 0)) (nI (m 1)) (nI (m 2)) (nI (m 3)) (nI (m 4)) = true) {C2 : Nat → Nat → Nat} {Q2 : nP} {V2 : Nat → Nat} (hg2 : GS n (M 13) (M 15) (M 17) (M 19) z tp nd ld ak m C2 Q2) (hV2 : VS n m (M 13) (M 17) (M 19) z tp ak V2) : CJ G LC m_Need_machine 7 [.ref (G.2.2 0), .int (nI (m 0)), .int (nI (m 1)), .int (nI (m 2)), .int (nI (m 3)), .int (nI (m 4))] M (fun v N => v = some (.int (nI (rootC n m C2))) ∧ N 2 = M 2 ∧ CRg n z tp nd ld ak m C2 Q2 V2 len (mcS s m) (pushU s l) K ask trp N) := by
  obtain ⟨h1, h2, h3, h4, h5, h6, ⟨p, a1, a2, a3, a4, a5⟩, h8⟩ := h
  have hn := h5.1.n31
  have hv0 := hv
  unfold mcV at hv0
  simp only [Bool.and_eq_true, decide_eq_true_eq] at hv0
  obtain ⟨⟨⟨⟨⟨v1, v2⟩, v3⟩, v4⟩, v5⟩, v6⟩ := hv0
  refine CJ_of2 (n0 := 0) (by decide) rfl rfl ?_
  simp only [List.map_cons, List.map_nil, List.cons_append, List.nil_append, List.reduceReplicate]
  refine r_iload_n (i := 1) d_Need_machine_0 rfl rfl ?_
  refine r_iconst 1 d_Need_machine_1 ic_1 ?_
  refine r_icmp_lt 41 d_Need_machine_2 (by decide) (fun h_2 => ?_) (fun h_2 => ?_)
  · skip
    exact absurd h_2 v1
  · skip
    refine r_iload_n (i := 1) d_Need_machine_5 rfl rfl ?_
    refine r_bipush 6 d_Need_machine_6 bp_6 ?_
    refine r_icmp_gt 41 d_Need_machine_8 (by decide) (fun h_8 => ?_) (fun h_8 => ?_)
    · skip
      exact absurd h_8 v2
    · skip
      refine r_iload_n (i := 2) d_Need_machine_11 rfl rfl ?_
      refine r_S1 f_Need_isPrice w_747 (CF_eq (c_Need_isPrice _) (show _ = some (Value.int 1) by rw [v3]; rfl) rfl) (Nat.le_of_ble_eq_true rfl) (Nat.le_of_ble_eq_true rfl) d_Need_machine_12 ?_
      refine r_if_eq 41 d_Need_machine_15 (by decide) (fun h_15 => ?_) (fun h_15 => ?_)
      · exact absurd h_15 (by decide)
      · skip
        refine r_iload_n (i := 3) d_Need_machine_18 rfl rfl ?_
        refine r_S1 f_Need_isPrice w_747 (CF_eq (c_Need_isPrice _) (show _ = some (Value.int 1) by rw [v4]; rfl) rfl) (Nat.le_of_ble_eq_true rfl) (Nat.le_of_ble_eq_true rfl) d_Need_machine_19 ?_
        refine r_if_eq 41 d_Need_machine_22 (by decide) (fun h_22 => ?_) (fun h_22 => ?_)
        · exact absurd h_22 (by decide)
        · skip
          refine r_iload d_Need_machine_25 rfl ?_
          refine r_S1 f_Need_isPrice w_747 (CF_eq (c_Need_isPrice _) (show _ = some (Value.int 1) by rw [v5]; rfl) rfl) (Nat.le_of_ble_eq_true rfl) (Nat.le_of_ble_eq_true rfl) d_Need_machine_27 ?_
          refine r_if_eq 41 d_Need_machine_30 (by decide) (fun h_30 => ?_) (fun h_30 => ?_)
          · exact absurd h_30 (by decide)
          · skip
            refine r_iload d_Need_machine_33 rfl ?_
            refine r_S1 f_Need_isPrice w_747 (CF_eq (c_Need_isPrice _) (show _ = some (Value.int 1) by rw [v6]; rfl) rfl) (Nat.le_of_ble_eq_true rfl) (Nat.le_of_ble_eq_true rfl) d_Need_machine_35 ?_
            refine r_if_ne 43 d_Need_machine_38 (by decide) (fun h_38 => ?_) (fun h_38 => ?_)
            · skip
              refine r_aload_n (i := 0) d_Need_machine_43 rfl rfl ?_
              refine r_getr nf_Need_48 lc_0 rfl d_Need_machine_44 ?_
              refine r_aload_n (i := 0) d_Need_machine_47 rfl rfl ?_
              refine r_getr nf_Need_28 lc_0 rfl d_Need_machine_48 ?_
              refine r_getr nf_Need_84 image_10.1 rfl d_Need_machine_51 ?_
              refine r_W1 v_Acts_addMachine w_750 lc_101 (c_Acts_addMachine image_10.machine (by decide) p l.length a1 a4 M a2 a3) (Nat.le_of_ble_eq_true rfl) (Nat.le_of_ble_eq_true rfl) d_Need_machine_54 (fun v N1 hv1 => ?_)
              obtain ⟨rfl, hN1⟩ := hv1
              have g0 := acM_rg M p l.length 2 0 0
              have e109 : N1 109 = pt (M 109) (M 33) ((p + 1) % 10 * 5) 5 := by rw [hN1, ms_same]
              have g : RGp p l.length 2 0 0 M N1 := by
                have eo : ∀ e, e ≠ 109 → N1 e = (acM M ((p + 1) % 10) (min (l.length + 1) 10) 2 0 0) e := fun e he => by rw [hN1, ms_ne _ _ he]
                refine ⟨fun e he => (eo e (by omega)).trans (g0.1 e he), by rw [eo 101 (by decide)]; exact g0.2.1, by rw [eo 101 (by decide)]; exact g0.2.2.1, fun i hi => ?_, by rw [eo 103 (by decide)]; exact g0.2.2.2.2.1, by rw [eo 105 (by decide)]; exact g0.2.2.2.2.2.1, by rw [eo 107 (by decide)]; exact g0.2.2.2.2.2.2⟩
                obtain ⟨q1, q2, q3, q4⟩ := g0.2.2.2.1 i hi
                refine ⟨by rw [eo 103 (by decide)]; exact q1, by rw [eo 105 (by decide)]; exact q2, by rw [eo 107 (by decide)]; exact q3, fun j hj => ?_⟩
                rw [e109]
                unfold pt
                rw [if_neg (by omega)]
              have hen : ∀ j, j < 5 → N1 109 ((p + 1) % 10 * 5 + j) = nI (mc j) := fun j hj => by
                rw [e109]
                unfold pt
                rw [if_pos (by omega), show (p + 1) % 10 * 5 + j - (p + 1) % 10 * 5 = j by omega]
                exact h5.1.2.2.1 j hj
              clear hN1 g0
              refine r_aload_n (i := 0) d_Need_machine_57 rfl rfl ?_
              refine r_getr nf_Need_28 lc_0 rfl d_Need_machine_58 ?_
              refine r_getr nf_Need_84 image_10.1 rfl d_Need_machine_61 ?_
              refine r_iconst 0 d_Need_machine_64 ic_0 ?_
              refine r_iload_n (i := 1) d_Need_machine_65 rfl rfl ?_
              refine r_V2 v_Row_put w_303 (isImage.machine image_10).1 (CF_eq (c_Row_put image_10.machine _ _ _) rfl (show _ = ms N1 33 (upd (N1 33) 0 (nI (m 0))) by rw [show ((0 : Int32)) = nI 0 from rfl, rp_nI _ _ (by omega) (by decide)])) (Nat.le_of_ble_eq_true rfl) (Nat.le_of_ble_eq_true rfl) d_Need_machine_66 ?_
              refine r_aload_n (i := 0) d_Need_machine_69 rfl rfl ?_
              refine r_getr nf_Need_28 lc_0 rfl d_Need_machine_70 ?_
              refine r_getr nf_Need_84 image_10.1 rfl d_Need_machine_73 ?_
              refine r_iconst 1 d_Need_machine_76 ic_1 ?_
              refine r_iload_n (i := 2) d_Need_machine_77 rfl rfl ?_
              refine r_V2 v_Row_put w_303 (isImage.machine image_10).1 (CF_eq (c_Row_put image_10.machine _ _ _) rfl (show _ = ms (ms N1 33 (upd (N1 33) 0 (nI (m 0)))) 33 (upd ((ms N1 33 (upd (N1 33) 0 (nI (m 0)))) 33) 1 (nI (m 1))) by rw [show ((1 : Int32)) = nI 1 from rfl, rp_nI _ _ (by omega) (by decide)])) (Nat.le_of_ble_eq_true rfl) (Nat.le_of_ble_eq_true rfl) d_Need_machine_78 ?_
              refine r_aload_n (i := 0) d_Need_machine_81 rfl rfl ?_
              refine r_getr nf_Need_28 lc_0 rfl d_Need_machine_82 ?_
              refine r_getr nf_Need_84 image_10.1 rfl d_Need_machine_85 ?_
              refine r_iconst 2 d_Need_machine_88 ic_2 ?_
              refine r_iload_n (i := 3) d_Need_machine_89 rfl rfl ?_
              refine r_V2 v_Row_put w_303 (isImage.machine image_10).1 (CF_eq (c_Row_put image_10.machine _ _ _) rfl (show _ = ms (ms (ms N1 33 (upd (N1 33) 0 (nI (m 0)))) 33 (upd ((ms N1 33 (upd (N1 33) 0 (nI (m 0)))) 33) 1 (nI (m 1)))) 33 (upd ((ms (ms N1 33 (upd (N1 33) 0 (nI (m 0)))) 33 (upd ((ms N1 33 (upd (N1 33) 0 (nI (m 0)))) 33) 1 (nI (m 1)))) 33) 2 (nI (m 2))) by rw [show ((2 : Int32)) = nI 2 from rfl, rp_nI _ _ (by omega) (by decide)])) (Nat.le_of_ble_eq_true rfl) (Nat.le_of_ble_eq_true rfl) d_Need_machine_90 ?_
              refine r_aload_n (i := 0) d_Need_machine_93 rfl rfl ?_
              refine r_getr nf_Need_28 lc_0 rfl d_Need_machine_94 ?_
              refine r_getr nf_Need_84 image_10.1 rfl d_Need_machine_97 ?_
              refine r_iconst 3 d_Need_machine_100 ic_3 ?_
              refine r_iload d_Need_machine_101 rfl ?_
              refine r_V2 v_Row_put w_303 (isImage.machine image_10).1 (CF_eq (c_Row_put image_10.machine _ _ _) rfl (show _ = ms (ms (ms (ms N1 33 (upd (N1 33) 0 (nI (m 0)))) 33 (upd ((ms N1 33 (upd (N1 33) 0 (nI (m 0)))) 33) 1 (nI (m 1)))) 33 (upd ((ms (ms N1 33 (upd (N1 33) 0 (nI (m 0)))) 33 (upd ((ms N1 33 (upd (N1 33) 0 (nI (m 0)))) 33) 1 (nI (m 1)))) 33) 2 (nI (m 2)))) 33 (upd ((ms (ms (ms N1 33 (upd (N1 33) 0 (nI (m 0)))) 33 (upd ((ms N1 33 (upd (N1 33) 0 (nI (m 0)))) 33) 1 (nI (m 1)))) 33 (upd ((ms (ms N1 33 (upd (N1 33) 0 (nI (m 0)))) 33 (upd ((ms N1 33 (upd (N1 33) 0 (nI (m 0)))) 33) 1 (nI (m 1)))) 33) 2 (nI (m 2)))) 33) 3 (nI (m 3))) by rw [show ((3 : Int32)) = nI 3 from rfl, rp_nI _ _ (by omega) (by decide)])) (Nat.le_of_ble_eq_true rfl) (Nat.le_of_ble_eq_true rfl) d_Need_machine_103 ?_
              refine r_aload_n (i := 0) d_Need_machine_106 rfl rfl ?_
              refine r_getr nf_Need_28 lc_0 rfl d_Need_machine_107 ?_
              refine r_getr nf_Need_84 image_10.1 rfl d_Need_machine_110 ?_
              refine r_iconst 4 d_Need_machine_113 ic_4 ?_
              refine r_iload d_Need_machine_114 rfl ?_
              refine r_V2 v_Row_put w_303 (isImage.machine image_10).1 (CF_eq (c_Row_put image_10.machine _ _ _) rfl (show _ = ms (ms (ms (ms (ms N1 33 (upd (N1 33) 0 (nI (m 0)))) 33 (upd ((ms N1 33 (upd (N1 33) 0 (nI (m 0)))) 33) 1 (nI (m 1)))) 33 (upd ((ms (ms N1 33 (upd (N1 33) 0 (nI (m 0)))) 33 (upd ((ms N1 33 (upd (N1 33) 0 (nI (m 0)))) 33) 1 (nI (m 1)))) 33) 2 (nI (m 2)))) 33 (upd ((ms (ms (ms N1 33 (upd (N1 33) 0 (nI (m 0)))) 33 (upd ((ms N1 33 (upd (N1 33) 0 (nI (m 0)))) 33) 1 (nI (m 1)))) 33 (upd ((ms (ms N1 33 (upd (N1 33) 0 (nI (m 0)))) 33 (upd ((ms N1 33 (upd (N1 33) 0 (nI (m 0)))) 33) 1 (nI (m 1)))) 33) 2 (nI (m 2)))) 33) 3 (nI (m 3)))) 33 (upd ((ms (ms (ms (ms N1 33 (upd (N1 33) 0 (nI (m 0)))) 33 (upd ((ms N1 33 (upd (N1 33) 0 (nI (m 0)))) 33) 1 (nI (m 1)))) 33 (upd ((ms (ms N1 33 (upd (N1 33) 0 (nI (m 0)))) 33 (upd ((ms N1 33 (upd (N1 33) 0 (nI (m 0)))) 33) 1 (nI (m 1)))) 33) 2 (nI (m 2)))) 33 (upd ((ms (ms (ms N1 33 (upd (N1 33) 0 (nI (m 0)))) 33 (upd ((ms N1 33 (upd (N1 33) 0 (nI (m 0)))) 33) 1 (nI (m 1)))) 33 (upd ((ms (ms N1 33 (upd (N1 33) 0 (nI (m 0)))) 33 (upd ((ms N1 33 (upd (N1 33) 0 (nI (m 0)))) 33) 1 (nI (m 1)))) 33) 2 (nI (m 2)))) 33) 3 (nI (m 3)))) 33) 4 (nI (m 4))) by rw [show ((4 : Int32)) = nI 4 from rfl, rp_nI _ _ (by omega) (by decide)])) (Nat.le_of_ble_eq_true rfl) (Nat.le_of_ble_eq_true rfl) d_Need_machine_116 ?_
              have q : ∀ e, e ≠ 33 → (e < 101 ∨ 109 < e) → (ms (ms (ms (ms (ms N1 33 (upd (N1 33) 0 (nI (m 0)))) 33 (upd ((ms N1 33 (upd (N1 33) 0 (nI (m 0)))) 33) 1 (nI (m 1)))) 33 (upd ((ms (ms N1 33 (upd (N1 33) 0 (nI (m 0)))) 33 (upd ((ms N1 33 (upd (N1 33) 0 (nI (m 0)))) 33) 1 (nI (m 1)))) 33) 2 (nI (m 2)))) 33 (upd ((ms (ms (ms N1 33 (upd (N1 33) 0 (nI (m 0)))) 33 (upd ((ms N1 33 (upd (N1 33) 0 (nI (m 0)))) 33) 1 (nI (m 1)))) 33 (upd ((ms (ms N1 33 (upd (N1 33) 0 (nI (m 0)))) 33 (upd ((ms N1 33 (upd (N1 33) 0 (nI (m 0)))) 33) 1 (nI (m 1)))) 33) 2 (nI (m 2)))) 33) 3 (nI (m 3)))) 33 (upd ((ms (ms (ms (ms N1 33 (upd (N1 33) 0 (nI (m 0)))) 33 (upd ((ms N1 33 (upd (N1 33) 0 (nI (m 0)))) 33) 1 (nI (m 1)))) 33 (upd ((ms (ms N1 33 (upd (N1 33) 0 (nI (m 0)))) 33 (upd ((ms N1 33 (upd (N1 33) 0 (nI (m 0)))) 33) 1 (nI (m 1)))) 33) 2 (nI (m 2)))) 33 (upd ((ms (ms (ms N1 33 (upd (N1 33) 0 (nI (m 0)))) 33 (upd ((ms N1 33 (upd (N1 33) 0 (nI (m 0)))) 33) 1 (nI (m 1)))) 33 (upd ((ms (ms N1 33 (upd (N1 33) 0 (nI (m 0)))) 33 (upd ((ms N1 33 (upd (N1 33) 0 (nI (m 0)))) 33) 1 (nI (m 1)))) 33) 2 (nI (m 2)))) 33) 3 (nI (m 3)))) 33) 4 (nI (m 4)))) e = M e := fun e e33 he => by
                simp (disch := omega) only [ms_ne]
                exact g.1 e he
              have q33 : ∀ j, j < 5 → (ms (ms (ms (ms (ms N1 33 (upd (N1 33) 0 (nI (m 0)))) 33 (upd ((ms N1 33 (upd (N1 33) 0 (nI (m 0)))) 33) 1 (nI (m 1)))) 33 (upd ((ms (ms N1 33 (upd (N1 33) 0 (nI (m 0)))) 33 (upd ((ms N1 33 (upd (N1 33) 0 (nI (m 0)))) 33) 1 (nI (m 1)))) 33) 2 (nI (m 2)))) 33 (upd ((ms (ms (ms N1 33 (upd (N1 33) 0 (nI (m 0)))) 33 (upd ((ms N1 33 (upd (N1 33) 0 (nI (m 0)))) 33) 1 (nI (m 1)))) 33 (upd ((ms (ms N1 33 (upd (N1 33) 0 (nI (m 0)))) 33 (upd ((ms N1 33 (upd (N1 33) 0 (nI (m 0)))) 33) 1 (nI (m 1)))) 33) 2 (nI (m 2)))) 33) 3 (nI (m 3)))) 33 (upd ((ms (ms (ms (ms N1 33 (upd (N1 33) 0 (nI (m 0)))) 33 (upd ((ms N1 33 (upd (N1 33) 0 (nI (m 0)))) 33) 1 (nI (m 1)))) 33 (upd ((ms (ms N1 33 (upd (N1 33) 0 (nI (m 0)))) 33 (upd ((ms N1 33 (upd (N1 33) 0 (nI (m 0)))) 33) 1 (nI (m 1)))) 33) 2 (nI (m 2)))) 33 (upd ((ms (ms (ms N1 33 (upd (N1 33) 0 (nI (m 0)))) 33 (upd ((ms N1 33 (upd (N1 33) 0 (nI (m 0)))) 33) 1 (nI (m 1)))) 33 (upd ((ms (ms N1 33 (upd (N1 33) 0 (nI (m 0)))) 33 (upd ((ms N1 33 (upd (N1 33) 0 (nI (m 0)))) 33) 1 (nI (m 1)))) 33) 2 (nI (m 2)))) 33) 3 (nI (m 3)))) 33) 4 (nI (m 4)))) 33 j = nI (m j) := fun j hj => by
                simp only [ms_same]
                rcases (show j = 0 ∨ j = 1 ∨ j = 2 ∨ j = 3 ∨ j = 4 by omega) with rfl | rfl | rfl | rfl | rfl <;> simp (disch := omega) only [upd_at, upd_ne]
              have qr : ∀ e, e ≠ 33 → (ms (ms (ms (ms (ms N1 33 (upd (N1 33) 0 (nI (m 0)))) 33 (upd ((ms N1 33 (upd (N1 33) 0 (nI (m 0)))) 33) 1 (nI (m 1)))) 33 (upd ((ms (ms N1 33 (upd (N1 33) 0 (nI (m 0)))) 33 (upd ((ms N1 33 (upd (N1 33) 0 (nI (m 0)))) 33) 1 (nI (m 1)))) 33) 2 (nI (m 2)))) 33 (upd ((ms (ms (ms N1 33 (upd (N1 33) 0 (nI (m 0)))) 33 (upd ((ms N1 33 (upd (N1 33) 0 (nI (m 0)))) 33) 1 (nI (m 1)))) 33 (upd ((ms (ms N1 33 (upd (N1 33) 0 (nI (m 0)))) 33 (upd ((ms N1 33 (upd (N1 33) 0 (nI (m 0)))) 33) 1 (nI (m 1)))) 33) 2 (nI (m 2)))) 33) 3 (nI (m 3)))) 33 (upd ((ms (ms (ms (ms N1 33 (upd (N1 33) 0 (nI (m 0)))) 33 (upd ((ms N1 33 (upd (N1 33) 0 (nI (m 0)))) 33) 1 (nI (m 1)))) 33 (upd ((ms (ms N1 33 (upd (N1 33) 0 (nI (m 0)))) 33 (upd ((ms N1 33 (upd (N1 33) 0 (nI (m 0)))) 33) 1 (nI (m 1)))) 33) 2 (nI (m 2)))) 33 (upd ((ms (ms (ms N1 33 (upd (N1 33) 0 (nI (m 0)))) 33 (upd ((ms N1 33 (upd (N1 33) 0 (nI (m 0)))) 33) 1 (nI (m 1)))) 33 (upd ((ms (ms N1 33 (upd (N1 33) 0 (nI (m 0)))) 33 (upd ((ms N1 33 (upd (N1 33) 0 (nI (m 0)))) 33) 1 (nI (m 1)))) 33) 2 (nI (m 2)))) 33) 3 (nI (m 3)))) 33) 4 (nI (m 4)))) e = N1 e := fun e e33 => by simp (disch := omega) only [ms_ne]
              generalize hNN : (ms (ms (ms (ms (ms N1 33 (upd (N1 33) 0 (nI (m 0)))) 33 (upd ((ms N1 33 (upd (N1 33) 0 (nI (m 0)))) 33) 1 (nI (m 1)))) 33 (upd ((ms (ms N1 33 (upd (N1 33) 0 (nI (m 0)))) 33 (upd ((ms N1 33 (upd (N1 33) 0 (nI (m 0)))) 33) 1 (nI (m 1)))) 33) 2 (nI (m 2)))) 33 (upd ((ms (ms (ms N1 33 (upd (N1 33) 0 (nI (m 0)))) 33 (upd ((ms N1 33 (upd (N1 33) 0 (nI (m 0)))) 33) 1 (nI (m 1)))) 33 (upd ((ms (ms N1 33 (upd (N1 33) 0 (nI (m 0)))) 33 (upd ((ms N1 33 (upd (N1 33) 0 (nI (m 0)))) 33) 1 (nI (m 1)))) 33) 2 (nI (m 2)))) 33) 3 (nI (m 3)))) 33 (upd ((ms (ms (ms (ms N1 33 (upd (N1 33) 0 (nI (m 0)))) 33 (upd ((ms N1 33 (upd (N1 33) 0 (nI (m 0)))) 33) 1 (nI (m 1)))) 33 (upd ((ms (ms N1 33 (upd (N1 33) 0 (nI (m 0)))) 33 (upd ((ms N1 33 (upd (N1 33) 0 (nI (m 0)))) 33) 1 (nI (m 1)))) 33) 2 (nI (m 2)))) 33 (upd ((ms (ms (ms N1 33 (upd (N1 33) 0 (nI (m 0)))) 33 (upd ((ms N1 33 (upd (N1 33) 0 (nI (m 0)))) 33) 1 (nI (m 1)))) 33 (upd ((ms (ms N1 33 (upd (N1 33) 0 (nI (m 0)))) 33 (upd ((ms N1 33 (upd (N1 33) 0 (nI (m 0)))) 33) 1 (nI (m 1)))) 33) 2 (nI (m 2)))) 33) 3 (nI (m 3)))) 33) 4 (nI (m 4)))) = N2 at *
              have hT2 : TD 11 n z tp nd ld ak N2 := h5.1.1.cong (fun e e1 e2 => q e (by omega) (by omega))
              have hG2 : GS n (N2 13) (N2 15) (N2 17) (N2 19) z tp nd ld ak m C2 Q2 := by rw [q 13 (by decide) (by decide), q 15 (by decide) (by decide), q 17 (by decide) (by decide), q 19 (by decide) (by decide)]; exact hg2
              have hM2 : ∀ j, j < 5 → N2 33 j = nI (m j) := q33
              have hW2 : VS n m (N2 13) (N2 17) (N2 19) z tp ak V2 := by rw [q 13 (by decide) (by decide), q 17 (by decide) (by decide), q 19 (by decide) (by decide)]; exact hV2
              refine r_aload_n (i := 0) d_Need_machine_119 rfl rfl ?_
              refine r_W0 v_Need_refresh w_512 lc_0 (c_Need_refresh (n := n) (z := z) (tp := tp) (nd := nd) (ld := ld) (ak := ak) (mc := m) (C := C2) (Q := Q2) (V := V2) hT2 hG2 hM2 hW2) (Nat.le_of_ble_eq_true rfl) (Nat.le_of_ble_eq_true rfl) d_Need_machine_120 (fun v N3 hv1 => ?_)
              obtain ⟨rfl, k1, k2⟩ := hv1
              refine r_aload_n (i := 0) d_Need_machine_123 rfl rfl ?_
              refine r_getr nf_Need_28 lc_0 rfl d_Need_machine_124 ?_
              refine r_getr nf_Need_101 image_10.1 rfl d_Need_machine_127 ?_
              refine r_V0 v_Tree_isEmpty w_631 (isImage.tree image_10).1 (c2_Tree_isEmpty k2.1.size k2.1.n31) (Nat.le_of_ble_eq_true rfl) (Nat.le_of_ble_eq_true rfl) d_Need_machine_130 ?_
              refine r_if_eq 140 d_Need_machine_133 (by decide) (fun h_133 => ?_) (fun h_133 => ?_)
              · skip
                have h0 : 0 < n := by
                  have := of_decide_eq_false ((bI_f _).mp h_133)
                  omega
                refine r_aload_n (i := 0) d_Need_machine_140 rfl rfl ?_
                refine r_V0 v_Need_rootCost w_731 lc_0 (c_Need_rootCost k2.1 h0) (Nat.le_of_ble_eq_true rfl) (Nat.le_of_ble_eq_true rfl) d_Need_machine_141 ?_
                refine r_iret rfl d_Need_machine_144 ?_
                have qq : ∀ e, e ≤ 109 → N3 e = N2 e := k1
                have hfin : N3 2 = M 2 ∧ CRg n z tp nd ld ak m C2 Q2 V2 len (mcS s m) (pushU s l) K ask trp N3 := by
                  have r0 : N3 0 = M 0 := (k1 0 (by decide)).trans (q 0 (by decide) (by decide))
                  refine ⟨(k1 2 (by decide)).trans (q 2 (by decide) (by decide)), h1, by rw [r0]; exact h2, by rw [r0]; exact h3, by rw [r0]; exact h4, k2, ?_, ?_, h8.keep (fun e e1 e2 => (k1 e (by omega)).trans (q e (by omega) (by omega)))⟩
                  · rw [k1 13 (by decide), k1 15 (by decide), k1 17 (by decide), k1 19 (by decide), k1 31 (by decide), q 13 (by decide) (by decide), q 15 (by decide) (by decide), q 17 (by decide) (by decide), q 19 (by decide) (by decide), q 31 (by decide) (by decide)]
                    refine ⟨by rw [mcS_lo _ _ (by omega)]; exact h6.1, fun i hi => ?_, fun i hi => by rw [mcS_lo _ _ (by omega)]; exact h6.gnm hi, fun i hi => mcS_hi s m hi⟩
                    rw [mcS_lo _ _ (by omega), mcS_lo _ _ (by omega), mcS_lo _ _ (by omega), mcS_lo _ _ (by omega)]
                    exact h6.2.1 i hi
                  · have hac := AC.push (s2 := mcS s m) a4 a1 a5 g (Or.inr (Or.inr ⟨g.2.2.2.2.1, m, mc, h5.1.2.1.2.1, rfl, fun j hj => ⟨h6.gmc hj, hen j hj⟩⟩))
                    exact hac.keep (fun e e1 e2 => (k1 e (by omega)).trans (qr e (by omega)))
                first
                  | exact ⟨by rw [rootC, if_pos (of_decide_eq_true ((bI_t _).mp h_133))]; rfl, hfin⟩
                  | exact ⟨by rw [rootC, if_neg (by omega)], hfin⟩
              · skip
                refine r_iconst 0 d_Need_machine_136 ic_0 ?_
                refine r_goto 144 d_Need_machine_137 (by decide) ?_
                refine r_iret rfl d_Need_machine_144 ?_
                have qq : ∀ e, e ≤ 109 → N3 e = N2 e := k1
                have hfin : N3 2 = M 2 ∧ CRg n z tp nd ld ak m C2 Q2 V2 len (mcS s m) (pushU s l) K ask trp N3 := by
                  have r0 : N3 0 = M 0 := (k1 0 (by decide)).trans (q 0 (by decide) (by decide))
                  refine ⟨(k1 2 (by decide)).trans (q 2 (by decide) (by decide)), h1, by rw [r0]; exact h2, by rw [r0]; exact h3, by rw [r0]; exact h4, k2, ?_, ?_, h8.keep (fun e e1 e2 => (k1 e (by omega)).trans (q e (by omega) (by omega)))⟩
                  · rw [k1 13 (by decide), k1 15 (by decide), k1 17 (by decide), k1 19 (by decide), k1 31 (by decide), q 13 (by decide) (by decide), q 15 (by decide) (by decide), q 17 (by decide) (by decide), q 19 (by decide) (by decide), q 31 (by decide) (by decide)]
                    refine ⟨by rw [mcS_lo _ _ (by omega)]; exact h6.1, fun i hi => ?_, fun i hi => by rw [mcS_lo _ _ (by omega)]; exact h6.gnm hi, fun i hi => mcS_hi s m hi⟩
                    rw [mcS_lo _ _ (by omega), mcS_lo _ _ (by omega), mcS_lo _ _ (by omega), mcS_lo _ _ (by omega)]
                    exact h6.2.1 i hi
                  · have hac := AC.push (s2 := mcS s m) a4 a1 a5 g (Or.inr (Or.inr ⟨g.2.2.2.2.1, m, mc, h5.1.2.1.2.1, rfl, fun j hj => ⟨h6.gmc hj, hen j hj⟩⟩))
                    exact hac.keep (fun e e1 e2 => (k1 e (by omega)).trans (qr e (by omega)))
                first
                  | exact ⟨by rw [rootC, if_pos (of_decide_eq_true ((bI_t _).mp h_133))]; rfl, hfin⟩
                  | exact ⟨by rw [rootC, if_neg (by omega)], hfin⟩
            · exact absurd h_38 (by decide)

end NN4
