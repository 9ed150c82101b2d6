-- the class: NeedCode, images, tree
section NN6
variable {G : nw_G} {n : Nat} {z : Nat → Nat} {tp : Nat → Bool} {nd ld ak mc : Nat → Nat} {C : Nat → Nat → Nat} {Q : nP} {V : Nat → Nat} {M N : nw_M}
variable {len : Nat} {s : SN} {l : List SN} {K : Nat → Option SN} {ask trp : Int32}
theorem CRg.keep3 (h : CRg n z tp nd ld ak mc C Q V len s l K ask trp M) (hk : ∀ e, (e = 0 ∨ (10 ≤ e ∧ e ≤ 81) ∨ 100 ≤ e) → N e = M e) : CRg n z tp nd ld ak mc C Q V len s l K ask trp N := by
  obtain ⟨h1, h2, h3, h4, h5, h6, h7, h8⟩ := h
  refine ⟨h1, by rw [hk 0 (by omega)]; exact h2, by rw [hk 0 (by omega)]; exact h3, by rw [hk 0 (by omega)]; exact h4, h5.keep2 (fun e he => hk e (by omega)), ?_, h7.keep (fun e a b => hk e (by omega)), h8.keep (fun e a b => hk e (by omega))⟩
  rw [hk 13 (by omega), hk 15 (by omega), hk 17 (by omega), hk 19 (by omega), hk 31 (by omega)]
  exact h6
theorem icp_img {i i2 : Nat} (h : ICp i i2 M N) (hT : TD (i2 + 1) n z tp nd ld ak M) (hmc : ∀ j, j < 5 → M (i2 + 23) j = nI (mc j)) (hS : MS n (M (i2 + 3)) (M (i2 + 5)) (M (i2 + 7)) (M (i2 + 9)) (M (i2 + 21)) mc s) : TD (i + 1) n z tp nd ld ak N ∧ (∀ j, j < 5 → N (i + 23) j = nI (mc j)) ∧ MS n (N (i + 3)) (N (i + 5)) (N (i + 7)) (N (i + 9)) (N (i + 21)) mc s ∧ ∀ e, (e ≤ i ∨ i + 23 < e) → N e = M e := by
  obtain ⟨N0, hc, hN⟩ := h
  have hn := hT.2.1.1.1
  have h0 := hT.copy hc
  have e0 : ∀ e, e ≠ i + 21 → e ≠ i + 23 → N e = N0 e := fun e a b => by rw [hN, ms_ne _ _ b, ms_ne _ _ a]
  have e1 : N (i + 21) = cp 8 (M (i2 + 21)) (M (i + 21)) := by rw [hN, ms_ne _ _ (by omega), ms_same]
  have e2 : N (i + 23) = cp 5 (M (i2 + 23)) (M (i + 23)) := by rw [hN, ms_same]
  obtain ⟨c0, c1, c2, c3, c4, c5, c6, c7, c8, c9, c10⟩ := hc
  refine ⟨h0.cong (fun e a b => e0 e (by omega) (by omega)), fun j hj => by rw [e2, cp_lt hj]; exact hmc j hj, hS.cong (fun j hj => ?_) (fun j hj => by rw [e1, cp_lt hj]), fun e he => (e0 e (by omega) (by omega)).trans (c0 e (by omega))⟩
  rw [e0 (i + 3) (by omega) (by omega), e0 (i + 5) (by omega) (by omega), e0 (i + 7) (by omega) (by omega), e0 (i + 9) (by omega) (by omega)]
  have d2 : N0 (i + 3) = cp 31 (M (i2 + 3)) (M (i + 3)) := c2
  have d3 : N0 (i + 5) = cp 31 (M (i2 + 5)) (M (i + 5)) := c3
  have d4 : N0 (i + 7) = cp 31 (M (i2 + 7)) (M (i + 7)) := c4
  have d5 : N0 (i + 9) = cp 31 (M (i2 + 9)) (M (i + 9)) := c5
  rw [d2, d3, d4, d5, cp_lt (by omega), cp_lt (by omega), cp_lt (by omega), cp_lt (by omega)]
  exact ⟨rfl, rfl, rfl, rfl⟩
theorem c0_Need_keep {k : Int32} (hk : isN 2 k = false) : CF G LC m_Need_keep 7 [.ref (G.2.2 0), .int k] M (some (.int (-1))) M := by
  refine CJ_of2 (n0 := 1) (by decide) rfl rfl ?_
  simp only [List.map_cons, List.map_nil, List.cons_append, List.nil_append, List.reduceReplicate]
  refine r_iload_n (i := 1) d_Need_keep_0 rfl rfl ?_
  refine r_if_lt 9 d_Need_keep_1 (by decide) (fun h_1 => ?_) (fun h_1 => ?_)
  · skip
    refine r_iconst (-1) d_Need_keep_9 ic_m1 ?_
    refine r_iret rfl d_Need_keep_10 ?_
    exact ⟨rfl, rfl⟩
  · skip
    refine r_iload_n (i := 1) d_Need_keep_4 rfl rfl ?_
    refine r_iconst 1 d_Need_keep_5 ic_1 ?_
    refine r_icmp_le 11 d_Need_keep_6 (by decide) (fun h_6 => ?_) (fun h_6 => ?_)
    · skip
      exact absurd hk (by rw [in1_t h_1 h_6]; decide)
    · skip
      refine r_iconst (-1) d_Need_keep_9 ic_m1 ?_
      refine r_iret rfl d_Need_keep_10 ?_
      exact ⟨rfl, rfl⟩

theorem c0_Need_back {k : Int32} (hk : isN 2 k = false) : CF G LC m_Need_back 7 [.ref (G.2.2 0), .int k] M (some (.int (-1))) M := by
  refine CJ_of2 (n0 := 1) (by decide) rfl rfl ?_
  simp only [List.map_cons, List.map_nil, List.cons_append, List.nil_append, List.reduceReplicate]
  refine r_iload_n (i := 1) d_Need_back_0 rfl rfl ?_
  refine r_if_lt 9 d_Need_back_1 (by decide) (fun h_1 => ?_) (fun h_1 => ?_)
  · skip
    refine r_iconst (-1) d_Need_back_9 ic_m1 ?_
    refine r_iret rfl d_Need_back_10 ?_
    exact ⟨rfl, rfl⟩
  · skip
    refine r_iload_n (i := 1) d_Need_back_4 rfl rfl ?_
    refine r_iconst 1 d_Need_back_5 ic_1 ?_
    refine r_icmp_le 11 d_Need_back_6 (by decide) (fun h_6 => ?_) (fun h_6 => ?_)
    · skip
      exact absurd hk (by rw [in1_t h_1 h_6]; decide)
    · skip
      refine r_iconst (-1) d_Need_back_9 ic_m1 ?_
      refine r_iret rfl d_Need_back_10 ?_
      exact ⟨rfl, rfl⟩

theorem c1_Need_keep (h : NB n z tp nd ld ak mc C Q M) (h0 : n = 0) {k : Int32} (hk : isN 2 k = true) : CF G LC m_Need_keep 7 [.ref (G.2.2 0), .int k] M (some (.int (-2))) M := by
  refine CJ_of2 (n0 := 1) (by decide) rfl rfl ?_
  simp only [List.map_cons, List.map_nil, List.cons_append, List.nil_append, List.reduceReplicate]
  refine r_iload_n (i := 1) d_Need_keep_0 rfl rfl ?_
  refine r_if_lt 9 d_Need_keep_1 (by decide) (fun h_1 => ?_) (fun h_1 => ?_)
  · skip
    exact absurd hk (by rw [isN_neg h_1]; decide)
  · skip
    refine r_iload_n (i := 1) d_Need_keep_4 rfl rfl ?_
    refine r_iconst 1 d_Need_keep_5 ic_1 ?_
    refine r_icmp_le 11 d_Need_keep_6 (by decide) (fun h_6 => ?_) (fun h_6 => ?_)
    · skip
      refine r_aload_n (i := 0) d_Need_keep_11 rfl rfl ?_
      refine r_getr nf_Need_28 lc_0 rfl d_Need_keep_12 ?_
      refine r_getr nf_Need_101 image_10.1 rfl d_Need_keep_15 ?_
      refine r_V0 v_Tree_isEmpty w_631 (isImage.tree image_10).1 (CF_eq (c2_Tree_isEmpty h.size h.n31) (show _ = some (Value.int 1) by rw [decide_eq_true h0]; rfl) rfl) (Nat.le_of_ble_eq_true rfl) (Nat.le_of_ble_eq_true rfl) d_Need_keep_18 ?_
      refine r_if_eq 27 d_Need_keep_21 (by decide) (fun h_21 => ?_) (fun h_21 => ?_)
      · exact absurd h_21 (by decide)
      · skip
        refine r_bipush (-2) d_Need_keep_24 bp_m2 ?_
        refine r_iret rfl d_Need_keep_26 ?_
        exact ⟨rfl, rfl⟩
    · skip
      exact absurd hk (by rw [in1_f h_6]; decide)

theorem c2_Need_keep (h : CRg n z tp nd ld ak mc C Q V len s l K ask trp M) (h0 : 0 < n) : CJ G LC m_Need_keep 7 [.ref (G.2.2 0), .int 0] M (fun v N => v = some (.int (nI n)) ∧ N 2 = M 2 ∧ CRg n z tp nd ld ak mc C Q V len s l (updK K 0 s) ask trp N) := by
  obtain ⟨h1, h2, h3, h4, h5, h6, h7, h8⟩ := h
  refine CJ_of2 (n0 := 1) (by decide) rfl rfl ?_
  simp only [List.map_cons, List.map_nil, List.cons_append, List.nil_append, List.reduceReplicate]
  refine r_iload_n (i := 1) d_Need_keep_0 rfl rfl ?_
  refine r_if_lt 9 d_Need_keep_1 (by decide) (fun h_1 => ?_) (fun h_1 => ?_)
  · exact absurd h_1 (by decide)
  · skip
    refine r_iload_n (i := 1) d_Need_keep_4 rfl rfl ?_
    refine r_iconst 1 d_Need_keep_5 ic_1 ?_
    refine r_icmp_le 11 d_Need_keep_6 (by decide) (fun h_6 => ?_) (fun h_6 => ?_)
    · skip
      refine r_aload_n (i := 0) d_Need_keep_11 rfl rfl ?_
      refine r_getr nf_Need_28 lc_0 rfl d_Need_keep_12 ?_
      refine r_getr nf_Need_101 image_10.1 rfl d_Need_keep_15 ?_
      refine r_V0 v_Tree_isEmpty w_631 (isImage.tree image_10).1 (CF_eq (c2_Tree_isEmpty h5.1.size h5.1.n31) (show _ = some (Value.int 0) by rw [decide_eq_false (by omega)]; rfl) rfl) (Nat.le_of_ble_eq_true rfl) (Nat.le_of_ble_eq_true rfl) d_Need_keep_18 ?_
      refine r_if_eq 27 d_Need_keep_21 (by decide) (fun h_21 => ?_) (fun h_21 => ?_)
      · skip
        refine r_aload_n (i := 0) d_Need_keep_27 rfl rfl ?_
        refine r_iload_n (i := 1) d_Need_keep_28 rfl rfl ?_
        refine r_V1 v_Need_imageOf w_808 lc_0 (c0_Need_imageOf) (Nat.le_of_ble_eq_true rfl) (Nat.le_of_ble_eq_true rfl) d_Need_keep_29 ?_
        refine r_astore_n (i := 2) d_Need_keep_32 rfl (Nat.le_of_ble_eq_true rfl) rfl ?_
        dsimp only [List.set]
        refine r_aload_n (i := 2) d_Need_keep_33 rfl rfl ?_
        refine r_aload_n (i := 0) d_Need_keep_34 rfl rfl ?_
        refine r_getr nf_Need_28 lc_0 rfl d_Need_keep_35 ?_
        refine r_W1 v_Image_copy w_812 image_34.1 (c_Image_copy image_34 image_10 M (by omega)) (Nat.le_of_ble_eq_true rfl) (Nat.le_of_ble_eq_true rfl) d_Need_keep_38 (fun v N1 hv => ?_)
        obtain ⟨rfl, hc⟩ := hv
        obtain ⟨g1, g2, g3, g4⟩ := icp_img hc h5.1.1 h5.1.2.2.1 h6
        refine r_aload_n (i := 2) d_Need_keep_41 rfl rfl ?_
        refine r_iconst 1 d_Need_keep_42 ic_1 ?_
        refine r_putz nf_Need_108 nfin_Image_3 (by decide) image_34.1 rfl d_Need_keep_43 ?_
        refine r_aload_n (i := 0) d_Need_keep_46 rfl rfl ?_
        refine r_getr nf_Need_28 lc_0 rfl d_Need_keep_47 ?_
        refine r_getr nf_Need_101 image_10.1 rfl d_Need_keep_50 ?_
        refine r_gx nf_Need_118 (isImage.tree image_10).1 rfl (((ms_ne N1 (i := 34) (j := 11) (upd (N1 34) 3 1) (by decide)) ▸ (g4 11 (by decide)).symm ▸ h5.1.size : (ms N1 34 (upd (N1 34) 3 1)) 11 9 = nI n)) d_Need_keep_53 ?_
        refine r_iret rfl d_Need_keep_56 ?_
        have q : ∀ e, e ≠ 34 → (ms N1 34 (upd (N1 34) 3 1)) e = N1 e := fun e he => ms_ne _ _ he
        have q3 : (ms N1 34 (upd (N1 34) 3 1)) 34 3 = 1 := by rw [ms_same, upd_at]
        generalize ms N1 34 (upd (N1 34) 3 1) = N at *
        have qm : ∀ e, (e < 34 ∨ 34 + 23 < e) → N e = M e := fun e he => (q e (by omega)).trans (g4 e (by omega))
        refine ⟨rfl, qm 2 (by decide), h1, by rw [qm 0 (by decide)]; exact h2, by rw [qm 0 (by decide)]; exact h3, by rw [qm 0 (by decide)]; exact h4, h5.keep2 (fun e he => qm e (by omega)), ?_, h7.keep (fun e a b => qm e (by omega)), ?_⟩
        · rw [qm 13 (by decide), qm 15 (by decide), qm 17 (by decide), qm 19 (by decide), qm 31 (by decide)]; exact h6
        · have hi : IMk 34 (some s) N := ⟨q3, n, z, tp, nd, ld, ak, mc, g1.cong (fun e a b => q e (by omega)), h5.1.2.1.2.1, by rw [q (34 + 23) (by decide)]; exact g2, by rw [q (34 + 3) (by decide), q (34 + 5) (by decide), q (34 + 7) (by decide), q (34 + 9) (by decide), q (34 + 21) (by decide)]; exact g3⟩
          have ho : IMk 58 (K 1) N := h8.2.keep (fun e a b => qm e (by omega))
          exact ⟨hi, ho⟩
      · exact absurd h_21 (by decide)
    · exact absurd h_6 (by decide)

theorem c1_Need_back (h : M 34 3 = 0) : CF G LC m_Need_back 7 [.ref (G.2.2 0), .int 0] M (some (.int (-2))) M := by
  refine CJ_of2 (n0 := 1) (by decide) rfl rfl ?_
  simp only [List.map_cons, List.map_nil, List.cons_append, List.nil_append, List.reduceReplicate]
  refine r_iload_n (i := 1) d_Need_back_0 rfl rfl ?_
  refine r_if_lt 9 d_Need_back_1 (by decide) (fun h_1 => ?_) (fun h_1 => ?_)
  · exact absurd h_1 (by decide)
  · skip
    refine r_iload_n (i := 1) d_Need_back_4 rfl rfl ?_
    refine r_iconst 1 d_Need_back_5 ic_1 ?_
    refine r_icmp_le 11 d_Need_back_6 (by decide) (fun h_6 => ?_) (fun h_6 => ?_)
    · skip
      refine r_aload_n (i := 0) d_Need_back_11 rfl rfl ?_
      refine r_iload_n (i := 1) d_Need_back_12 rfl rfl ?_
      refine r_V1 v_Need_imageOf w_808 lc_0 (c0_Need_imageOf) (Nat.le_of_ble_eq_true rfl) (Nat.le_of_ble_eq_true rfl) d_Need_back_13 ?_
      refine r_astore_n (i := 2) d_Need_back_16 rfl (Nat.le_of_ble_eq_true rfl) rfl ?_
      dsimp only [List.set]
      refine r_aload_n (i := 2) d_Need_back_17 rfl rfl ?_
      refine r_gx nf_Need_108 image_34.1 rfl (h) d_Need_back_18 ?_
      refine r_if_ne 27 d_Need_back_21 (by decide) (fun h_21 => ?_) (fun h_21 => ?_)
      · exact absurd h_21 (by decide)
      · skip
        refine r_bipush (-2) d_Need_back_24 bp_m2 ?_
        refine r_iret rfl d_Need_back_26 ?_
        exact ⟨rfl, rfl⟩
    · exact absurd h_6 (by decide)

set_option maxHeartbeats 1000000 in
theorem c2_Need_back (h : CRg n z tp nd ld ak mc C Q V len s l K ask trp M) {f : SN} (hK : K 0 = some f) : CJ G LC m_Need_back 7 [.ref (G.2.2 0), .int 0] M (fun v N => v = some (.int (f 0)) ∧ N 2 = M 2 ∧ CR len f [] K ask trp N) := by
  obtain ⟨h1, h2, h3, h4, h5, h6, ⟨p, a1, a2, a3, a4, a5⟩, h8⟩ := h
  have hi := h8.1
  rw [hK] at hi
  obtain ⟨b0, n2, z2, tp2, nd2, ld2, ak2, mc2, b1, b2, b3, b4⟩ := hi
  refine CJ_of2 (n0 := 1) (by decide) rfl rfl ?_
  simp only [List.map_cons, List.map_nil, List.cons_append, List.nil_append, List.reduceReplicate]
  refine r_iload_n (i := 1) d_Need_back_0 rfl rfl ?_
  refine r_if_lt 9 d_Need_back_1 (by decide) (fun h_1 => ?_) (fun h_1 => ?_)
  · exact absurd h_1 (by decide)
  · skip
    refine r_iload_n (i := 1) d_Need_back_4 rfl rfl ?_
    refine r_iconst 1 d_Need_back_5 ic_1 ?_
    refine r_icmp_le 11 d_Need_back_6 (by decide) (fun h_6 => ?_) (fun h_6 => ?_)
    · skip
      refine r_aload_n (i := 0) d_Need_back_11 rfl rfl ?_
      refine r_iload_n (i := 1) d_Need_back_12 rfl rfl ?_
      refine r_V1 v_Need_imageOf w_808 lc_0 (c0_Need_imageOf) (Nat.le_of_ble_eq_true rfl) (Nat.le_of_ble_eq_true rfl) d_Need_back_13 ?_
      refine r_astore_n (i := 2) d_Need_back_16 rfl (Nat.le_of_ble_eq_true rfl) rfl ?_
      dsimp only [List.set]
      refine r_aload_n (i := 2) d_Need_back_17 rfl rfl ?_
      refine r_gx nf_Need_108 image_34.1 rfl (b0) d_Need_back_18 ?_
      refine r_if_ne 27 d_Need_back_21 (by decide) (fun h_21 => ?_) (fun h_21 => ?_)
      · skip
        refine r_aload_n (i := 0) d_Need_back_27 rfl rfl ?_
        refine r_getr nf_Need_28 lc_0 rfl d_Need_back_28 ?_
        refine r_aload_n (i := 2) d_Need_back_31 rfl rfl ?_
        refine r_W1 v_Image_copy w_812 image_10.1 (c_Image_copy image_10 image_34 M (by omega)) (Nat.le_of_ble_eq_true rfl) (Nat.le_of_ble_eq_true rfl) d_Need_back_32 (fun v N1 hv => ?_)
        obtain ⟨rfl, hc⟩ := hv
        obtain ⟨g1, g2, g3, g4⟩ := icp_img hc b1 b3 b4
        refine r_aload_n (i := 0) d_Need_back_35 rfl rfl ?_
        refine r_getr nf_Need_48 lc_0 rfl d_Need_back_36 ?_
        refine r_W0 v_Acts_forget w_508 lc_101 (c_Acts_forget N1) (Nat.le_of_ble_eq_true rfl) (Nat.le_of_ble_eq_true rfl) d_Need_back_39 (fun v N2 hv => ?_)
        obtain ⟨rfl, hN2⟩ := hv
        have q : ∀ e, e ≠ 101 → N2 e = N1 e := fun e he => by rw [hN2, ms_ne _ _ he]
        have q4 : N2 101 4 = nI p := by rw [hN2, ms_same, upd_ne _ _ (by decide), g4 101 (by decide)]; exact a2
        have q5 : N2 101 5 = 0 := by rw [hN2, ms_same, upd_at]
        clear hN2
        have hT2 : TD 11 n2 z2 tp2 nd2 ld2 ak2 N2 := g1.cong (fun e a b => q e (by omega))
        obtain ⟨C2, Q2, hS2⟩ := gs_of hT2.2.1 b2
        obtain ⟨V2, hV2⟩ := vs_of hS2.1.1 mc2 tp2 ak2
        refine r_aload_n (i := 0) d_Need_back_42 rfl rfl ?_
        refine r_W0 v_Need_refresh w_512 lc_0 (c_Need_refresh (n := n2) (mc := mc2) (C := C2) (Q := Q2) (V := V2) hT2 hS2 (fun j hj => by rw [q 33 (by decide)]; exact g2 j hj) hV2) (Nat.le_of_ble_eq_true rfl) (Nat.le_of_ble_eq_true rfl) d_Need_back_43 (fun v N3 hv => ?_)
        obtain ⟨rfl, k1, k2⟩ := hv
        have qm : ∀ e, (e ≤ 10 ∨ (33 < e ∧ e ≤ 100)) → N3 e = M e := fun e he => ((k1 e (by omega)).trans (q e (by omega))).trans (g4 e (by omega))
        refine r_aload_n (i := 0) d_Need_back_46 rfl rfl ?_
        refine r_getr nf_Need_28 lc_0 rfl d_Need_back_47 ?_
        refine r_getr nf_Need_101 image_10.1 rfl d_Need_back_50 ?_
        refine r_gx nf_Need_118 (isImage.tree image_10).1 rfl (k2.1.size) d_Need_back_53 ?_
        refine r_iret rfl d_Need_back_56 ?_
        refine ⟨by rw [b4.1], qm 2 (by decide), n2, z2, tp2, nd2, ld2, ak2, mc2, C2, Q2, V2, h1, by rw [qm 0 (by decide)]; exact h2, by rw [qm 0 (by decide)]; exact h3, by rw [qm 0 (by decide)]; exact h4, k2, ?_, ⟨p, a1, by rw [k1 101 (by decide)]; exact q4, by rw [k1 101 (by decide)]; exact q5, Nat.zero_le _, trivial⟩, h8.keep (fun e a b => qm e (by omega))⟩
        rw [k1 13 (by decide), k1 15 (by decide), k1 17 (by decide), k1 19 (by decide), k1 31 (by decide), q 13 (by decide), q 15 (by decide), q 17 (by decide), q 19 (by decide), q 31 (by decide)]
        exact g3
      · exact absurd h_21 (by decide)
    · exact absurd h_6 (by decide)

theorem c3_Need_keep (h : CRg n z tp nd ld ak mc C Q V len s l K ask trp M) (h0 : 0 < n) : CJ G LC m_Need_keep 7 [.ref (G.2.2 0), .int 1] M (fun v N => v = some (.int (nI n)) ∧ N 2 = M 2 ∧ CRg n z tp nd ld ak mc C Q V len s l (updK K 1 s) ask trp N) := by
  obtain ⟨h1, h2, h3, h4, h5, h6, h7, h8⟩ := h
  refine CJ_of2 (n0 := 1) (by decide) rfl rfl ?_
  simp only [List.map_cons, List.map_nil, List.cons_append, List.nil_append, List.reduceReplicate]
  refine r_iload_n (i := 1) d_Need_keep_0 rfl rfl ?_
  refine r_if_lt 9 d_Need_keep_1 (by decide) (fun h_1 => ?_) (fun h_1 => ?_)
  · exact absurd h_1 (by decide)
  · skip
    refine r_iload_n (i := 1) d_Need_keep_4 rfl rfl ?_
    refine r_iconst 1 d_Need_keep_5 ic_1 ?_
    refine r_icmp_le 11 d_Need_keep_6 (by decide) (fun h_6 => ?_) (fun h_6 => ?_)
    · skip
      refine r_aload_n (i := 0) d_Need_keep_11 rfl rfl ?_
      refine r_getr nf_Need_28 lc_0 rfl d_Need_keep_12 ?_
      refine r_getr nf_Need_101 image_10.1 rfl d_Need_keep_15 ?_
      refine r_V0 v_Tree_isEmpty w_631 (isImage.tree image_10).1 (CF_eq (c2_Tree_isEmpty h5.1.size h5.1.n31) (show _ = some (Value.int 0) by rw [decide_eq_false (by omega)]; rfl) rfl) (Nat.le_of_ble_eq_true rfl) (Nat.le_of_ble_eq_true rfl) d_Need_keep_18 ?_
      refine r_if_eq 27 d_Need_keep_21 (by decide) (fun h_21 => ?_) (fun h_21 => ?_)
      · skip
        refine r_aload_n (i := 0) d_Need_keep_27 rfl rfl ?_
        refine r_iload_n (i := 1) d_Need_keep_28 rfl rfl ?_
        refine r_V1 v_Need_imageOf w_808 lc_0 (c1_Need_imageOf) (Nat.le_of_ble_eq_true rfl) (Nat.le_of_ble_eq_true rfl) d_Need_keep_29 ?_
        refine r_astore_n (i := 2) d_Need_keep_32 rfl (Nat.le_of_ble_eq_true rfl) rfl ?_
        dsimp only [List.set]
        refine r_aload_n (i := 2) d_Need_keep_33 rfl rfl ?_
        refine r_aload_n (i := 0) d_Need_keep_34 rfl rfl ?_
        refine r_getr nf_Need_28 lc_0 rfl d_Need_keep_35 ?_
        refine r_W1 v_Image_copy w_812 image_58.1 (c_Image_copy image_58 image_10 M (by omega)) (Nat.le_of_ble_eq_true rfl) (Nat.le_of_ble_eq_true rfl) d_Need_keep_38 (fun v N1 hv => ?_)
        obtain ⟨rfl, hc⟩ := hv
        obtain ⟨g1, g2, g3, g4⟩ := icp_img hc h5.1.1 h5.1.2.2.1 h6
        refine r_aload_n (i := 2) d_Need_keep_41 rfl rfl ?_
        refine r_iconst 1 d_Need_keep_42 ic_1 ?_
        refine r_putz nf_Need_108 nfin_Image_3 (by decide) image_58.1 rfl d_Need_keep_43 ?_
        refine r_aload_n (i := 0) d_Need_keep_46 rfl rfl ?_
        refine r_getr nf_Need_28 lc_0 rfl d_Need_keep_47 ?_
        refine r_getr nf_Need_101 image_10.1 rfl d_Need_keep_50 ?_
        refine r_gx nf_Need_118 (isImage.tree image_10).1 rfl (((ms_ne N1 (i := 58) (j := 11) (upd (N1 58) 3 1) (by decide)) ▸ (g4 11 (by decide)).symm ▸ h5.1.size : (ms N1 58 (upd (N1 58) 3 1)) 11 9 = nI n)) d_Need_keep_53 ?_
        refine r_iret rfl d_Need_keep_56 ?_
        have q : ∀ e, e ≠ 58 → (ms N1 58 (upd (N1 58) 3 1)) e = N1 e := fun e he => ms_ne _ _ he
        have q3 : (ms N1 58 (upd (N1 58) 3 1)) 58 3 = 1 := by rw [ms_same, upd_at]
        generalize ms N1 58 (upd (N1 58) 3 1) = N at *
        have qm : ∀ e, (e < 58 ∨ 58 + 23 < e) → N e = M e := fun e he => (q e (by omega)).trans (g4 e (by omega))
        refine ⟨rfl, qm 2 (by decide), h1, by rw [qm 0 (by decide)]; exact h2, by rw [qm 0 (by decide)]; exact h3, by rw [qm 0 (by decide)]; exact h4, h5.keep2 (fun e he => qm e (by omega)), ?_, h7.keep (fun e a b => qm e (by omega)), ?_⟩
        · rw [qm 13 (by decide), qm 15 (by decide), qm 17 (by decide), qm 19 (by decide), qm 31 (by decide)]; exact h6
        · have hi : IMk 58 (some s) N := ⟨q3, n, z, tp, nd, ld, ak, mc, g1.cong (fun e a b => q e (by omega)), h5.1.2.1.2.1, by rw [q (58 + 23) (by decide)]; exact g2, by rw [q (58 + 3) (by decide), q (58 + 5) (by decide), q (58 + 7) (by decide), q (58 + 9) (by decide), q (58 + 21) (by decide)]; exact g3⟩
          have ho : IMk 34 (K 0) N := h8.1.keep (fun e a b => qm e (by omega))
          exact ⟨ho, hi⟩
      · exact absurd h_21 (by decide)
    · exact absurd h_6 (by decide)

theorem c3_Need_back (h : M 58 3 = 0) : CF G LC m_Need_back 7 [.ref (G.2.2 0), .int 1] M (some (.int (-2))) M := by
  refine CJ_of2 (n0 := 1) (by decide) rfl rfl ?_
  simp only [List.map_cons, List.map_nil, List.cons_append, List.nil_append, List.reduceReplicate]
  refine r_iload_n (i := 1) d_Need_back_0 rfl rfl ?_
  refine r_if_lt 9 d_Need_back_1 (by decide) (fun h_1 => ?_) (fun h_1 => ?_)
  · exact absurd h_1 (by decide)
  · skip
    refine r_iload_n (i := 1) d_Need_back_4 rfl rfl ?_
    refine r_iconst 1 d_Need_back_5 ic_1 ?_
    refine r_icmp_le 11 d_Need_back_6 (by decide) (fun h_6 => ?_) (fun h_6 => ?_)
    · skip
      refine r_aload_n (i := 0) d_Need_back_11 rfl rfl ?_
      refine r_iload_n (i := 1) d_Need_back_12 rfl rfl ?_
      refine r_V1 v_Need_imageOf w_808 lc_0 (c1_Need_imageOf) (Nat.le_of_ble_eq_true rfl) (Nat.le_of_ble_eq_true rfl) d_Need_back_13 ?_
      refine r_astore_n (i := 2) d_Need_back_16 rfl (Nat.le_of_ble_eq_true rfl) rfl ?_
      dsimp only [List.set]
      refine r_aload_n (i := 2) d_Need_back_17 rfl rfl ?_
      refine r_gx nf_Need_108 image_58.1 rfl (h) d_Need_back_18 ?_
      refine r_if_ne 27 d_Need_back_21 (by decide) (fun h_21 => ?_) (fun h_21 => ?_)
      · exact absurd h_21 (by decide)
      · skip
        refine r_bipush (-2) d_Need_back_24 bp_m2 ?_
        refine r_iret rfl d_Need_back_26 ?_
        exact ⟨rfl, rfl⟩
    · exact absurd h_6 (by decide)

set_option maxHeartbeats 1000000 in
theorem c4_Need_back (h : CRg n z tp nd ld ak mc C Q V len s l K ask trp M) {f : SN} (hK : K 1 = some f) : CJ G LC m_Need_back 7 [.ref (G.2.2 0), .int 1] M (fun v N => v = some (.int (f 0)) ∧ N 2 = M 2 ∧ CR len f [] K ask trp N) := by
  obtain ⟨h1, h2, h3, h4, h5, h6, ⟨p, a1, a2, a3, a4, a5⟩, h8⟩ := h
  have hi := h8.2
  rw [hK] at hi
  obtain ⟨b0, n2, z2, tp2, nd2, ld2, ak2, mc2, b1, b2, b3, b4⟩ := hi
  refine CJ_of2 (n0 := 1) (by decide) rfl rfl ?_
  simp only [List.map_cons, List.map_nil, List.cons_append, List.nil_append, List.reduceReplicate]
  refine r_iload_n (i := 1) d_Need_back_0 rfl rfl ?_
  refine r_if_lt 9 d_Need_back_1 (by decide) (fun h_1 => ?_) (fun h_1 => ?_)
  · exact absurd h_1 (by decide)
  · skip
    refine r_iload_n (i := 1) d_Need_back_4 rfl rfl ?_
    refine r_iconst 1 d_Need_back_5 ic_1 ?_
    refine r_icmp_le 11 d_Need_back_6 (by decide) (fun h_6 => ?_) (fun h_6 => ?_)
    · skip
      refine r_aload_n (i := 0) d_Need_back_11 rfl rfl ?_
      refine r_iload_n (i := 1) d_Need_back_12 rfl rfl ?_
      refine r_V1 v_Need_imageOf w_808 lc_0 (c1_Need_imageOf) (Nat.le_of_ble_eq_true rfl) (Nat.le_of_ble_eq_true rfl) d_Need_back_13 ?_
      refine r_astore_n (i := 2) d_Need_back_16 rfl (Nat.le_of_ble_eq_true rfl) rfl ?_
      dsimp only [List.set]
      refine r_aload_n (i := 2) d_Need_back_17 rfl rfl ?_
      refine r_gx nf_Need_108 image_58.1 rfl (b0) d_Need_back_18 ?_
      refine r_if_ne 27 d_Need_back_21 (by decide) (fun h_21 => ?_) (fun h_21 => ?_)
      · skip
        refine r_aload_n (i := 0) d_Need_back_27 rfl rfl ?_
        refine r_getr nf_Need_28 lc_0 rfl d_Need_back_28 ?_
        refine r_aload_n (i := 2) d_Need_back_31 rfl rfl ?_
        refine r_W1 v_Image_copy w_812 image_10.1 (c_Image_copy image_10 image_58 M (by omega)) (Nat.le_of_ble_eq_true rfl) (Nat.le_of_ble_eq_true rfl) d_Need_back_32 (fun v N1 hv => ?_)
        obtain ⟨rfl, hc⟩ := hv
        obtain ⟨g1, g2, g3, g4⟩ := icp_img hc b1 b3 b4
        refine r_aload_n (i := 0) d_Need_back_35 rfl rfl ?_
        refine r_getr nf_Need_48 lc_0 rfl d_Need_back_36 ?_
        refine r_W0 v_Acts_forget w_508 lc_101 (c_Acts_forget N1) (Nat.le_of_ble_eq_true rfl) (Nat.le_of_ble_eq_true rfl) d_Need_back_39 (fun v N2 hv => ?_)
        obtain ⟨rfl, hN2⟩ := hv
        have q : ∀ e, e ≠ 101 → N2 e = N1 e := fun e he => by rw [hN2, ms_ne _ _ he]
        have q4 : N2 101 4 = nI p := by rw [hN2, ms_same, upd_ne _ _ (by decide), g4 101 (by decide)]; exact a2
        have q5 : N2 101 5 = 0 := by rw [hN2, ms_same, upd_at]
        clear hN2
        have hT2 : TD 11 n2 z2 tp2 nd2 ld2 ak2 N2 := g1.cong (fun e a b => q e (by omega))
        obtain ⟨C2, Q2, hS2⟩ := gs_of hT2.2.1 b2
        obtain ⟨V2, hV2⟩ := vs_of hS2.1.1 mc2 tp2 ak2
        refine r_aload_n (i := 0) d_Need_back_42 rfl rfl ?_
        refine r_W0 v_Need_refresh w_512 lc_0 (c_Need_refresh (n := n2) (mc := mc2) (C := C2) (Q := Q2) (V := V2) hT2 hS2 (fun j hj => by rw [q 33 (by decide)]; exact g2 j hj) hV2) (Nat.le_of_ble_eq_true rfl) (Nat.le_of_ble_eq_true rfl) d_Need_back_43 (fun v N3 hv => ?_)
        obtain ⟨rfl, k1, k2⟩ := hv
        have qm : ∀ e, (e ≤ 10 ∨ (33 < e ∧ e ≤ 100)) → N3 e = M e := fun e he => ((k1 e (by omega)).trans (q e (by omega))).trans (g4 e (by omega))
        refine r_aload_n (i := 0) d_Need_back_46 rfl rfl ?_
        refine r_getr nf_Need_28 lc_0 rfl d_Need_back_47 ?_
        refine r_getr nf_Need_101 image_10.1 rfl d_Need_back_50 ?_
        refine r_gx nf_Need_118 (isImage.tree image_10).1 rfl (k2.1.size) d_Need_back_53 ?_
        refine r_iret rfl d_Need_back_56 ?_
        refine ⟨by rw [b4.1], qm 2 (by decide), n2, z2, tp2, nd2, ld2, ak2, mc2, C2, Q2, V2, h1, by rw [qm 0 (by decide)]; exact h2, by rw [qm 0 (by decide)]; exact h3, by rw [qm 0 (by decide)]; exact h4, k2, ?_, ⟨p, a1, by rw [k1 101 (by decide)]; exact q4, by rw [k1 101 (by decide)]; exact q5, Nat.zero_le _, trivial⟩, h8.keep (fun e a b => qm e (by omega))⟩
        rw [k1 13 (by decide), k1 15 (by decide), k1 17 (by decide), k1 19 (by decide), k1 31 (by decide), q 13 (by decide), q 15 (by decide), q 17 (by decide), q 19 (by decide), q 31 (by decide)]
        exact g3
      · exact absurd h_21 (by decide)
    · exact absurd h_6 (by decide)

set_option maxHeartbeats 2000000 in
theorem c_Need_tree (h : CRg n z tp nd ld ak mc C Q V len s l K ask trp M) : CJ G LC m_Need_tree 7 [.ref (G.2.2 0)] M (fun v N => match runp (M 2) len (len + 1) as0 with | .inl f => v = some (.int (-10 - nI f)) ∧ N 2 = M 2 ∧ CRg n z tp nd ld ak mc C Q V len s l K ask trp N | .inr T => v = some (.int (nI T.1)) ∧ ∀ s2, MS T.1 T.2.1 T.2.2.1 T.2.2.2.1 T.2.2.2.2.1 (M 31) mc s2 → CR 0 s2 [] (fun _ => none) ask trp N) := by
  have hh := h
  obtain ⟨h1, h2, h3, h4, h5, h6, ⟨p, a1, a2, a3, a4, a5⟩, h8⟩ := h
  refine CJ_of2 (n0 := 1) (by decide) rfl rfl ?_
  simp only [List.map_cons, List.map_nil, List.cons_append, List.nil_append, List.reduceReplicate]
  refine r_aload_n (i := 0) d_Need_tree_0 rfl rfl ?_
  refine r_getr nf_Need_21 lc_0 rfl d_Need_tree_1 ?_
  refine r_aload_n (i := 0) d_Need_tree_4 rfl rfl ?_
  refine r_getr nf_Need_14 lc_0 rfl d_Need_tree_5 ?_
  refine r_aload_n (i := 0) d_Need_tree_8 rfl rfl ?_
  refine r_gx nf_Need_91 lc_0 rfl (h2) d_Need_tree_9 ?_
  refine r_aload_n (i := 0) d_Need_tree_12 rfl rfl ?_
  refine r_getr nf_Need_41 lc_0 rfl d_Need_tree_13 ?_
  refine r_W3 v_Reader_read w_362 lc_3 (c_Reader_read h1) (Nat.le_of_ble_eq_true rfl) (Nat.le_of_ble_eq_true rfl) d_Need_tree_16 (fun v N1 hv => ?_)
  obtain ⟨f1, hv⟩ := hv
  rcases hR : runp (M 2) len (len + 1) as0 with e | T
  · skip
    rw [hR] at hv
    obtain ⟨rfl, hle⟩ := hv
    try simp only [hR]
    refine r_istore_n (i := 1) d_Need_tree_19 rfl (Nat.le_of_ble_eq_true rfl) rfl ?_
    dsimp only [List.set]
    refine r_iload_n (i := 1) d_Need_tree_20 rfl rfl ?_
    refine r_bipush (-9) d_Need_tree_21 bp_m9 ?_
    refine r_icmp_eq 31 d_Need_tree_23 (by decide) (fun h_23 => ?_) (fun h_23 => ?_)
    · skip
      exact absurd h_23 (nI_ne9 (by omega))
    · skip
      refine r_bipush (-10) d_Need_tree_26 bp_m10 ?_
      refine r_iload_n (i := 1) d_Need_tree_28 rfl rfl ?_
      refine r_isub d_Need_tree_29 ?_
      refine r_iret rfl d_Need_tree_30 ?_
      refine ⟨rfl, f1 2 (by decide) (by decide) (by decide) (by decide) (by decide) (by decide) (by decide) (by decide) (by decide), hh.keep3 (fun e he => f1 e (by omega) (by omega) (by omega) (by omega) (by omega) (by omega) (by omega) (by omega) (by omega))⟩
  · skip
    rw [hR] at hv
    obtain ⟨rfl, hTR, hwT, hT1⟩ := hv
    try simp only [hR]
    have hq1 : ∀ j, j < T.1 → N1 84 j = T.2.1 j ∧ N1 86 j = T.2.2.1 j ∧ N1 88 j = T.2.2.2.1 j ∧ N1 90 j = T.2.2.2.2.1 j := hTR.2
    have hw1 : WF T.1 (N1 84) (N1 86) (N1 88) (N1 90) T.2.2.2.2.2 := hwT.cong hq1
    obtain ⟨⟨tp2, nd2, ld2, ak2⟩, hg⟩ := gh_ex hw1
    simp only at hg
    refine r_istore_n (i := 1) d_Need_tree_19 rfl (Nat.le_of_ble_eq_true rfl) rfl ?_
    dsimp only [List.set]
    refine r_iload_n (i := 1) d_Need_tree_20 rfl rfl ?_
    refine r_bipush (-9) d_Need_tree_21 bp_m9 ?_
    refine r_icmp_eq 31 d_Need_tree_23 (by decide) (fun h_23 => ?_) (fun h_23 => ?_)
    · skip
      refine r_aload_n (i := 0) d_Need_tree_31 rfl rfl ?_
      refine r_getr nf_Need_41 lc_0 rfl d_Need_tree_32 ?_
      refine r_W0 v_Tree_derive w_434 tree_82.1 (c_Tree_derive (n := T.1) tree_82 hg hTR.1) (Nat.le_of_ble_eq_true rfl) (Nat.le_of_ble_eq_true rfl) d_Need_tree_35 (fun v N2 hv => ?_)
      obtain ⟨rfl, hD1, hD2⟩ := hv
      have r82 : ∀ e, e ≠ 92 → e ≠ 94 → e ≠ 96 → e ≠ 98 → e ≠ 100 → N2 e = N1 e := hD1
      have hTD : TD 82 T.1 T.2.2.2.2.2 tp2 nd2 ld2 ak2 N2 := by
        refine ⟨by rw [r82 82 (by decide) (by decide) (by decide) (by decide) (by decide)]; exact hTR.1, ?_, fun j hj => ?_⟩
        · show GH T.1 (N2 84) (N2 86) (N2 88) (N2 90) _ _ _ _ _
          rw [r82 84 (by decide) (by decide) (by decide) (by decide) (by decide), r82 86 (by decide) (by decide) (by decide) (by decide) (by decide), r82 88 (by decide) (by decide) (by decide) (by decide) (by decide), r82 90 (by decide) (by decide) (by decide) (by decide) (by decide)]
          exact hg
        · show N2 98 j = _ ∧ N2 96 j = _ ∧ N2 92 j = nI (nv (N2 88) (N2 90) nd2 T.1 j) ∧ N2 94 j = nI (nv (N2 88) (N2 90) ld2 T.1 j) ∧ N2 100 j = _
          rw [r82 88 (by decide) (by decide) (by decide) (by decide) (by decide), r82 90 (by decide) (by decide) (by decide) (by decide) (by decide)]
          exact hD2 j hj
      refine r_aload_n (i := 0) d_Need_tree_38 rfl rfl ?_
      refine r_getr nf_Need_28 lc_0 rfl d_Need_tree_39 ?_
      refine r_getr nf_Need_101 image_10.1 rfl d_Need_tree_42 ?_
      refine r_aload_n (i := 0) d_Need_tree_45 rfl rfl ?_
      refine r_getr nf_Need_41 lc_0 rfl d_Need_tree_46 ?_
      refine r_W1 v_Tree_copy w_496 (isImage.tree image_10).1 (c_Tree_copy tree_11 tree_82 N2 (by unfold apt; omega)) (Nat.le_of_ble_eq_true rfl) (Nat.le_of_ble_eq_true rfl) d_Need_tree_49 (fun v N3 hv => ?_)
      obtain ⟨rfl, hcp⟩ := hv
      have hT3 := hTD.copy hcp
      have c0 : ∀ e, (e < 11 ∨ 29 < e) → N3 e = N2 e := hcp.1
      have c13 : ∀ j, j < T.1 → N3 13 j = T.2.1 j ∧ N3 15 j = T.2.2.1 j ∧ N3 17 j = T.2.2.2.1 j ∧ N3 19 j = T.2.2.2.2.1 j := fun j hj => by
        have hn := hwT.1
        have e2 : N3 13 = cp 31 (N2 84) (N2 13) := hcp.2.2.1
        have e3 : N3 15 = cp 31 (N2 86) (N2 15) := hcp.2.2.2.1
        have e4 : N3 17 = cp 31 (N2 88) (N2 17) := hcp.2.2.2.2.1
        have e5 : N3 19 = cp 31 (N2 90) (N2 19) := hcp.2.2.2.2.2.1
        rw [e2, e3, e4, e5, cp_lt (by omega), cp_lt (by omega), cp_lt (by omega), cp_lt (by omega), r82 84 (by decide) (by decide) (by decide) (by decide) (by decide), r82 86 (by decide) (by decide) (by decide) (by decide) (by decide), r82 88 (by decide) (by decide) (by decide) (by decide) (by decide), r82 90 (by decide) (by decide) (by decide) (by decide) (by decide)]
        exact hq1 j hj
      have qm3 : ∀ e, (e = 0 ∨ (30 ≤ e ∧ e ≤ 81) ∨ 101 ≤ e) → N3 e = M e := fun e he => ((c0 e (by omega)).trans (r82 e (by omega) (by omega) (by omega) (by omega) (by omega))).trans (f1 e (by omega) (by omega) (by omega) (by omega) (by omega) (by omega) (by omega) (by omega) (by omega))
      refine r_aload_n (i := 0) d_Need_tree_52 rfl rfl ?_
      refine r_iconst 0 d_Need_tree_53 ic_0 ?_
      refine r_puti nf_Need_91 nfin_Need_11 lc_0 rfl d_Need_tree_54 ?_
      refine r_aload_n (i := 0) d_Need_tree_57 rfl rfl ?_
      refine r_getr nf_Need_32 lc_0 rfl d_Need_tree_58 ?_
      refine r_iconst 0 d_Need_tree_61 ic_0 ?_
      refine r_putz nf_Need_108 nfin_Image_3 (by decide) image_34.1 rfl d_Need_tree_62 ?_
      refine r_aload_n (i := 0) d_Need_tree_65 rfl rfl ?_
      refine r_getr nf_Need_35 lc_0 rfl d_Need_tree_66 ?_
      refine r_iconst 0 d_Need_tree_69 ic_0 ?_
      refine r_putz nf_Need_108 nfin_Image_3 (by decide) image_58.1 rfl d_Need_tree_70 ?_
      refine r_aload_n (i := 0) d_Need_tree_73 rfl rfl ?_
      refine r_getr nf_Need_48 lc_0 rfl d_Need_tree_74 ?_
      refine r_W0 v_Acts_forget w_508 lc_101 (c_Acts_forget _) (Nat.le_of_ble_eq_true rfl) (Nat.le_of_ble_eq_true rfl) d_Need_tree_77 (fun v N4 hv => ?_)
      obtain ⟨rfl, hN4⟩ := hv
      have q : ∀ e, e ≠ 0 → e ≠ 34 → e ≠ 58 → e ≠ 101 → N4 e = N3 e := fun e e0 e1 e2 e3 => by rw [hN4]; simp (disch := omega) only [ms_ne]
      have z0 : ∀ j, j ≠ 11 → N4 0 j = M 0 j := fun j hj => by rw [hN4]; simp (disch := omega) only [ms_ne, ms_same, upd_ne]; rw [qm3 0 (by omega)]
      have z11 : N4 0 11 = 0 := by rw [hN4]; simp (disch := omega) only [ms_ne, ms_same, upd_at]
      have z34 : N4 34 3 = 0 := by rw [hN4]; simp (disch := omega) only [ms_ne, ms_same, upd_at]
      have z58 : N4 58 3 = 0 := by rw [hN4]; simp (disch := omega) only [ms_ne, ms_same, upd_at]
      have z4 : N4 101 4 = nI p := by rw [hN4]; simp (disch := omega) only [ms_ne, ms_same, upd_ne]; rw [qm3 101 (by omega)]; exact a2
      have z5 : N4 101 5 = 0 := by rw [hN4]; simp (disch := omega) only [ms_ne, ms_same, upd_at]
      clear hN4
      have hT4 : TD 11 T.1 T.2.2.2.2.2 tp2 nd2 ld2 ak2 N4 := hT3.cong (fun e a b => q e (by omega) (by omega) (by omega) (by omega))
      obtain ⟨C2, Q2, hS2⟩ := gs_of hT4.2.1 h5.1.2.1.2.1
      obtain ⟨V2, hV2⟩ := vs_of hS2.1.1 mc tp2 ak2
      refine r_aload_n (i := 0) d_Need_tree_80 rfl rfl ?_
      refine r_W0 v_Need_refresh w_512 lc_0 (c_Need_refresh (n := T.1) (mc := mc) (C := C2) (Q := Q2) (V := V2) hT4 hS2 (fun j hj => by rw [q 33 (by decide) (by decide) (by decide) (by decide), qm3 33 (by omega)]; exact h5.1.2.2.1 j hj) hV2) (Nat.le_of_ble_eq_true rfl) (Nat.le_of_ble_eq_true rfl) d_Need_tree_81 (fun v N5 hv => ?_)
      obtain ⟨rfl, k1, k2⟩ := hv
      refine r_aload_n (i := 0) d_Need_tree_84 rfl rfl ?_
      refine r_getr nf_Need_28 lc_0 rfl d_Need_tree_85 ?_
      refine r_getr nf_Need_101 image_10.1 rfl d_Need_tree_88 ?_
      refine r_gx nf_Need_118 (isImage.tree image_10).1 rfl (k2.1.size) d_Need_tree_91 ?_
      refine r_iret rfl d_Need_tree_94 ?_
      refine ⟨rfl, fun s2 hs2 => ⟨T.1, T.2.2.2.2.2, tp2, nd2, ld2, ak2, mc, C2, Q2, V2, Nat.zero_le _, by rw [k1 0 (by decide)]; exact z11, by rw [k1 0 (by decide), z0 12 (by decide)]; exact h3, by rw [k1 0 (by decide), z0 13 (by decide)]; exact h4, k2, ?_, ⟨p, a1, by rw [k1 101 (by decide)]; exact z4, by rw [k1 101 (by decide)]; exact z5, Nat.zero_le _, trivial⟩, ?_, ?_⟩⟩
      · rw [k1 13 (by decide), k1 15 (by decide), k1 17 (by decide), k1 19 (by decide), k1 31 (by decide), q 13 (by decide) (by decide) (by decide) (by decide), q 15 (by decide) (by decide) (by decide) (by decide), q 17 (by decide) (by decide) (by decide) (by decide), q 19 (by decide) (by decide) (by decide) (by decide), q 31 (by decide) (by decide) (by decide) (by decide), qm3 31 (by omega)]
        exact hs2.cong c13 (fun _ _ => rfl)
      · show N5 34 3 = 0
        rw [k1 34 (by decide)]; exact z34
      · show N5 58 3 = 0
        rw [k1 58 (by decide)]; exact z58
    · exact absurd h_23 (by decide)

end NN6
