-- the class: NeedCode, exchanges
section NN5
variable {G : nw_G} {n : Nat} {z : Nat → Nat} {tp : Nat → Bool} {nd ld ak mc : Nat → Nat} {C : Nat → Nat → Nat} {Q : nP} {V : Nat → Nat} {M N : nw_M}
variable {len : Nat} {s : SN} {l : List SN} {K : Nat → Option SN} {ask trp : Int32}
theorem c2_isExch (h : NB n z tp nd ld ak mc C Q M) {k : Nat} (hk : k < n) : CF G LC m_Tree_isExchangeable 2 [.ref (G.2.2 11), .int (nI k)] M (some (.int (bI (xOK (M 13) z tp k)))) M := by
  have hn := h.n31
  refine CF_eq (c_Tree_isExchangeable tree_11 _ M) ?_ rfl
  show some (Value.int (bI (o_comm (rg 31 (M 13) (nI k)) && !(rg 31 (M 25) (rg 31 (M 17) (nI k)) == 1 && rg 31 (M 25) (rg 31 (M 19) (nI k)) == 1)))) = _
  rw [rg_nI _ (by omega) (by decide), rg_nI _ (by omega) (by decide), rg_nI _ (by omega) (by decide)]
  unfold xOK
  cases hc : o_comm (M 13 k) with
  | false => rfl
  | true =>
    have sp := h.2.1.1.1.pair hk (comm_pair h.2.1.1.1 hk hc)
    have zb := h.2.1.1.1.zb
    have key : ∀ j, j < n → (M 25 j == 1) = tp j := fun j hj => by
      have e : M 25 j = bI (tp j) := (h.1.2.2 j hj).2.1
      rw [e]
      cases tp j <;> rfl
    rw [sp.2.2.2.2.2.1, sp.2.2.2.1, rg_nI _ (by omega) (by decide), rg_nI _ (by omega) (by decide), key _ (by omega), key _ (by omega)]
/-- a tree of a state is turned, and what follows from it is made anew -/
theorem c2_turn (h : NB n z tp nd ld ak mc C Q M) {k : Nat} (hk : k < n) (hr : M 19 k ≠ -9) {z2 nd2 ld2 ak2 : Nat → Nat} {tp2 : Nat → Bool} (hg : GH n (xa (k + 1 - z k) (z (k - 1 - z (k - 1))) (z (k - 1)) (M 13)) (xa (k + 1 - z k) (z (k - 1 - z (k - 1))) (z (k - 1)) (M 15)) (upd (xb (k + 1 - z k) (z (k - 1 - z (k - 1))) (z (k - 1)) (M 17)) k (nI (k - 1 - (z (k - 1 - z (k - 1)))))) (upd (xb (k + 1 - z k) (z (k - 1 - z (k - 1))) (z (k - 1)) (M 19)) k (nI (k - 1))) z2 tp2 nd2 ld2 ak2) : CJ G LC m_Tree_turn 5 [.ref (G.2.2 11), .int (nI k), .ref (G.2.2 82)] M (fun v N => v = none ∧ TT 11 82 n k (k + 1 - z k) (z (k - 1 - z (k - 1))) (z (k - 1)) M z2 tp2 nd2 ld2 ak2 N) := by
  have hx := XN_of h.2.1.1.1 hk hr
  have sp := h.2.1.1.1.pair hk hr
  obtain ⟨x1, x2, x3, x4, x5, x6, x7⟩ := hx
  exact c_Tree_turn tree_11 tree_82 (by unfold apt; omega) hk h.n31 x1 x2 x3 h.size sp.2.2.2.2.2.1 sp.2.2.2.1 (h.1.2.2 _ (by omega)).1 (h.1.2.2 _ (by omega)).1 hg
theorem TT.td {k f0 zl zr : Nat} {z2 nd2 ld2 ak2 : Nat → Nat} {tp2 : Nat → Bool} (hs : M 11 9 = nI n) (h : TT 11 82 n k f0 zl zr M z2 tp2 nd2 ld2 ak2 N) (hg : GH n (xa f0 zl zr (M 13)) (xa f0 zl zr (M 15)) (upd (xb f0 zl zr (M 17)) k (nI (k - 1 - zl))) (upd (xb f0 zl zr (M 19)) k (nI (k - 1))) z2 tp2 nd2 ld2 ak2) : TD 11 n z2 tp2 nd2 ld2 ak2 N ∧ N 13 = xa f0 zl zr (M 13) ∧ N 15 = xa f0 zl zr (M 15) ∧ N 17 = upd (xb f0 zl zr (M 17)) k (nI (k - 1 - zl)) ∧ N 19 = upd (xb f0 zl zr (M 19)) k (nI (k - 1)) ∧ ∀ e, (e < 11 ∨ (29 < e ∧ e < 82) ∨ 100 < e) → N e = M e := by
  obtain ⟨h1, h2, h3, h4, h5, h6, h7⟩ := h
  refine ⟨⟨by rw [h2]; exact hs, ?_, h7⟩, h3, h4, h5, h6, fun e he => h1 e (by omega) (by omega)⟩
  rw [h3, h4, h5, h6]
  exact hg
theorem c0_Need_exchange (h : NB n z tp nd ld ak mc C Q M) {k : Int32} (hk : isN n k = false) : CF G LC m_Need_exchange 7 [.ref (G.2.2 0), .int k] M (some (.int (-1))) M := by
  refine CJ_of2 (n0 := 0) (by decide) rfl rfl ?_
  simp only [List.map_cons, List.map_nil, List.cons_append, List.nil_append, List.reduceReplicate]
  refine r_aload_n (i := 0) d_Need_exchange_0 rfl rfl ?_
  refine r_getr nf_Need_28 lc_0 rfl d_Need_exchange_1 ?_
  refine r_getr nf_Need_101 image_10.1 rfl d_Need_exchange_4 ?_
  refine r_iload_n (i := 1) d_Need_exchange_7 rfl rfl ?_
  refine r_V1 v_Tree_has w_576 (isImage.tree image_10).1 (CF_eq (c2_Tree_has h.size _) (show _ = some (Value.int 0) by rw [hk]; rfl) rfl) (Nat.le_of_ble_eq_true rfl) (Nat.le_of_ble_eq_true rfl) d_Need_exchange_8 ?_
  refine r_if_ne 16 d_Need_exchange_11 (by decide) (fun h_11 => ?_) (fun h_11 => ?_)
  · exact absurd h_11 (by decide)
  · skip
    refine r_iconst (-1) d_Need_exchange_14 ic_m1 ?_
    refine r_iret rfl d_Need_exchange_15 ?_
    exact ⟨rfl, rfl⟩

theorem c1_Need_exchange (h : NB n z tp nd ld ak mc C Q M) {k : Nat} (hk : k < n) (hx : xOK (M 13) z tp k = false) : CF G LC m_Need_exchange 7 [.ref (G.2.2 0), .int (nI k)] M (some (.int (-2))) M := by
  refine CJ_of2 (n0 := 0) (by decide) rfl rfl ?_
  simp only [List.map_cons, List.map_nil, List.cons_append, List.nil_append, List.reduceReplicate]
  refine r_aload_n (i := 0) d_Need_exchange_0 rfl rfl ?_
  refine r_getr nf_Need_28 lc_0 rfl d_Need_exchange_1 ?_
  refine r_getr nf_Need_101 image_10.1 rfl d_Need_exchange_4 ?_
  refine r_iload_n (i := 1) d_Need_exchange_7 rfl rfl ?_
  refine r_V1 v_Tree_has w_576 (isImage.tree image_10).1 (CF_eq (c2_Tree_has h.size _) (show _ = some (Value.int 1) by rw [isN_nI hk (by have := h.n31; omega)]; rfl) rfl) (Nat.le_of_ble_eq_true rfl) (Nat.le_of_ble_eq_true rfl) d_Need_exchange_8 ?_
  refine r_if_ne 16 d_Need_exchange_11 (by decide) (fun h_11 => ?_) (fun h_11 => ?_)
  · skip
    refine r_aload_n (i := 0) d_Need_exchange_16 rfl rfl ?_
    refine r_getr nf_Need_28 lc_0 rfl d_Need_exchange_17 ?_
    refine r_getr nf_Need_101 image_10.1 rfl d_Need_exchange_20 ?_
    refine r_iload_n (i := 1) d_Need_exchange_23 rfl rfl ?_
    refine r_V1 v_Tree_isExchangeable w_706 (isImage.tree image_10).1 (CF_eq (c2_isExch h hk) (show _ = some (Value.int 0) by rw [hx]; rfl) rfl) (Nat.le_of_ble_eq_true rfl) (Nat.le_of_ble_eq_true rfl) d_Need_exchange_24 ?_
    refine r_if_ne 33 d_Need_exchange_27 (by decide) (fun h_27 => ?_) (fun h_27 => ?_)
    · exact absurd h_27 (by decide)
    · skip
      refine r_bipush (-2) d_Need_exchange_30 bp_m2 ?_
      refine r_iret rfl d_Need_exchange_32 ?_
      exact ⟨rfl, rfl⟩
  · exact absurd h_11 (by decide)

set_option maxHeartbeats 2000000 in
theorem c_Need_exchange (h : CRg n z tp nd ld ak mc C Q V len s l K ask trp M) {k : Nat} (hk : k < n) (hx : xOK (M 13) z tp k = true) {z2 nd2 ld2 ak2 : Nat → Nat} {tp2 : Nat → Bool} {C2 : Nat → Nat → Nat} {Q2 : nP} {V2 : Nat → Nat} (hg2 : GS n (xa (k + 1 - z k) (z (k - 1 - z (k - 1))) (z (k - 1)) (M 13)) (xa (k + 1 - z k) (z (k - 1 - z (k - 1))) (z (k - 1)) (M 15)) (upd (xb (k + 1 - z k) (z (k - 1 - z (k - 1))) (z (k - 1)) (M 17)) k (nI (k - 1 - (z (k - 1 - z (k - 1)))))) (upd (xb (k + 1 - z k) (z (k - 1 - z (k - 1))) (z (k - 1)) (M 19)) k (nI (k - 1))) z2 tp2 nd2 ld2 ak2 mc C2 Q2) (hV2 : VS n mc (xa (k + 1 - z k) (z (k - 1 - z (k - 1))) (z (k - 1)) (M 13)) (upd (xb (k + 1 - z k) (z (k - 1 - z (k - 1))) (z (k - 1)) (M 17)) k (nI (k - 1 - (z (k - 1 - z (k - 1)))))) (upd (xb (k + 1 - z k) (z (k - 1 - z (k - 1))) (z (k - 1)) (M 19)) k (nI (k - 1))) z2 tp2 ak2 V2) : CJ G LC m_Need_exchange 7 [.ref (G.2.2 0), .int (nI k)] M (fun v N => v = some (.int (nI (rootC n mc C2))) ∧ N 2 = M 2 ∧ ∀ s2, MS n (xa (k + 1 - z k) (z (k - 1 - z (k - 1))) (z (k - 1)) (M 13)) (xa (k + 1 - z k) (z (k - 1 - z (k - 1))) (z (k - 1)) (M 15)) (upd (xb (k + 1 - z k) (z (k - 1 - z (k - 1))) (z (k - 1)) (M 17)) k (nI (k - 1 - (z (k - 1 - z (k - 1)))))) (upd (xb (k + 1 - z k) (z (k - 1 - z (k - 1))) (z (k - 1)) (M 19)) k (nI (k - 1))) (M 31) mc s2 → CRg n z2 tp2 nd2 ld2 ak2 mc C2 Q2 V2 len s2 (pushU s l) K ask trp N) := by
  obtain ⟨h1, h2, h3, h4, h5, h6, ⟨p, a1, a2, a3, a4, a5⟩, h8⟩ := h
  have hn := h5.1.n31
  have hr : M 19 k ≠ -9 := comm_pair h5.1.2.1.1.1 hk (by unfold xOK at hx; simp only [Bool.and_eq_true] at hx; exact hx.1)
  have hXN := XN_of h5.1.2.1.1.1 hk hr
  refine CJ_of2 (n0 := 0) (by decide) rfl rfl ?_
  simp only [List.map_cons, List.map_nil, List.cons_append, List.nil_append, List.reduceReplicate]
  refine r_aload_n (i := 0) d_Need_exchange_0 rfl rfl ?_
  refine r_getr nf_Need_28 lc_0 rfl d_Need_exchange_1 ?_
  refine r_getr nf_Need_101 image_10.1 rfl d_Need_exchange_4 ?_
  refine r_iload_n (i := 1) d_Need_exchange_7 rfl rfl ?_
  refine r_V1 v_Tree_has w_576 (isImage.tree image_10).1 (CF_eq (c2_Tree_has h5.1.size _) (show _ = some (Value.int 1) by rw [isN_nI hk (by omega)]; rfl) rfl) (Nat.le_of_ble_eq_true rfl) (Nat.le_of_ble_eq_true rfl) d_Need_exchange_8 ?_
  refine r_if_ne 16 d_Need_exchange_11 (by decide) (fun h_11 => ?_) (fun h_11 => ?_)
  · skip
    refine r_aload_n (i := 0) d_Need_exchange_16 rfl rfl ?_
    refine r_getr nf_Need_28 lc_0 rfl d_Need_exchange_17 ?_
    refine r_getr nf_Need_101 image_10.1 rfl d_Need_exchange_20 ?_
    refine r_iload_n (i := 1) d_Need_exchange_23 rfl rfl ?_
    refine r_V1 v_Tree_isExchangeable w_706 (isImage.tree image_10).1 (CF_eq (c2_isExch h5.1 hk) (show _ = some (Value.int 1) by rw [hx]; rfl) rfl) (Nat.le_of_ble_eq_true rfl) (Nat.le_of_ble_eq_true rfl) d_Need_exchange_24 ?_
    refine r_if_ne 33 d_Need_exchange_27 (by decide) (fun h_27 => ?_) (fun h_27 => ?_)
    · skip
      refine r_aload_n (i := 0) d_Need_exchange_33 rfl rfl ?_
      refine r_getr nf_Need_48 lc_0 rfl d_Need_exchange_34 ?_
      refine r_iload_n (i := 1) d_Need_exchange_37 rfl rfl ?_
      refine r_W1 v_Acts_addExchange w_711 lc_101 (c_Acts_addExchange p l.length a1 a4 _ _ a2 a3) (Nat.le_of_ble_eq_true rfl) (Nat.le_of_ble_eq_true rfl) d_Need_exchange_38 (fun v N1 hv => ?_)
      obtain ⟨rfl, hN1⟩ := hv
      have g := acM_rg M p l.length 0 (nI k) 0
      rw [← hN1] at g
      clear hN1
      have hB1 : NB n z tp nd ld ak mc C Q N1 := h5.1.keep2 (fun e he => g.1 e (by omega))
      have e13 := g.1 13 (by decide)
      have e15 := g.1 15 (by decide)
      have e17 := g.1 17 (by decide)
      have e19 := g.1 19 (by decide)
      have hG1 : GH n (xa (k + 1 - z k) (z (k - 1 - z (k - 1))) (z (k - 1)) (N1 13)) (xa (k + 1 - z k) (z (k - 1 - z (k - 1))) (z (k - 1)) (N1 15)) (upd (xb (k + 1 - z k) (z (k - 1 - z (k - 1))) (z (k - 1)) (N1 17)) k (nI (k - 1 - (z (k - 1 - z (k - 1)))))) (upd (xb (k + 1 - z k) (z (k - 1 - z (k - 1))) (z (k - 1)) (N1 19)) k (nI (k - 1))) z2 tp2 nd2 ld2 ak2 := by rw [e13, e15, e17, e19]; exact hg2.1
      refine r_aload_n (i := 0) d_Need_exchange_41 rfl rfl ?_
      refine r_getr nf_Need_28 lc_0 rfl d_Need_exchange_42 ?_
      refine r_getr nf_Need_101 image_10.1 rfl d_Need_exchange_45 ?_
      refine r_iload_n (i := 1) d_Need_exchange_48 rfl rfl ?_
      refine r_aload_n (i := 0) d_Need_exchange_49 rfl rfl ?_
      refine r_getr nf_Need_41 lc_0 rfl d_Need_exchange_50 ?_
      refine r_W2 v_Tree_turn w_721 (isImage.tree image_10).1 (c2_turn hB1 hk (by rw [e19]; exact hr) hG1) (Nat.le_of_ble_eq_true rfl) (Nat.le_of_ble_eq_true rfl) d_Need_exchange_53 (fun v N2 hv => ?_)
      obtain ⟨rfl, hTT⟩ := hv
      obtain ⟨t1, t2, t3, t4, t5, t6⟩ := TT.td hB1.size hTT hG1
      rw [e13] at t2
      rw [e15] at t3
      rw [e17] at t4
      rw [e19] at t5
      have hS2 : GS n (N2 13) (N2 15) (N2 17) (N2 19) z2 tp2 nd2 ld2 ak2 mc C2 Q2 := by rw [t2, t3, t4, t5]; exact hg2
      have hW2 : VS n mc (N2 13) (N2 17) (N2 19) z2 tp2 ak2 V2 := by rw [t2, t4, t5]; exact hV2
      have q : ∀ e, (e < 11 ∨ (29 < e ∧ e < 82) ∨ (100 < e ∧ e < 101) ∨ 109 < e) → N2 e = M e := fun e he => (t6 e (by omega)).trans (g.1 e (by omega))
      refine r_aload_n (i := 0) d_Need_exchange_56 rfl rfl ?_
      refine r_W0 v_Need_refresh w_512 lc_0 (c_Need_refresh (n := n) (mc := mc) t1 hS2 (fun j hj => by rw [q 33 (by decide)]; exact h5.1.2.2.1 j hj) hW2) (Nat.le_of_ble_eq_true rfl) (Nat.le_of_ble_eq_true rfl) d_Need_exchange_57 (fun v N3 hv => ?_)
      obtain ⟨rfl, k1, k2⟩ := hv
      refine r_aload_n (i := 0) d_Need_exchange_60 rfl rfl ?_
      refine r_V0 v_Need_rootCost w_731 lc_0 (c_Need_rootCost k2.1 (by omega)) (Nat.le_of_ble_eq_true rfl) (Nat.le_of_ble_eq_true rfl) d_Need_exchange_61 ?_
      refine r_iret rfl d_Need_exchange_64 ?_
      have r0 : N3 0 = M 0 := (k1 0 (by decide)).trans (q 0 (by decide))
      refine ⟨by rw [rootC, if_neg (by omega)], (k1 2 (by decide)).trans (q 2 (by decide)), fun s2 hs2 => ⟨h1, by rw [r0]; exact h2, by rw [r0]; exact h3, by rw [r0]; exact h4, k2, ?_, ?_, h8.keep (fun e e1 e2 => (k1 e (by omega)).trans (q e (by omega)))⟩⟩
      · rw [k1 13 (by decide), k1 15 (by decide), k1 17 (by decide), k1 19 (by decide), k1 31 (by decide), t2, t3, t4, t5, q 31 (by decide)]
        exact hs2
      · have hac := AC.push (s2 := s2) a4 a1 a5 g (Or.inl ⟨g.2.2.2.2.1, k, n, _, _, _, _, M 13, M 15, M 17, M 19, M 31, mc, z, g.2.2.2.2.2.1, hk, h5.1.2.1.1.1, hr, hXN, h6, hs2⟩)
        exact hac.keep (fun e e1 e2 => (k1 e (by omega)).trans (t6 e (by omega)))
    · exact absurd h_27 (by decide)
  · exact absurd h_11 (by decide)

theorem c3_Need_undo (h : M 101 5 = 0) : CF G LC m_Need_undo 7 [.ref (G.2.2 0)] M (some (.int (-2))) M := by
  refine CJ_of2 (n0 := 1) (by decide) rfl rfl ?_
  simp only [List.map_cons, List.map_nil, List.cons_append, List.nil_append, List.reduceReplicate]
  refine r_aload_n (i := 0) d_Need_undo_0 rfl rfl ?_
  refine r_getr nf_Need_48 lc_0 rfl d_Need_undo_1 ?_
  refine r_gx nf_Need_231 lc_101 rfl (h) d_Need_undo_4 ?_
  refine r_if_ne 13 d_Need_undo_7 (by decide) (fun h_7 => ?_) (fun h_7 => ?_)
  · exact absurd h_7 (by decide)
  · skip
    refine r_bipush (-2) d_Need_undo_10 bp_m2 ?_
    refine r_iret rfl d_Need_undo_12 ?_
    exact ⟨rfl, rfl⟩

set_option maxHeartbeats 1000000 in
theorem c0_Need_undo {f : SN} {p : Nat} (h1 : len ≤ 60) (h2 : M 0 11 = nI len) (h3 : M 0 12 = ask) (h4 : M 0 13 = trp) (h5 : NW n z tp nd ld ak mc C Q V M) (a1 : p < 10) (a2 : M 101 4 = nI p) (a3 : M 101 5 = nI (l.length + 1)) (a4 : l.length < 10) (a5 : UND f l ((p + 9) % 10) M) (h8 : IMGS K M) (hk0 : M 103 p = 0) {k : Nat} (hpl : M 105 p = nI k) (hk : k < n) (hr : M 19 k ≠ -9) {z2 nd2 ld2 ak2 : Nat → Nat} {tp2 : Nat → Bool} {C2 : Nat → Nat → Nat} {Q2 : nP} {V2 : Nat → Nat} (hg2 : GS n (xa (k + 1 - z k) (z (k - 1 - z (k - 1))) (z (k - 1)) (M 13)) (xa (k + 1 - z k) (z (k - 1 - z (k - 1))) (z (k - 1)) (M 15)) (upd (xb (k + 1 - z k) (z (k - 1 - z (k - 1))) (z (k - 1)) (M 17)) k (nI (k - 1 - (z (k - 1 - z (k - 1)))))) (upd (xb (k + 1 - z k) (z (k - 1 - z (k - 1))) (z (k - 1)) (M 19)) k (nI (k - 1))) z2 tp2 nd2 ld2 ak2 mc C2 Q2) (hV2 : VS n mc (xa (k + 1 - z k) (z (k - 1 - z (k - 1))) (z (k - 1)) (M 13)) (upd (xb (k + 1 - z k) (z (k - 1 - z (k - 1))) (z (k - 1)) (M 17)) k (nI (k - 1 - (z (k - 1 - z (k - 1)))))) (upd (xb (k + 1 - z k) (z (k - 1 - z (k - 1))) (z (k - 1)) (M 19)) k (nI (k - 1))) z2 tp2 ak2 V2) (hs2 : MS n (xa (k + 1 - z k) (z (k - 1 - z (k - 1))) (z (k - 1)) (M 13)) (xa (k + 1 - z k) (z (k - 1 - z (k - 1))) (z (k - 1)) (M 15)) (upd (xb (k + 1 - z k) (z (k - 1 - z (k - 1))) (z (k - 1)) (M 17)) k (nI (k - 1 - (z (k - 1 - z (k - 1)))))) (upd (xb (k + 1 - z k) (z (k - 1 - z (k - 1))) (z (k - 1)) (M 19)) k (nI (k - 1))) (M 31) mc f) : CJ G LC m_Need_undo 7 [.ref (G.2.2 0)] M (fun v N => v = some (.int (nI l.length)) ∧ N 2 = M 2 ∧ CRg n z2 tp2 nd2 ld2 ak2 mc C2 Q2 V2 len f l K ask trp N) := by
  refine CJ_of2 (n0 := 1) (by decide) rfl rfl ?_
  simp only [List.map_cons, List.map_nil, List.cons_append, List.nil_append, List.reduceReplicate]
  refine r_aload_n (i := 0) d_Need_undo_0 rfl rfl ?_
  refine r_getr nf_Need_48 lc_0 rfl d_Need_undo_1 ?_
  refine r_gx nf_Need_231 lc_101 rfl (a3) d_Need_undo_4 ?_
  refine r_if_ne 13 d_Need_undo_7 (by decide) (fun h_7 => ?_) (fun h_7 => ?_)
  · skip
    refine r_aload_n (i := 0) d_Need_undo_13 rfl rfl ?_
    refine r_getr nf_Need_48 lc_0 rfl d_Need_undo_14 ?_
    refine r_V0 v_Acts_latestKind w_759 lc_101 (CF_eq (c_Acts_latestKind p a1 M a2) (show _ = some (Value.int 0) by rw [hk0]) rfl) (Nat.le_of_ble_eq_true rfl) (Nat.le_of_ble_eq_true rfl) d_Need_undo_17 ?_
    refine r_istore_n (i := 1) d_Need_undo_20 rfl (Nat.le_of_ble_eq_true rfl) rfl ?_
    dsimp only [List.set]
    refine r_iload_n (i := 1) d_Need_undo_21 rfl rfl ?_
    refine r_if_ne 53 d_Need_undo_22 (by decide) (fun h_22 => ?_) (fun h_22 => ?_)
    · exact absurd h_22 (by decide)
    · skip
      refine r_aload_n (i := 0) d_Need_undo_25 rfl rfl ?_
      refine r_getr nf_Need_28 lc_0 rfl d_Need_undo_26 ?_
      refine r_getr nf_Need_101 image_10.1 rfl d_Need_undo_29 ?_
      refine r_aload_n (i := 0) d_Need_undo_32 rfl rfl ?_
      refine r_getr nf_Need_48 lc_0 rfl d_Need_undo_33 ?_
      refine r_V0 v_Acts_latestPlace w_763 lc_101 (CF_eq (c_Acts_latestPlace p a1 M a2) (show _ = some (Value.int (nI k)) by rw [hpl]) rfl) (Nat.le_of_ble_eq_true rfl) (Nat.le_of_ble_eq_true rfl) d_Need_undo_36 ?_
      refine r_aload_n (i := 0) d_Need_undo_39 rfl rfl ?_
      refine r_getr nf_Need_41 lc_0 rfl d_Need_undo_40 ?_
      refine r_W2 v_Tree_turn w_721 (isImage.tree image_10).1 (c2_turn h5.1 hk hr hg2.1) (Nat.le_of_ble_eq_true rfl) (Nat.le_of_ble_eq_true rfl) d_Need_undo_43 (fun v N2 hv => ?_)
      obtain ⟨rfl, hTT⟩ := hv
      obtain ⟨t1, t2, t3, t4, t5, t6⟩ := TT.td h5.1.size hTT hg2.1
      have hS2 : GS n (N2 13) (N2 15) (N2 17) (N2 19) z2 tp2 nd2 ld2 ak2 mc C2 Q2 := by rw [t2, t3, t4, t5]; exact hg2
      have hW2 : VS n mc (N2 13) (N2 17) (N2 19) z2 tp2 ak2 V2 := by rw [t2, t4, t5]; exact hV2
      refine r_aload_n (i := 0) d_Need_undo_46 rfl rfl ?_
      refine r_W0 v_Need_refresh w_512 lc_0 (c_Need_refresh (n := n) (mc := mc) t1 hS2 (fun j hj => by rw [t6 33 (by decide)]; exact h5.1.2.2.1 j hj) hW2) (Nat.le_of_ble_eq_true rfl) (Nat.le_of_ble_eq_true rfl) d_Need_undo_47 (fun v N3 hv => ?_)
      obtain ⟨rfl, k1, k2⟩ := hv
      have q : ∀ e, (e < 11 ∨ (29 < e ∧ e < 82) ∨ (100 < e ∧ e ≤ 109)) → N3 e = M e := fun e he => (k1 e (by omega)).trans (t6 e (by omega))
      refine r_goto 103 d_Need_undo_50 (by decide) ?_
      refine r_aload_n (i := 0) d_Need_undo_103 rfl rfl ?_
      refine r_getr nf_Need_48 lc_0 rfl d_Need_undo_104 ?_
      refine r_V0 v_Acts_drop w_775 lc_101 (c_Acts_drop p l.length a1 N3 (by rw [q 101 (by decide)]; exact a2) (by rw [q 101 (by decide)]; exact a3)) (Nat.le_of_ble_eq_true rfl) (Nat.le_of_ble_eq_true rfl) d_Need_undo_107 ?_
      have hd9 : ∀ e, e ≠ 101 → (ms N3 101 (upd (upd (N3 101) 4 (nI ((p + 9) % 10))) 5 (nI l.length))) e = N3 e := fun e he => ms_ne _ _ he
      have hd1 : (ms N3 101 (upd (upd (N3 101) 4 (nI ((p + 9) % 10))) 5 (nI l.length))) 101 4 = nI ((p + 9) % 10) := by rw [ms_same, upd_ne _ _ (by decide), upd_at]
      have hd2 : (ms N3 101 (upd (upd (N3 101) 4 (nI ((p + 9) % 10))) 5 (nI l.length))) 101 5 = nI l.length := by rw [ms_same, upd_at]
      generalize ms N3 101 (upd (upd (N3 101) 4 (nI ((p + 9) % 10))) 5 (nI l.length)) = N9 at *
      have hac : AC f l N9 := ⟨(p + 9) % 10, by omega, hd1, hd2, by omega, UND.cong (M := M) (r := 10) (fun i _ _ => by rw [hd9 103 (by decide), hd9 105 (by decide), hd9 107 (by decide), hd9 109 (by decide), q 103 (by decide), q 105 (by decide), q 107 (by decide), q 109 (by decide)]; exact ⟨rfl, rfl, rfl, fun _ _ => rfl⟩) l f _ (by omega) (fun i _ => by omega) a5⟩
      have r0 : N9 0 = M 0 := (hd9 0 (by decide)).trans (q 0 (by decide))
      
      refine r_aload_n (i := 0) d_Need_undo_110 rfl rfl ?_
      refine r_getr nf_Need_48 lc_0 rfl d_Need_undo_111 ?_
      refine r_gx nf_Need_231 lc_101 rfl (hd2) d_Need_undo_114 ?_
      refine r_iret rfl d_Need_undo_117 ?_
      refine ⟨rfl, (hd9 2 (by decide)).trans (q 2 (by decide)), h1, by rw [r0]; exact h2, by rw [r0]; exact h3, by rw [r0]; exact h4, k2.keep2 (fun e he => hd9 e (by omega)), ?_, hac, h8.keep (fun e e1 e2 => (hd9 e (by omega)).trans (q e (by omega)))⟩
      rw [hd9 13 (by decide), hd9 15 (by decide), hd9 17 (by decide), hd9 19 (by decide), hd9 31 (by decide), k1 13 (by decide), k1 15 (by decide), k1 17 (by decide), k1 19 (by decide), q 31 (by decide), t2, t3, t4, t5]
      exact hs2
  · skip
    exact absurd h_7 (fun e => by have := (nI_eq (a := l.length + 1) (b := 0) (by omega) (by omega)).mp e; omega)

set_option maxHeartbeats 1000000 in
theorem c1_Need_undo {f : SN} {p : Nat} (h1 : len ≤ 60) (h2 : M 0 11 = nI len) (h3 : M 0 12 = ask) (h4 : M 0 13 = trp) (h5 : NW n z tp nd ld ak mc C Q V M) (a1 : p < 10) (a2 : M 101 4 = nI p) (a3 : M 101 5 = nI (l.length + 1)) (a4 : l.length < 10) (a5 : UND f l ((p + 9) % 10) M) (h8 : IMGS K M) (hk0 : M 103 p = 1) {j : Nat} {x : Int32} (hj : j < 8) (hpl : M 105 p = nI j) (hnu : M 107 p = f (125 + j)) (h6 : MS n (M 13) (M 15) (M 17) (M 19) (M 31) mc (upd f (125 + j) x)) : CJ G LC m_Need_undo 7 [.ref (G.2.2 0)] M (fun v N => v = some (.int (nI l.length)) ∧ N 2 = M 2 ∧ CRg n z tp nd ld ak mc C Q V len f l K ask trp N) := by
  refine CJ_of2 (n0 := 1) (by decide) rfl rfl ?_
  simp only [List.map_cons, List.map_nil, List.cons_append, List.nil_append, List.reduceReplicate]
  refine r_aload_n (i := 0) d_Need_undo_0 rfl rfl ?_
  refine r_getr nf_Need_48 lc_0 rfl d_Need_undo_1 ?_
  refine r_gx nf_Need_231 lc_101 rfl (a3) d_Need_undo_4 ?_
  refine r_if_ne 13 d_Need_undo_7 (by decide) (fun h_7 => ?_) (fun h_7 => ?_)
  · skip
    refine r_aload_n (i := 0) d_Need_undo_13 rfl rfl ?_
    refine r_getr nf_Need_48 lc_0 rfl d_Need_undo_14 ?_
    refine r_V0 v_Acts_latestKind w_759 lc_101 (CF_eq (c_Acts_latestKind p a1 M a2) (show _ = some (Value.int 1) by rw [hk0]) rfl) (Nat.le_of_ble_eq_true rfl) (Nat.le_of_ble_eq_true rfl) d_Need_undo_17 ?_
    refine r_istore_n (i := 1) d_Need_undo_20 rfl (Nat.le_of_ble_eq_true rfl) rfl ?_
    dsimp only [List.set]
    refine r_iload_n (i := 1) d_Need_undo_21 rfl rfl ?_
    refine r_if_ne 53 d_Need_undo_22 (by decide) (fun h_22 => ?_) (fun h_22 => ?_)
    · skip
      refine r_iload_n (i := 1) d_Need_undo_53 rfl rfl ?_
      refine r_iconst 1 d_Need_undo_54 ic_1 ?_
      refine r_icmp_ne 85 d_Need_undo_55 (by decide) (fun h_55 => ?_) (fun h_55 => ?_)
      · exact absurd h_55 (by decide)
      · skip
        refine r_aload_n (i := 0) d_Need_undo_58 rfl rfl ?_
        refine r_getr nf_Need_28 lc_0 rfl d_Need_undo_59 ?_
        refine r_getr nf_Need_156 image_10.1 rfl d_Need_undo_62 ?_
        refine r_aload_n (i := 0) d_Need_undo_65 rfl rfl ?_
        refine r_getr nf_Need_48 lc_0 rfl d_Need_undo_66 ?_
        refine r_V0 v_Acts_latestPlace w_763 lc_101 (CF_eq (c_Acts_latestPlace p a1 M a2) (show _ = some (Value.int (nI j)) by rw [hpl]) rfl) (Nat.le_of_ble_eq_true rfl) (Nat.le_of_ble_eq_true rfl) d_Need_undo_69 ?_
        refine r_aload_n (i := 0) d_Need_undo_72 rfl rfl ?_
        refine r_getr nf_Need_48 lc_0 rfl d_Need_undo_73 ?_
        refine r_V0 v_Acts_latestNumber w_767 lc_101 (CF_eq (c_Acts_latestNumber p a1 M a2) (show _ = some (Value.int (f (125 + j))) by rw [hnu]) rfl) (Nat.le_of_ble_eq_true rfl) (Nat.le_of_ble_eq_true rfl) d_Need_undo_76 ?_
        refine r_W2 v_Row_put w_303 (isImage.names image_10).1 (CF_eq (c_Row_put image_10.names _ _ _) rfl (show _ = ms M 31 (upd (M 31) j (f (125 + j))) by rw [rp_nI _ _ (by omega) (by decide)])) (Nat.le_of_ble_eq_true rfl) (Nat.le_of_ble_eq_true rfl) d_Need_undo_79 (fun v N3 hv => ?_)
        obtain ⟨rfl, hN3⟩ := hv
        have q : ∀ e, e ≠ 31 → N3 e = M e := fun e he => by rw [hN3, ms_ne _ _ he]
        have q31 : N3 31 = upd (M 31) j (f (125 + j)) := by rw [hN3, ms_same]
        clear hN3
        refine r_goto 103 d_Need_undo_82 (by decide) ?_
        refine r_aload_n (i := 0) d_Need_undo_103 rfl rfl ?_
        refine r_getr nf_Need_48 lc_0 rfl d_Need_undo_104 ?_
        refine r_V0 v_Acts_drop w_775 lc_101 (c_Acts_drop p l.length a1 N3 (by rw [q 101 (by decide)]; exact a2) (by rw [q 101 (by decide)]; exact a3)) (Nat.le_of_ble_eq_true rfl) (Nat.le_of_ble_eq_true rfl) d_Need_undo_107 ?_
        have hd9 : ∀ e, e ≠ 101 → (ms N3 101 (upd (upd (N3 101) 4 (nI ((p + 9) % 10))) 5 (nI l.length))) e = N3 e := fun e he => ms_ne _ _ he
        have hd1 : (ms N3 101 (upd (upd (N3 101) 4 (nI ((p + 9) % 10))) 5 (nI l.length))) 101 4 = nI ((p + 9) % 10) := by rw [ms_same, upd_ne _ _ (by decide), upd_at]
        have hd2 : (ms N3 101 (upd (upd (N3 101) 4 (nI ((p + 9) % 10))) 5 (nI l.length))) 101 5 = nI l.length := by rw [ms_same, upd_at]
        generalize ms N3 101 (upd (upd (N3 101) 4 (nI ((p + 9) % 10))) 5 (nI l.length)) = N9 at *
        have hac : AC f l N9 := ⟨(p + 9) % 10, by omega, hd1, hd2, by omega, UND.cong (M := M) (r := 10) (fun i _ _ => by rw [hd9 103 (by decide), hd9 105 (by decide), hd9 107 (by decide), hd9 109 (by decide), q 103 (by decide), q 105 (by decide), q 107 (by decide), q 109 (by decide)]; exact ⟨rfl, rfl, rfl, fun _ _ => rfl⟩) l f _ (by omega) (fun i _ => by omega) a5⟩
        have r0 : N9 0 = M 0 := (hd9 0 (by decide)).trans (q 0 (by decide))
        
        refine r_aload_n (i := 0) d_Need_undo_110 rfl rfl ?_
        refine r_getr nf_Need_48 lc_0 rfl d_Need_undo_111 ?_
        refine r_gx nf_Need_231 lc_101 rfl (hd2) d_Need_undo_114 ?_
        refine r_iret rfl d_Need_undo_117 ?_
        have hn := h5.1.n31
        refine ⟨rfl, (hd9 2 (by decide)).trans (q 2 (by decide)), h1, by rw [r0]; exact h2, by rw [r0]; exact h3, by rw [r0]; exact h4, h5.keep2 (fun e he => (hd9 e (by omega)).trans (q e (by omega))), ?_, hac, h8.keep (fun e e1 e2 => (hd9 e (by omega)).trans (q e (by omega)))⟩
        rw [hd9 13 (by decide), hd9 15 (by decide), hd9 17 (by decide), hd9 19 (by decide), hd9 31 (by decide), q 13 (by decide), q 15 (by decide), q 17 (by decide), q 19 (by decide), q31]
        refine ⟨by have := h6.1; rw [upd_ne _ _ (by omega)] at this; exact this, fun i hi => ?_, fun i hi => ?_, fun i hi => by have := h6.gmc hi; rw [upd_ne _ _ (by omega)] at this; exact this⟩
        · have := h6.2.1 i hi
          rw [upd_ne _ _ (by omega), upd_ne _ _ (by omega), upd_ne _ _ (by omega), upd_ne _ _ (by omega)] at this
          exact this
        · by_cases e : i = j
          · subst e; rw [upd_at]
          · have := h6.gnm hi
            rw [upd_ne _ _ (by omega)] at this
            rw [upd_ne _ _ e]; exact this
    · exact absurd h_22 (by decide)
  · skip
    exact absurd h_7 (fun e => by have := (nI_eq (a := l.length + 1) (b := 0) (by omega) (by omega)).mp e; omega)

set_option maxHeartbeats 1000000 in
theorem c2_Need_undo {f : SN} {p : Nat} (h1 : len ≤ 60) (h2 : M 0 11 = nI len) (h3 : M 0 12 = ask) (h4 : M 0 13 = trp) (h5 : NW n z tp nd ld ak mc C Q V M) (a1 : p < 10) (a2 : M 101 4 = nI p) (a3 : M 101 5 = nI (l.length + 1)) (a4 : l.length < 10) (a5 : UND f l ((p + 9) % 10) M) (h8 : IMGS K M) (hk0 : M 103 p = 2) {m mc0 : Nat → Nat} (hmo : MOK mc0) (hrow : ∀ j, j < 5 → f (133 + j) = nI (mc0 j) ∧ M 109 (p * 5 + j) = nI (mc0 j)) (h6 : MS n (M 13) (M 15) (M 17) (M 19) (M 31) mc (mcS f m)) {C2 : Nat → Nat → Nat} {Q2 : nP} {V2 : Nat → Nat} (hg2 : GS n (M 13) (M 15) (M 17) (M 19) z tp nd ld ak mc0 C2 Q2) (hV2 : VS n mc0 (M 13) (M 17) (M 19) z tp ak V2) : CJ G LC m_Need_undo 7 [.ref (G.2.2 0)] M (fun v N => v = some (.int (nI l.length)) ∧ N 2 = M 2 ∧ CRg n z tp nd ld ak mc0 C2 Q2 V2 len f l K ask trp N) := by
  refine CJ_of2 (n0 := 1) (by decide) rfl rfl ?_
  simp only [List.map_cons, List.map_nil, List.cons_append, List.nil_append, List.reduceReplicate]
  refine r_aload_n (i := 0) d_Need_undo_0 rfl rfl ?_
  refine r_getr nf_Need_48 lc_0 rfl d_Need_undo_1 ?_
  refine r_gx nf_Need_231 lc_101 rfl (a3) d_Need_undo_4 ?_
  refine r_if_ne 13 d_Need_undo_7 (by decide) (fun h_7 => ?_) (fun h_7 => ?_)
  · skip
    refine r_aload_n (i := 0) d_Need_undo_13 rfl rfl ?_
    refine r_getr nf_Need_48 lc_0 rfl d_Need_undo_14 ?_
    refine r_V0 v_Acts_latestKind w_759 lc_101 (CF_eq (c_Acts_latestKind p a1 M a2) (show _ = some (Value.int 2) by rw [hk0]) rfl) (Nat.le_of_ble_eq_true rfl) (Nat.le_of_ble_eq_true rfl) d_Need_undo_17 ?_
    refine r_istore_n (i := 1) d_Need_undo_20 rfl (Nat.le_of_ble_eq_true rfl) rfl ?_
    dsimp only [List.set]
    refine r_iload_n (i := 1) d_Need_undo_21 rfl rfl ?_
    refine r_if_ne 53 d_Need_undo_22 (by decide) (fun h_22 => ?_) (fun h_22 => ?_)
    · skip
      refine r_iload_n (i := 1) d_Need_undo_53 rfl rfl ?_
      refine r_iconst 1 d_Need_undo_54 ic_1 ?_
      refine r_icmp_ne 85 d_Need_undo_55 (by decide) (fun h_55 => ?_) (fun h_55 => ?_)
      · skip
        refine r_aload_n (i := 0) d_Need_undo_85 rfl rfl ?_
        refine r_getr nf_Need_48 lc_0 rfl d_Need_undo_86 ?_
        refine r_aload_n (i := 0) d_Need_undo_89 rfl rfl ?_
        refine r_getr nf_Need_28 lc_0 rfl d_Need_undo_90 ?_
        refine r_getr nf_Need_84 image_10.1 rfl d_Need_undo_93 ?_
        refine r_W1 v_Acts_tellMachine w_771 lc_101 (c_Acts_tellMachine image_10.machine (by decide) p a1 M a2) (Nat.le_of_ble_eq_true rfl) (Nat.le_of_ble_eq_true rfl) d_Need_undo_96 (fun v N2 hv => ?_)
        obtain ⟨rfl, hN2⟩ := hv
        have t6 : ∀ e, e ≠ 33 → N2 e = M e := fun e he => by rw [hN2, ms_ne _ _ he]
        have t33 : ∀ j, j < 5 → N2 33 j = nI (mc0 j) := fun j hj => by
          rw [hN2, ms_same]
          unfold pt
          rw [if_pos (by omega)]
          exact (hrow j hj).2
        clear hN2
        have t1 : TD 11 n z tp nd ld ak N2 := h5.1.1.cong (fun e e1 e2 => t6 e (by omega))
        have hS2 : GS n (N2 13) (N2 15) (N2 17) (N2 19) z tp nd ld ak mc0 C2 Q2 := by rw [t6 13 (by decide), t6 15 (by decide), t6 17 (by decide), t6 19 (by decide)]; exact hg2
        have hW2 : VS n mc0 (N2 13) (N2 17) (N2 19) z tp ak V2 := by rw [t6 13 (by decide), t6 17 (by decide), t6 19 (by decide)]; exact hV2
        refine r_aload_n (i := 0) d_Need_undo_99 rfl rfl ?_
        refine r_W0 v_Need_refresh w_512 lc_0 (c_Need_refresh (n := n) (mc := mc0) t1 hS2 t33 hW2) (Nat.le_of_ble_eq_true rfl) (Nat.le_of_ble_eq_true rfl) d_Need_undo_100 (fun v N3 hv => ?_)
        obtain ⟨rfl, k1, k2⟩ := hv
        have q : ∀ e, (e < 33 ∨ (33 < e ∧ e ≤ 109)) → N3 e = M e := fun e he => (k1 e (by omega)).trans (t6 e (by omega))
        refine r_aload_n (i := 0) d_Need_undo_103 rfl rfl ?_
        refine r_getr nf_Need_48 lc_0 rfl d_Need_undo_104 ?_
        refine r_V0 v_Acts_drop w_775 lc_101 (c_Acts_drop p l.length a1 N3 (by rw [q 101 (by decide)]; exact a2) (by rw [q 101 (by decide)]; exact a3)) (Nat.le_of_ble_eq_true rfl) (Nat.le_of_ble_eq_true rfl) d_Need_undo_107 ?_
        have hd9 : ∀ e, e ≠ 101 → (ms N3 101 (upd (upd (N3 101) 4 (nI ((p + 9) % 10))) 5 (nI l.length))) e = N3 e := fun e he => ms_ne _ _ he
        have hd1 : (ms N3 101 (upd (upd (N3 101) 4 (nI ((p + 9) % 10))) 5 (nI l.length))) 101 4 = nI ((p + 9) % 10) := by rw [ms_same, upd_ne _ _ (by decide), upd_at]
        have hd2 : (ms N3 101 (upd (upd (N3 101) 4 (nI ((p + 9) % 10))) 5 (nI l.length))) 101 5 = nI l.length := by rw [ms_same, upd_at]
        generalize ms N3 101 (upd (upd (N3 101) 4 (nI ((p + 9) % 10))) 5 (nI l.length)) = N9 at *
        have hac : AC f l N9 := ⟨(p + 9) % 10, by omega, hd1, hd2, by omega, UND.cong (M := M) (r := 10) (fun i _ _ => by rw [hd9 103 (by decide), hd9 105 (by decide), hd9 107 (by decide), hd9 109 (by decide), q 103 (by decide), q 105 (by decide), q 107 (by decide), q 109 (by decide)]; exact ⟨rfl, rfl, rfl, fun _ _ => rfl⟩) l f _ (by omega) (fun i _ => by omega) a5⟩
        have r0 : N9 0 = M 0 := (hd9 0 (by decide)).trans (q 0 (by decide))
        
        refine r_aload_n (i := 0) d_Need_undo_110 rfl rfl ?_
        refine r_getr nf_Need_48 lc_0 rfl d_Need_undo_111 ?_
        refine r_gx nf_Need_231 lc_101 rfl (hd2) d_Need_undo_114 ?_
        refine r_iret rfl d_Need_undo_117 ?_
        have hn := h5.1.n31
        refine ⟨rfl, (hd9 2 (by decide)).trans (q 2 (by decide)), h1, by rw [r0]; exact h2, by rw [r0]; exact h3, by rw [r0]; exact h4, k2.keep2 (fun e he => hd9 e (by omega)), ?_, hac, h8.keep (fun e e1 e2 => (hd9 e (by omega)).trans (q e (by omega)))⟩
        rw [hd9 13 (by decide), hd9 15 (by decide), hd9 17 (by decide), hd9 19 (by decide), hd9 31 (by decide), q 13 (by decide), q 15 (by decide), q 17 (by decide), q 19 (by decide), q 31 (by decide)]
        refine ⟨by have := h6.1; rw [mcS_lo _ _ (by omega)] at this; exact this, fun i hi => ?_, fun i hi => by have := h6.gnm hi; rw [mcS_lo _ _ (by omega)] at this; exact this, fun i hi => (hrow i hi).1⟩
        have := h6.2.1 i hi
        rw [mcS_lo _ _ (by omega), mcS_lo _ _ (by omega), mcS_lo _ _ (by omega), mcS_lo _ _ (by omega)] at this
        exact this
      · exact absurd h_55 (by decide)
    · exact absurd h_22 (by decide)
  · skip
    exact absurd h_7 (fun e => by have := (nI_eq (a := l.length + 1) (b := 0) (by omega) (by omega)).mp e; omega)

end NN5
