-- Reader: settle
section MRdr2
variable {G : nw_G}
theorem stl_f {g : Int32} {m : Int32 × Nat} {r : MK} {pr : List Nat} {T : AT} {f : Nat} (h : ¬ o_grip m.1 < g) (hd : doit m.1 m.2 pr T = .inl f) : stl g (m :: r) pr T = .inl f := by rw [stl, if_neg h, hd]
theorem stl_s {g : Int32} {m : Int32 × Nat} {r : MK} {pr : List Nat} {T : AT} {w : List Nat × AT} (h : ¬ o_grip m.1 < g) (hd : doit m.1 m.2 pr T = .inr w) : stl g (m :: r) pr T = stl g r w.1 w.2 := by rw [stl, if_neg h, hd]
theorem RP_c {m : Int32 × Nat} {r : MK} {pr : List Nat} {T : AT} {M : nw_M} (h : RP (m :: r) pr T M) : RP r pr T (ms M 3 (upd (M 3) 3 (nI r.length))) := by
  obtain ⟨a1, a2, a3, a4, a5, a6, a7⟩ := h
  refine ⟨?_, ?_, ?_, ?_, ?_, ?_, fun j hj => ?_⟩
  · simp (disch := omega) only [ms_same, upd_at]
  · simp (disch := omega) only [ms_same, upd_ne]; exact a2
  · simp (disch := omega) only [ms_ne]; exact a3.2
  · simp (disch := omega) only [ms_ne]; exact a4.2
  · simp (disch := omega) only [ms_ne]; exact a5
  · simp (disch := omega) only [ms_ne]; exact a6
  · simp (disch := omega) only [ms_ne]; exact a7 j hj
theorem RP_p {mk : MK} {x : Nat} {q : List Nat} {T : AT} {M : nw_M} (h : RP mk (x :: q) T M) : RP mk q T (ms M 3 (upd (M 3) 4 (nI q.length))) := by
  obtain ⟨a1, a2, a3, a4, a5, a6, a7⟩ := h
  refine ⟨?_, ?_, ?_, ?_, ?_, ?_, fun j hj => ?_⟩
  · simp (disch := omega) only [ms_same, upd_ne]; exact a1
  · simp (disch := omega) only [ms_same, upd_at]
  · simp (disch := omega) only [ms_ne]; exact a3
  · simp (disch := omega) only [ms_ne]; exact a4
  · simp (disch := omega) only [ms_ne]; exact a5.2
  · simp (disch := omega) only [ms_ne]; exact a6
  · simp (disch := omega) only [ms_ne]; exact a7 j hj
/-- a step that changes a count alone -/
theorem RS_s {M0 M : nw_M} {s : Nat} {v : Int32} (hs : s = 3 ∨ s = 4) (hF : RF M0 M) (hK : RK M0 M) (h6 : M 3 6 = -9) : RF M0 (ms M 3 (upd (M 3) s v)) ∧ RK M0 (ms M 3 (upd (M 3) s v)) ∧ (ms M 3 (upd (M 3) s v)) 3 6 = -9 := by
  obtain ⟨k1, k2, k3⟩ := hK
  refine ⟨fun e e1 e2 e3 e4 e5 e6 e7 e8 e9 => by simp (disch := omega) only [ms_ne]; exact hF e e1 e2 e3 e4 e5 e6 e7 e8 e9, ⟨?_, ?_, ?_⟩, ?_⟩
  · simp (disch := omega) only [ms_same, upd_ne]; exact k1
  · simp (disch := omega) only [ms_same, upd_ne]; exact k2
  · simp (disch := omega) only [ms_same, upd_ne]; exact k3
  · simp (disch := omega) only [ms_same, upd_ne]; exact h6
theorem l_Reader_settleF {g : Int32} {M : nw_M} {f : Nat} (hf : f < 60) (h6 : M 3 6 = nI f) {P : Option Value → nw_M → Prop} (hP : P none M) (o3 o4 o5 o6 : Option Value) : RJ G LC m_Reader_settle 3 P 0 [some (.ref (G.2.2 3)), some (.int g), some (.ref (G.2.2 82)), o3, o4, o5, o6] [] M := by
  refine r_aload_n (i := 0) d_Reader_settle_0 rfl rfl ?_
  refine r_geti nf_Reader_26 lc_3 rfl d_Reader_settle_1 ?_
  refine r_if_le 121 d_Reader_settle_4 (by decide) (fun h_4 => ?_) (fun h_4 => ?_)
  · skip
    exact r_vret rfl d_Reader_settle_121 hP
  · skip
    refine r_aload_n (i := 0) d_Reader_settle_7 rfl rfl ?_
    refine r_geti nf_Reader_36 lc_3 rfl d_Reader_settle_8 ?_
    refine r_bipush (-9) d_Reader_settle_11 bp_m9 ?_
    refine r_icmp_ne 121 d_Reader_settle_13 (by decide) (fun h_13 => ?_) (fun h_13 => ?_)
    · skip
      exact r_vret rfl d_Reader_settle_121 hP
    · skip
      exact absurd (h_13.symm.trans h6) (by exact fun e => nI_ne9 (k := f) (by omega) e.symm)

set_option maxHeartbeats 2000000 in
theorem l_Reader_settle {len : Nat} (hlen : len ≤ 60) {g : Int32} (hg : 0 < g) {M0 : nw_M} {mk0 : MK} {pr0 : List Nat} {T0 : AT} {P : Option Value → nw_M → Prop} (hP : ∀ N, RF M0 N → RK M0 N → ((∃ f, stl g mk0 pr0 T0 = .inl f ∧ f < len ∧ N 3 6 = nI f) ∨ ∃ w, stl g mk0 pr0 T0 = .inr w ∧ N 3 6 = -9 ∧ RP w.1 w.2.1 w.2.2 N) → P none N) : ∀ (mk : MK) (pr : List Nat) (T : AT) (o3 o4 o5 o6 : Option Value) (M : nw_M), stl g mk0 pr0 T0 = stl g mk pr T → (∀ m ∈ mk, mkOK m ∧ m.2 < len) → mk.length ≤ 60 → pr.length = nb mk + 1 → TOK pr T → RF M0 M → RK M0 M → M 3 6 = -9 → RP mk pr T M → RJ G LC m_Reader_settle 3 P 0 [some (.ref (G.2.2 3)), some (.int g), some (.ref (G.2.2 82)), o3, o4, o5, o6] [] M := by
  intro mk
  induction mk with
  | nil =>
    intro pr T o3 o4 o5 o6 M hst hm hml hpl hT hF hK h6 hR
    refine r_aload_n (i := 0) d_Reader_settle_0 rfl rfl ?_
    refine r_geti nf_Reader_26 lc_3 rfl d_Reader_settle_1 ?_
    rw [hR.1]
    refine r_if_le 121 d_Reader_settle_4 (by decide) (fun _ => ?_) (fun h => absurd (show nI 0 ≤ 0 by decide) h)
    exact r_vret rfl d_Reader_settle_121 (hP M hF hK (Or.inr ⟨([], pr, T), hst, h6, hR⟩))
  | cons m r ih =>
    intro pr T o3 o4 o5 o6 M hst hm hml hpl hT hF hK h6 hR
    have a1 := hR.1
    simp only [List.length_cons] at a1 hml
    have hT31 := hT.1.1
    have hpn := tok_len hT
    have hm1 := hm m List.mem_cons_self
    have hmr : ∀ m' ∈ r, mkOK m' ∧ m'.2 < len := fun m' h => hm m' (List.mem_cons_of_mem _ h)
    have e5 : M 5 r.length = m.1 := by have := hR.2.2.1.1; rwa [List.length_map] at this
    have e7 : M 7 r.length = nI m.2 := by have := hR.2.2.2.1.1; rwa [List.length_map] at this
    obtain ⟨x, q0, rfl⟩ : ∃ x q0, pr = x :: q0 := by
      cases pr with
      | nil => simp at hpl
      | cons x q0 => exact ⟨x, q0, rfl⟩
    have hRa := RP_c hR
    have hS1 := RS_s (v := nI r.length) (Or.inl rfl) hF hK h6
    have hRb := RP_p hRa
    have hS2 := RS_s (v := nI q0.length) (Or.inr rfl) hS1.1 hS1.2.1 hS1.2.2
    refine r_aload_n (i := 0) d_Reader_settle_0 rfl rfl ?_
    refine r_geti nf_Reader_26 lc_3 rfl d_Reader_settle_1 ?_
    rw [a1]
    refine r_if_le 121 d_Reader_settle_4 (by decide) (fun h_4 => ?_) (fun h_4 => ?_)
    · skip
      exact absurd h_4 (nI_nle (by omega) (by omega))
    · skip
      refine r_aload_n (i := 0) d_Reader_settle_7 rfl rfl ?_
      refine r_geti nf_Reader_36 lc_3 rfl d_Reader_settle_8 ?_
      refine r_bipush (-9) d_Reader_settle_11 bp_m9 ?_
      refine r_icmp_ne 121 d_Reader_settle_13 (by decide) (fun h_13 => ?_) (fun h_13 => ?_)
      · skip
        exact absurd h6 h_13
      · skip
        refine r_aload_n (i := 0) d_Reader_settle_16 rfl rfl ?_
        refine r_getr nf_Reader_14 lc_3 rfl d_Reader_settle_17 ?_
        refine r_aload_n (i := 0) d_Reader_settle_20 rfl rfl ?_
        refine r_geti nf_Reader_26 lc_3 rfl d_Reader_settle_21 ?_
        refine r_iconst 1 d_Reader_settle_24 ic_1 ?_
        refine r_isub d_Reader_settle_25 ?_
        rw [a1, nI_pred]
        refine r_V1 v_Row_get w_370 row_4.1 (c2_Row_get row_4 (by omega) e5) (Nat.le_of_ble_eq_true rfl) (Nat.le_of_ble_eq_true rfl) d_Reader_settle_26 ?_
        refine r_S1 f_Ops_grip w_421 (c_Ops_grip _ _ ) (Nat.le_of_ble_eq_true rfl) (Nat.le_of_ble_eq_true rfl) d_Reader_settle_29 ?_
        refine r_iload_n (i := 1) d_Reader_settle_32 rfl rfl ?_
        refine r_icmp_lt 121 d_Reader_settle_33 (by decide) (fun h_33 => ?_) (fun h_33 => ?_)
        · skip
          refine r_vret rfl d_Reader_settle_121 (hP M hF hK (Or.inr ⟨(m :: r, x :: q0, T), ?_, h6, hR⟩))
          rw [hst, stl, if_pos h_33]
        · skip
          have e40 : m.1 ≠ 40 := by
            intro e
            rw [e] at h_33
            exact h_33 (show o_grip 40 < g from hg)
          refine r_aload_n (i := 0) d_Reader_settle_36 rfl rfl ?_
          refine r_dup d_Reader_settle_37 rfl ?_
          refine r_geti nf_Reader_26 lc_3 rfl d_Reader_settle_38 ?_
          refine r_iconst 1 d_Reader_settle_41 ic_1 ?_
          refine r_isub d_Reader_settle_42 ?_
          rw [a1, nI_pred]
          refine r_puti nf_Reader_26 nfin_Reader_3 lc_3 rfl d_Reader_settle_43 ?_
          refine r_aload_n (i := 0) d_Reader_settle_46 rfl rfl ?_
          refine r_getr nf_Reader_14 lc_3 rfl d_Reader_settle_47 ?_
          refine r_aload_n (i := 0) d_Reader_settle_50 rfl rfl ?_
          refine r_geti nf_Reader_26 lc_3 rfl d_Reader_settle_51 ?_
          rw [show (ms M 3 (upd (M 3) 3 (nI r.length))) 3 3 = nI r.length from hRa.1]
          refine r_V1 v_Row_get w_370 row_4.1 (c2_Row_get row_4 (by omega) (show (ms M 3 (upd (M 3) 3 (nI r.length))) 5 r.length = m.1 by simp (disch := omega) only [ms_ne]; exact e5)) (Nat.le_of_ble_eq_true rfl) (Nat.le_of_ble_eq_true rfl) d_Reader_settle_54 ?_
          refine r_istore_n (i := 3) d_Reader_settle_57 rfl (Nat.le_of_ble_eq_true rfl) rfl ?_
          dsimp only [List.set]
          refine r_aload_n (i := 0) d_Reader_settle_58 rfl rfl ?_
          refine r_W0 v_Reader_takeOff w_430 lc_3 (c_Reader_takeOff hRa (by simp only [List.length_cons] at hpn; omega)) (Nat.le_of_ble_eq_true rfl) (Nat.le_of_ble_eq_true rfl) d_Reader_settle_59 (fun v N1 hv1 => ?_)
          obtain ⟨rfl, rfl⟩ := hv1
          refine r_istore d_Reader_settle_62 (Nat.le_of_ble_eq_true rfl) rfl ?_
          dsimp only [List.set]
          refine r_iload_n (i := 3) d_Reader_settle_64 rfl rfl ?_
          refine r_bipush 126 d_Reader_settle_65 bp_126 ?_
          refine r_icmp_ne 75 d_Reader_settle_67 (by decide) (fun h_67 => ?_) (fun h_67 => ?_)
          · skip
            have en : nb (m :: r) = nb r + 1 := by rw [nb, if_neg (fun e => e.elim e40 h_67)]
            have hbin : o_bin m.1 = true := hm1.1.elim (fun e => absurd e e40) (fun e => e.elim (fun e => absurd e h_67) id)
            obtain ⟨y, q1, rfl⟩ : ∃ y q1, q0 = y :: q1 := by
              cases q0 with
              | nil => rw [en] at hpl; simp at hpl
              | cons y q1 => exact ⟨y, q1, rfl⟩
            have hRc := RP_p hRb
            have hS3 := RS_s (v := nI q1.length) (Or.inr rfl) hS2.1 hS2.2.1 hS2.2.2
            refine r_aload_n (i := 0) d_Reader_settle_75 rfl rfl ?_
            refine r_W0 v_Reader_takeOff w_430 lc_3 (c_Reader_takeOff hRb (by simp only [List.length_cons] at hpn; omega)) (Nat.le_of_ble_eq_true rfl) (Nat.le_of_ble_eq_true rfl) d_Reader_settle_76 (fun v N1 hv1 => ?_)
            obtain ⟨rfl, rfl⟩ := hv1
            refine r_istore d_Reader_settle_79 (Nat.le_of_ble_eq_true rfl) rfl ?_
            dsimp only [List.set]
            refine r_iload_n (i := 3) d_Reader_settle_81 rfl rfl ?_
            refine r_bipush 126 d_Reader_settle_82 bp_126 ?_
            refine r_icmp_ne 92 d_Reader_settle_84 (by decide) (fun h_84 => ?_) (fun h_84 => ?_)
            · skip
              refine r_iload d_Reader_settle_92 rfl ?_
              refine r_istore d_Reader_settle_94 (Nat.le_of_ble_eq_true rfl) rfl ?_
              dsimp only [List.set]
              refine r_aload_n (i := 0) d_Reader_settle_96 rfl rfl ?_
              refine r_aload_n (i := 2) d_Reader_settle_97 rfl rfl ?_
              refine r_iload_n (i := 3) d_Reader_settle_98 rfl rfl ?_
              refine r_iconst 0 d_Reader_settle_99 ic_0 ?_
              refine r_iload d_Reader_settle_100 rfl ?_
              refine r_iload d_Reader_settle_102 rfl ?_
              refine r_aload_n (i := 0) d_Reader_settle_104 rfl rfl ?_
              refine r_getr nf_Reader_20 lc_3 rfl d_Reader_settle_105 ?_
              refine r_aload_n (i := 0) d_Reader_settle_108 rfl rfl ?_
              refine r_geti nf_Reader_26 lc_3 rfl d_Reader_settle_109 ?_
              rw [show _ = nI r.length from hRc.1]
              refine r_V1 v_Row_get w_370 row_6.1 (c2_Row_get row_6 (k := r.length) (v := nI m.2) (by omega) (by show _ = nI m.2; simp (disch := omega) only [ms_ne]; exact e7)) (Nat.le_of_ble_eq_true rfl) (Nat.le_of_ble_eq_true rfl) d_Reader_settle_112 ?_
              refine r_W6 v_Reader_addNode w_394 lc_3 (c_Reader_addNode _ _ _ _ (T.2.2.2.2.2 x + T.2.2.2.2.2 y + 1) m.2 (mk := r) (pr := q1) (T := T) hRc hT31 (by simp only [List.length_cons] at hpn; omega) hS3.2.2) (Nat.le_of_ble_eq_true rfl) (Nat.le_of_ble_eq_true rfl) d_Reader_settle_115 (fun v N3 hv3 => ?_)
              obtain ⟨rfl, hF3, hK3, hD3⟩ := hv3
              have hF4 := RF.tr hS3.1 hF3
              have hK4 : RK M0 N3 := ⟨hK3.1.trans hS3.2.1.1, hK3.2.1.trans hS3.2.1.2.1, hK3.2.2.trans hS3.2.1.2.2⟩
              rcases hD3 with ⟨hd, hf3⟩ | ⟨w, hd, hf3, hR3⟩
              · skip
                skip
                refine r_goto 0 d_Reader_settle_118 (by decide) ?_
                have hdo : doit m.1 m.2 (x :: y :: q1) T = .inl m.2 := by unfold doit; rw [if_neg h_67]; first | exact hd | (rw [h_67] at hd; exact hd)
                rw [stl_f h_33 hdo] at hst
                refine l_Reader_settleF (f := m.2) (by omega) hf3 (hP N3 hF4 hK4 (Or.inl ⟨m.2, hst, hm1.2, hf3⟩)) _ _ _ _
              · skip
                skip
                refine r_goto 0 d_Reader_settle_118 (by decide) ?_
                have hdo : doit m.1 m.2 (x :: y :: q1) T = .inr w := by unfold doit; rw [if_neg h_67]; first | exact hd | (rw [h_67] at hd; exact hd)
                rw [stl_s h_33 hdo] at hst
                have hw : w = (T.1 :: q1, tpush T m.1 0 (nI y) (nI x) (T.2.2.2.2.2 x + T.2.2.2.2.2 y + 1)) ∧ T.1 ≠ 31 := by
                  unfold adn at hd
                  by_cases e : T.1 = 31
                  · rw [if_pos e] at hd; cases hd
                  · rw [if_neg e] at hd; cases hd; exact ⟨rfl, e⟩
                obtain ⟨rfl, h31⟩ := hw
                refine ih _ _ _ _ _ _ _ hst hmr (by omega) ?_ ?_ hF4 hK4 hf3 hR3
                · simp only [List.length_cons] at hpl ⊢
                  rw [en] at hpl
                  omega
                · exact tok_two (by omega) hbin hT
            · exact absurd h_84 h_67
          · skip
            refine r_iload d_Reader_settle_70 rfl ?_
            refine r_goto 79 d_Reader_settle_72 (by decide) ?_
            refine r_istore d_Reader_settle_79 (Nat.le_of_ble_eq_true rfl) rfl ?_
            dsimp only [List.set]
            refine r_iload_n (i := 3) d_Reader_settle_81 rfl rfl ?_
            refine r_bipush 126 d_Reader_settle_82 bp_126 ?_
            refine r_icmp_ne 92 d_Reader_settle_84 (by decide) (fun h_84 => ?_) (fun h_84 => ?_)
            · exact absurd h_67 h_84
            · skip
              refine r_bipush (-9) d_Reader_settle_87 bp_m9 ?_
              refine r_goto 94 d_Reader_settle_89 (by decide) ?_
              refine r_istore d_Reader_settle_94 (Nat.le_of_ble_eq_true rfl) rfl ?_
              dsimp only [List.set]
              refine r_aload_n (i := 0) d_Reader_settle_96 rfl rfl ?_
              refine r_aload_n (i := 2) d_Reader_settle_97 rfl rfl ?_
              refine r_iload_n (i := 3) d_Reader_settle_98 rfl rfl ?_
              refine r_iconst 0 d_Reader_settle_99 ic_0 ?_
              refine r_iload d_Reader_settle_100 rfl ?_
              refine r_iload d_Reader_settle_102 rfl ?_
              refine r_aload_n (i := 0) d_Reader_settle_104 rfl rfl ?_
              refine r_getr nf_Reader_20 lc_3 rfl d_Reader_settle_105 ?_
              refine r_aload_n (i := 0) d_Reader_settle_108 rfl rfl ?_
              refine r_geti nf_Reader_26 lc_3 rfl d_Reader_settle_109 ?_
              rw [show _ = nI r.length from hRb.1]
              refine r_V1 v_Row_get w_370 row_6.1 (c2_Row_get row_6 (k := r.length) (v := nI m.2) (by omega) (by show _ = nI m.2; simp (disch := omega) only [ms_ne]; exact e7)) (Nat.le_of_ble_eq_true rfl) (Nat.le_of_ble_eq_true rfl) d_Reader_settle_112 ?_
              refine r_W6 v_Reader_addNode w_394 lc_3 (c_Reader_addNode _ _ _ _ (T.2.2.2.2.2 x + 1) m.2 (mk := r) (pr := q0) (T := T) hRb hT31 (by simp only [List.length_cons] at hpn; omega) hS2.2.2) (Nat.le_of_ble_eq_true rfl) (Nat.le_of_ble_eq_true rfl) d_Reader_settle_115 (fun v N3 hv3 => ?_)
              obtain ⟨rfl, hF3, hK3, hD3⟩ := hv3
              have hF4 := RF.tr hS2.1 hF3
              have hK4 : RK M0 N3 := ⟨hK3.1.trans hS2.2.1.1, hK3.2.1.trans hS2.2.1.2.1, hK3.2.2.trans hS2.2.1.2.2⟩
              rcases hD3 with ⟨hd, hf3⟩ | ⟨w, hd, hf3, hR3⟩
              · skip
                skip
                refine r_goto 0 d_Reader_settle_118 (by decide) ?_
                have hdo : doit m.1 m.2 (x :: q0) T = .inl m.2 := by unfold doit; rw [if_pos h_67]; first | exact hd | (rw [h_67] at hd; exact hd)
                rw [stl_f h_33 hdo] at hst
                refine l_Reader_settleF (f := m.2) (by omega) hf3 (hP N3 hF4 hK4 (Or.inl ⟨m.2, hst, hm1.2, hf3⟩)) _ _ _ _
              · skip
                skip
                refine r_goto 0 d_Reader_settle_118 (by decide) ?_
                have hdo : doit m.1 m.2 (x :: q0) T = .inr w := by unfold doit; rw [if_pos h_67]; first | exact hd | (rw [h_67] at hd; exact hd)
                rw [stl_s h_33 hdo] at hst
                have hw : w = (T.1 :: q0, tpush T m.1 0 (nI x) (-9) (T.2.2.2.2.2 x + 1)) ∧ T.1 ≠ 31 := by
                  unfold adn at hd
                  by_cases e : T.1 = 31
                  · rw [if_pos e] at hd; cases hd
                  · rw [if_neg e] at hd; cases hd; exact ⟨rfl, e⟩
                obtain ⟨rfl, h31⟩ := hw
                refine ih _ _ _ _ _ _ _ hst hmr (by omega) ?_ ?_ hF4 hK4 hf3 hR3
                · simp only [List.length_cons] at hpl ⊢
                  rw [nb, if_pos (Or.inr h_67)] at hpl
                  omega
                · rw [h_67]; exact tok_one (by omega) hT

theorem c_Reader_settle {len : Nat} (hlen : len ≤ 60) {g : Int32} (hg : 0 < g) {M0 : nw_M} {mk : MK} {pr : List Nat} {T : AT} (hm : ∀ m ∈ mk, mkOK m ∧ m.2 < len) (hml : mk.length ≤ 60) (hpl : pr.length = nb mk + 1) (hT : TOK pr T) (h6 : M0 3 6 = -9) (hR : RP mk pr T M0) : CJ G LC m_Reader_settle 3 [.ref (G.2.2 3), .int g, .ref (G.2.2 82)] M0 (fun v N => v = none ∧ RF M0 N ∧ RK M0 N ∧ ((∃ f, stl g mk pr T = .inl f ∧ f < len ∧ N 3 6 = nI f) ∨ ∃ w, stl g mk pr T = .inr w ∧ N 3 6 = -9 ∧ RP w.1 w.2.1 w.2.2 N)) := by
  refine CJ_of2 (n0 := 4) (by decide) rfl rfl ?_
  simp only [List.map_cons, List.map_nil, List.cons_append, List.nil_append, List.reduceReplicate]
  exact l_Reader_settle hlen hg (fun N h1 h2 h3 => ⟨rfl, h1, h2, h3⟩) mk pr T _ _ _ _ M0 rfl hm hml hpl hT (fun _ _ _ _ _ _ _ _ _ _ => rfl) ⟨rfl, rfl, rfl⟩ h6 hR

end MRdr2
