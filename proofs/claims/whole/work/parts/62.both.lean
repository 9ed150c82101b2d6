-- class and reference, call by call
section BB
variable {G H : nw_G} {M M2 N N2 : nw_M}
variable {n : Nat} {z : Nat → Nat} {tp : Nat → Bool} {nd ld ak mc : Nat → Nat} {C : Nat → Nat → Nat} {Q : nP} {V : Nat → Nat}
variable {len : Nat} {s : SN} {l : List SN} {K : Nat → Option SN} {ask trp : Int32}
theorem JR.of (h : CRg n z tp nd ld ak mc C Q V len s l K ask trp N) (h2 : N 2 = M 2) (hP : MP len (M 2) s l K ask trp N2) : JR N N2 := ⟨len, s, l, K, ask, trp, ⟨n, z, tp, nd, ld, ak, mc, C, Q, V, h⟩, by rw [h2]; exact hP⟩
theorem MP.mf0 {tx : SN} (h : MP len tx s l K ask trp M) (hf : MF M N (M 0 12) (M 0 13)) : MP len tx s l K ask trp N := by
  have := h.mf hf
  rw [h.2.2.2.2.2.2.1, h.2.2.2.2.2.2.2] at this
  exact this
theorem CRg.kf {a t : Int32} (h : CRg n z tp nd ld ak mc C Q V len s l K ask trp M) (hk : KF M N) (hp : PG2 n mc Q N) (ha : N 0 12 = a) (ht : N 0 13 = t) : CRg n z tp nd ld ak mc C Q V len s l K a t N :=
  h.keep (fun e a b => hk.1 e (by omega) b) h.1 (hk.2.1.trans h.2.1) ha ht (h.2.2.2.2.1.2.2.1.keep hk.2.2.1 hk.2.2.2.1 hk.2.2.2.2) hp
theorem isR_of {a : Nat} (h1 : 1 ≤ a) (h2 : a ≤ mc 0) (h6 : mc 0 ≤ 6) : isR mc (nI a) = true := isR_iff.mpr ⟨fun q => by have := (nI_ltI (b := 1) (by omega) (by omega)).mp q; omega, fun q => by have := (nI_ltI (by omega) (by omega)).mp q; omega⟩
theorem evs_ind {le nu lf rt nm : Nat → Int32} (hw : WF n le nu lf rt z) {k f0 : Nat} (hk : k < n) (ef : f0 + z k = k + 1) (v w : Nat → Int32) : ∀ m, m ≤ z k → (∃ a b, evs le nu lf rt nm f0 v m = .inl a ∧ evs le nu lf rt nm f0 w m = .inl b ∧ ∀ i, i < m → a (f0 + i) = b (f0 + i)) ∨ ∃ t, evs le nu lf rt nm f0 v m = .inr t ∧ evs le nu lf rt nm f0 w m = .inr t := by
  intro m
  induction m with
  | zero => exact fun _ => Or.inl ⟨v, w, rfl, rfl, fun i hi => absurd hi (Nat.not_lt_zero i)⟩
  | succ m ih =>
    intro hm
    rcases ih (by omega) with ⟨a, b, e1, e2, h⟩ | ⟨t, e1, e2⟩
    · have hn := hw.1
      have hj : f0 + m < n := by omega
      have nest := hw.nest k hk (f0 + m) (by omega) (by omega)
      have ev : vsp le nu lf rt nm a (f0 + m) = vsp le nu lf rt nm b (f0 + m) := by
        have key : ∀ L, f0 ≤ L → L < f0 + m → a L = b L := fun L h1 h2 => by
          have := h (L - f0) (by omega)
          rw [show f0 + (L - f0) = L by omega] at this
          exact this
        unfold vsp
        by_cases hl : lf (f0 + m) = -9
        · rw [if_pos hl, if_pos hl]
        · rw [if_neg hl, if_neg hl]
          by_cases hr : rt (f0 + m) = -9
          · have sp := hw.single hj hl hr
            have zb := hw.zb (f0 + m - 1) (by omega)
            rw [if_pos hr, if_pos hr, sp.2.2.2.1, nI_clamp (by omega), key (f0 + m - 1) (by omega) (by omega)]
          · have sp := hw.pair hj hr
            have zb := hw.zb (f0 + m - 1) (by omega)
            have zb2 := hw.zb (f0 + m - 1 - z (f0 + m - 1)) (by omega)
            rw [if_neg hr, if_neg hr, sp.2.2.2.2.2.1, sp.2.2.2.1, nI_clamp (by omega), nI_clamp (by omega), key (f0 + m - 1) (by omega) (by omega), key (f0 + m - 1 - z (f0 + m - 1)) (by omega) (by omega)]
      cases hv : vsp le nu lf rt nm a (f0 + m) with
      | none =>
        refine Or.inr ⟨f0 + m, ?_, ?_⟩
        · simp only [evs, e1, hv]
        · simp only [evs, e2, ← ev, hv]
      | some x =>
        refine Or.inl ⟨upd a (f0 + m) x, upd b (f0 + m) x, ?_, ?_, fun i hi => ?_⟩
        · simp only [evs, e1, hv]
        · simp only [evs, e2, ← ev, hv]
        · by_cases e : i = m
          · subst e; rw [upd_at, upd_at]
          · rw [upd_ne _ _ (by omega), upd_ne _ _ (by omega)]; exact h i (by omega)
    · refine Or.inr ⟨t, ?_, ?_⟩
      · simp only [evs, e1]
      · simp only [evs, e2]
theorem j_asked (h : JR M M2) : BOTH G H m_Need_asked m_Model_asked [] M M2 := by
  obtain ⟨len, s, l, K, ask, trp, ⟨n, z, tp, nd, ld, ak, mc, C, Q, V, hC⟩, hP⟩ := h
  refine ⟨0, 0, _, _, by omega, by omega, c_Need_asked, c_Model_asked hP, ?_⟩
  rintro v N v2 N2 ⟨rfl, rfl⟩ ⟨rfl, hP2⟩
  exact ⟨ask, by rw [hC.2.2.1], rfl, JR.of hC rfl hP2⟩
theorem j_trapped (h : JR M M2) : BOTH G H m_Need_trapped m_Model_trapped [] M M2 := by
  obtain ⟨len, s, l, K, ask, trp, ⟨n, z, tp, nd, ld, ak, mc, C, Q, V, hC⟩, hP⟩ := h
  refine ⟨0, 0, _, _, by omega, by omega, c_Need_trapped, c_Model_trapped hP, ?_⟩
  rintro v N v2 N2 ⟨rfl, rfl⟩ ⟨rfl, hP2⟩
  exact ⟨trp, by rw [hC.2.2.2.1], rfl, JR.of hC rfl hP2⟩
theorem j_clear (h : JR M M2) : BOTH G H m_Need_clear m_Model_clear [] M M2 := by
  obtain ⟨len, s, l, K, ask, trp, ⟨n, z, tp, nd, ld, ak, mc, C, Q, V, hC⟩, hP⟩ := h
  refine ⟨0, 0, _, _, by omega, by omega, c_Need_clear, c_Model_clear hP, ?_⟩
  rintro v N v2 N2 ⟨rfl, rfl⟩ ⟨rfl, hP2⟩
  refine ⟨nI len, by rw [hC.2.1], rfl, JR.of (M := M) (hC.keep (len2 := 0) (N := ms M 0 (upd (M 0) 11 0)) (fun e a b => ms_ne _ _ (by omega)) (Nat.zero_le _) ?_ ?_ ?_ (hC.2.2.2.2.1.2.2.1.keep rfl rfl rfl) (hC.2.2.2.2.1.2.2.2.keep rfl rfl)) rfl hP2⟩
  · rw [ms_same, upd_at]; rfl
  · rw [ms_same, upd_ne _ _ (by decide)]; exact hC.2.2.1
  · rw [ms_same, upd_ne _ _ (by decide)]; exact hC.2.2.2.1
theorem j_type (h : JR M M2) (c : Int32) : BOTH G H m_Need_type m_Model_type [.int c] M M2 := by
  obtain ⟨len, s, l, K, ask, trp, ⟨n, z, tp, nd, ld, ak, mc, C, Q, V, hC⟩, hP⟩ := h
  refine ⟨1, 1, _, _, by omega, by omega, c_Need_type hC.2.1 hC.1 c, c_Model_type hP hC.1 c, ?_⟩
  rintro v N v2 N2 ⟨rfl, f1, f2, f3, f4⟩ ⟨rfl, hP2⟩
  have hl := hC.1
  refine ⟨_, rfl, rfl, tyN len c, s, l, K, ask, trp, ⟨n, z, tp, nd, ld, ak, mc, C, Q, V, hC.keep (fun e a b => f1 e (by omega) (by omega)) ?_ f3 ((f2 12 (by decide)).trans hC.2.2.1) ((f2 13 (by decide)).trans hC.2.2.2.1) (hC.2.2.2.2.1.2.2.1.keep (f1 129 (by decide) (by decide)) (f1 131 (by decide) (by decide)) (f1 133 (by decide) (by decide))) (hC.2.2.2.2.1.2.2.2.keep (f1 117 (by decide) (by decide)) (f1 119 (by decide) (by decide)))⟩, by rw [f4]; exact hP2⟩
  unfold tyN
  by_cases q : (isN 256 c && decide (len < 60)) = true
  · rw [if_pos q]
    simp only [Bool.and_eq_true, decide_eq_true_eq] at q
    omega
  · rw [if_neg q]; exact hl
theorem j_count (h : JR M M2) (w : Int32) : BOTH G H m_Need_count m_Model_count [.int w] M M2 := by
  obtain ⟨len, s, l, K, ask, trp, ⟨n, z, tp, nd, ld, ak, mc, C, Q, V, hC⟩, hP⟩ := h
  have hg := hC.2.2.2.2.1.1.2.1.1
  refine ⟨1, 5, _, _, by omega, by omega, c_Need_count hC w, c_Model_count hP hC.2.2.2.2.2.1 hg.1 (fun k hk => (hg.2 k hk).2.2.2) (fun k hk => (hg.2 k hk).1) w, ?_⟩
  rintro v N v2 N2 ⟨rfl, rfl⟩ ⟨rfl, hP2⟩
  exact ⟨_, rfl, rfl, JR.of hC rfl hP2⟩
theorem j_node (h : JR M M2) (k w : Int32) : BOTH G H m_Need_node m_Model_node [.int k, .int w] M M2 := by
  obtain ⟨len, s, l, K, ask, trp, ⟨n, z, tp, nd, ld, ak, mc, C, Q, V, hC⟩, hP⟩ := h
  have hB := hC.2.2.2.2.1.1
  have hn := hB.n31
  refine ⟨1, 4, _, _, by omega, by omega, c_Need_node hB k w, c_Model_node (hP.ms hC.2.2.2.2.2.1 hn) hB.2.1.1 k w, ?_⟩
  rintro v N v2 N2 ⟨rfl, h1⟩ h2
  rcases h1 with ⟨a1, rfl⟩ | ⟨j, a1, rfl, rfl⟩
  · rcases h2 with ⟨b1, rfl, b3⟩ | ⟨j, b1, rfl, rfl, b3⟩
    · exact ⟨_, rfl, rfl, JR.of hC rfl (hP.mf0 b3)⟩
    · exact (isN_nI2 a1 b1 (by omega)).elim
  · rcases h2 with ⟨b1, rfl, b3⟩ | ⟨j2, b1, b0, rfl, b3⟩
    · exact (isN_nI2 b1 a1 (by omega)).elim
    · have e := (nI_eq (by omega) (by omega)).mp b0
      subst e
      exact ⟨_, rfl, rfl, JR.of hC rfl (hP.mf0 b3)⟩
theorem j_value (h : JR M M2) (k : Int32) : BOTH G H m_Need_value m_Model_value [.int k] M M2 := by
  obtain ⟨len, s, l, K, ask, trp, ⟨n, z, tp, nd, ld, ak, mc, C, Q, V, hC⟩, hP⟩ := h
  have hB := hC.2.2.2.2.1.1
  have hn := hB.n31
  refine ⟨4, 2, _, _, by omega, by omega, c_Need_value hB k, c_Model_value (hP.ms hC.2.2.2.2.2.1 hn) hB.2.1.1.1 k, ?_⟩
  rintro v N v2 N2 ⟨hk, e117, e119, h1⟩ h2
  have hp := hC.2.2.2.2.1.2.2.2.keep e117 e119
  have q2 := hk.1 2 (by decide) (by decide)
  rcases h1 with ⟨a1, rfl, a2, a3⟩ | ⟨j, a1, rfl, h1⟩
  · rcases h2 with ⟨b1, rfl, b3⟩ | ⟨j, b1, rfl, b3⟩
    · exact ⟨_, rfl, rfl, JR.of (hC.kf hk hp (a2.trans hC.2.2.1) (a3.trans hC.2.2.2.1)) q2 (hP.mf0 b3)⟩
    · exact (isN_nI2 a1 b1 (by omega)).elim
  · rcases h2 with ⟨b1, rfl, b3⟩ | ⟨j2, b1, b0, b3⟩
    · exact (isN_nI2 b1 a1 (by omega)).elim
    · have e := (nI_eq (by omega) (by omega)).mp b0
      subst e
      have zb := hB.2.1.1.1.zb j a1
      have ind := evs_ind (nm := M 31) hB.2.1.1.1 a1 (f0 := j + 1 - z j) (by omega) (M 124) (M2 14) (z j) (Nat.le_refl _)
      rcases ind with ⟨x, y, i1, i2, i3⟩ | ⟨t, i1, i2⟩
      · rcases h1 with ⟨w, c1, rfl, c2, c3⟩ | ⟨t, c1, rfl, c2, c3⟩
        · rcases b3 with ⟨w2, d1, rfl, d2⟩ | ⟨t, d1, rfl, d2⟩
          · rw [i1] at c1
            rw [i2] at d1
            cases c1
            cases d1
            have exy := i3 (z j - 1) (by omega)
            rw [show j + 1 - z j + (z j - 1) = j by omega] at exy
            refine ⟨_, rfl, rfl, JR.of (hC.kf hk hp c2 (c3.trans hC.2.2.2.1)) q2 ?_⟩
            have := hP.mf d2
            rw [hP.2.2.2.2.2.2.2, ← exy] at this
            exact this
          · rw [i2] at d1; cases d1
        · rw [i1] at c1; cases c1
      · rcases h1 with ⟨w, c1, rfl, c2, c3⟩ | ⟨t2, c1, rfl, c2, c3⟩
        · rw [i1] at c1; cases c1
        · rcases b3 with ⟨w2, d1, rfl, d2⟩ | ⟨t3, d1, rfl, d2⟩
          · rw [i2] at d1; cases d1
          · rw [i1] at c1
            rw [i2] at d1
            cases c1
            cases d1
            refine ⟨_, rfl, rfl, JR.of (hC.kf hk hp (c2.trans hC.2.2.1) c3) q2 ?_⟩
            have := hP.mf d2
            rw [hP.2.2.2.2.2.2.1] at this
            exact this
theorem j_cost (h : JR M M2) (k i : Int32) : BOTH G H m_Need_cost m_Model_cost [.int k, .int i] M M2 := by
  obtain ⟨len, s, l, K, ask, trp, ⟨n, z, tp, nd, ld, ak, mc, C, Q, V, hC⟩, hP⟩ := h
  have hB := hC.2.2.2.2.1.1
  have hn := hB.n31
  have hr := hB.r6
  refine ⟨3, 5, _, _, by omega, by omega, c_Need_cost hB k i, c_Model_cost (hP.ms hC.2.2.2.2.2.1 hn) hB.2.1.1.1 (fun k hk => (hB.2.1.1.2 k hk).1) hB.2.1.2.1 hB.2.1.2.2.1 k i, ?_⟩
  rintro v N v2 N2 ⟨rfl, h1⟩ ⟨b3, h2⟩
  have hJ := JR.of hC rfl (hP.mf0 b3)
  rcases h1 with ⟨a1, rfl⟩ | ⟨j, a, a1, a2, a3, rfl, rfl, rfl⟩
  · rcases h2 with ⟨b1, rfl⟩ | ⟨j, a, b1, b2, b4, rfl, rfl, rfl⟩
    · exact ⟨_, rfl, rfl, hJ⟩
    · rcases a1 with q | q
      · exact (isN_nI2 q b1 (by omega)).elim
      · rw [isR_of b2 b4 hr.2] at q; exact absurd q (by decide)
  · rcases h2 with ⟨b1, rfl⟩ | ⟨j2, a0, b1, b2, b4, e1, e2, rfl⟩
    · rcases b1 with q | q
      · exact (isN_nI2 q a1 (by omega)).elim
      · have q2 : isR mc (nI a) = false := q
        rw [isR_of a2 a3 hr.2] at q2; exact absurd q2 (by decide)
    · have x1 := (nI_eq (by omega) (by omega)).mp e1
      have x2 := (nI_eq (by omega) (by omega)).mp e2
      subst x1
      subst x2
      exact ⟨_, rfl, rfl, hJ⟩
theorem j_way (h : JR M M2) (k i : Int32) : BOTH G H m_Need_way m_Model_way [.int k, .int i] M M2 := by
  obtain ⟨len, s, l, K, ask, trp, ⟨n, z, tp, nd, ld, ak, mc, C, Q, V, hC⟩, hP⟩ := h
  have hB := hC.2.2.2.2.1.1
  have hn := hB.n31
  have hr := hB.r6
  refine ⟨3, 5, _, _, by omega, by omega, c_Need_way hB k i, c_Model_way (hP.ms hC.2.2.2.2.2.1 hn) hB.2.1.1.1 (fun k hk => (hB.2.1.1.2 k hk).1) hB.2.1.2.1 hB.2.1.2.2.1 k i, ?_⟩
  rintro v N v2 N2 ⟨rfl, h1⟩ ⟨b3, h2⟩
  have hJ := JR.of hC rfl (hP.mf0 b3)
  rcases h1 with ⟨a1, rfl⟩ | ⟨j, a, a1, a2, a3, rfl, rfl, rfl⟩
  · rcases h2 with ⟨b1, rfl⟩ | ⟨j, a, b1, b2, b4, rfl, rfl, rfl⟩
    · exact ⟨_, rfl, rfl, hJ⟩
    · rcases a1 with q | q
      · exact (isN_nI2 q b1 (by omega)).elim
      · rw [isR_of b2 b4 hr.2] at q; exact absurd q (by decide)
  · rcases h2 with ⟨b1, rfl⟩ | ⟨j2, a0, b1, b2, b4, e1, e2, rfl⟩
    · rcases b1 with q | q
      · exact (isN_nI2 q a1 (by omega)).elim
      · have q2 : isR mc (nI a) = false := q
        rw [isR_of a2 a3 hr.2] at q2; exact absurd q2 (by decide)
    · have x1 := (nI_eq (by omega) (by omega)).mp e1
      have x2 := (nI_eq (by omega) (by omega)).mp e2
      subst x1
      subst x2
      exact ⟨_, rfl, rfl, hJ⟩
theorem j_program (h : JR M M2) (i w : Int32) : BOTH G H m_Need_program m_Model_program [.int i, .int w] M M2 := by
  obtain ⟨len, s, l, K, ask, trp, ⟨n, z, tp, nd, ld, ak, mc, C, Q, V, hC⟩, hP⟩ := h
  have hW := hC.2.2.2.2.1
  refine ⟨101, 6, _, _, by omega, by omega, c_Need_program hW i w, c_Model_program (hP.ms hC.2.2.2.2.2.1 hW.1.n31) hW.1.2.1 i w, ?_⟩
  rintro v N v2 N2 ⟨rfl, hk, q0, hp⟩ ⟨rfl, b3⟩
  exact ⟨_, rfl, rfl, JR.of (hC.kf hk hp (by rw [q0]; exact hC.2.2.1) (by rw [q0]; exact hC.2.2.2.1)) (hk.1 2 (by decide) (by decide)) (hP.mf0 b3)⟩
theorem j_line (h : JR M M2) (j w : Int32) : BOTH G H m_Need_line m_Model_line [.int j, .int w] M M2 := by
  obtain ⟨len, s, l, K, ask, trp, ⟨n, z, tp, nd, ld, ak, mc, C, Q, V, hC⟩, hP⟩ := h
  have hW := hC.2.2.2.2.1
  refine ⟨101, 6, _, _, by omega, by omega, c_Need_line hW j w, c_Model_line (hP.ms hC.2.2.2.2.2.1 hW.1.n31) hW.1.2.1 j w, ?_⟩
  rintro v N v2 N2 ⟨rfl, hk, q0, hp⟩ ⟨rfl, b3⟩
  exact ⟨_, rfl, rfl, JR.of (hC.kf hk hp (by rw [q0]; exact hC.2.2.1) (by rw [q0]; exact hC.2.2.2.1)) (hk.1 2 (by decide) (by decide)) (hP.mf0 b3)⟩
theorem j_fewest (h : JR M M2) : BOTH G H m_Need_fewest m_Model_fewest [] M M2 := by
  obtain ⟨len, s, l, K, ask, trp, ⟨n, z, tp, nd, ld, ak, mc, C, Q, V, hC⟩, hP⟩ := h
  have hW := hC.2.2.2.2.1
  refine ⟨101, 6, _, _, by omega, by omega, c_Need_fewest hW, c_Model_fewest (hP.ms hC.2.2.2.2.2.1 hW.1.n31) hW.1.2.1, ?_⟩
  rintro v N v2 N2 ⟨rfl, hk, q0, hp⟩ ⟨rfl, b3⟩
  exact ⟨_, rfl, rfl, JR.of (hC.kf hk hp (by rw [q0]; exact hC.2.2.1) (by rw [q0]; exact hC.2.2.2.1)) (hk.1 2 (by decide) (by decide)) (hP.mf0 b3)⟩
theorem j_run (h : JR M M2) (k : Int32) : BOTH G H m_Need_run m_Model_run [.int k] M M2 := by
  obtain ⟨len, s, l, K, ask, trp, ⟨n, z, tp, nd, ld, ak, mc, C, Q, V, hC⟩, hP⟩ := h
  have hW := hC.2.2.2.2.1
  have hr := hW.1.r6
  refine ⟨101, 6, _, _, by omega, by omega, c_Need_run hW k, c_Model_run (hP.ms hC.2.2.2.2.2.1 hW.1.n31) hW.1.2.1 k, ?_⟩
  rintro v N v2 N2 ⟨hk, hp, h1⟩ h2
  have q2 := hk.1 2 (by decide) (by decide)
  rcases h1 with ⟨a0, rfl, a1⟩ | ⟨a0, a1, rfl, a2⟩ | ⟨nn, a0, a1, rfl, h1⟩
  · rcases h2 with ⟨b0, rfl, b1⟩ | ⟨b0, b1, rfl, b2⟩ | ⟨nn, b0, b1, rfl, h2⟩
    · exact ⟨_, rfl, rfl, JR.of (hC.kf hk hp (by rw [a1]; exact hC.2.2.1) (by rw [a1]; exact hC.2.2.2.1)) q2 (hP.mf0 b1)⟩
    · omega
    · omega
  · have hlen := (prg_ok hW.1.2.1 a0 hr.1 (Nat.le_refl _)).2.1
    rcases h2 with ⟨b0, rfl, b1⟩ | ⟨b0, b1, rfl, b2⟩ | ⟨nn, b0, b1, rfl, h2⟩
    · omega
    · exact ⟨_, rfl, rfl, JR.of (hC.kf hk hp (by rw [a2]; exact hC.2.2.1) (by rw [a2]; exact hC.2.2.2.1)) q2 (hP.mf0 b2)⟩
    · exact (isN_nI2 a1 (by omega) (by omega)).elim
  · have hlen := (prg_ok hW.1.2.1 a0 hr.1 (Nat.le_refl _)).2.1
    rcases h2 with ⟨b0, rfl, b1⟩ | ⟨b0, b1, rfl, b2⟩ | ⟨n2, b0, b1, e, h2⟩
    · omega
    · exact (isN_nI2 b1 (by omega) (by omega)).elim
    · have e2 := (nI_eq (by omega) (by omega)).mp e
      subst e2
      rcases h1 with ⟨x, c1, rfl, c2, c3⟩ | ⟨t, c1, rfl, c2, c3⟩
      · rcases h2 with ⟨y, d1, rfl, d2⟩ | ⟨t, d1, rfl, d2⟩
        · rw [c1] at d1
          cases d1
          refine ⟨_, rfl, rfl, JR.of (hC.kf hk hp c2 (c3.trans hC.2.2.2.1)) q2 ?_⟩
          have := hP.mf d2
          rw [hP.2.2.2.2.2.2.2] at this
          exact this
        · rw [c1] at d1; cases d1
      · rcases h2 with ⟨y, d1, rfl, d2⟩ | ⟨t2, d1, rfl, d2⟩
        · rw [c1] at d1; cases d1
        · rw [c1] at d1
          cases d1
          refine ⟨_, rfl, rfl, JR.of (hC.kf hk hp (c2.trans hC.2.2.1) c3) q2 ?_⟩
          have := hP.mf d2
          rw [hP.2.2.2.2.2.2.1] at this
          exact this
theorem j_shared (h : JR M M2) (c w : Int32) : BOTH G H m_Need_shared m_Model_shared [.int c, .int w] M M2 := by
  obtain ⟨len, s, l, K, ask, trp, ⟨n, z, tp, nd, ld, ak, mc, C, Q, V, hC⟩, hP⟩ := h
  have hW := hC.2.2.2.2.1
  have hg := hW.1.2.1.1
  refine ⟨1, 4, _, _, by omega, by omega, c_Need_shared hW.2.2.1 c w, c_Model_shared (hP.ms hC.2.2.2.2.2.1 hW.1.n31) hg.1 (fun k hk => (hg.2 k hk).2.2.2) (fun k hk => (hg.2 k hk).1) c w, ?_⟩
  rintro v N v2 N2 ⟨rfl, rfl⟩ ⟨rfl, b3⟩
  exact ⟨_, rfl, rfl, JR.of hC rfl (hP.mf0 b3)⟩
theorem j_cheapest (h : JR M M2) (w : Int32) : BOTH G H m_Need_cheapest m_Model_cheapest [.int w] M M2 := by
  obtain ⟨len, s, l, K, ask, trp, ⟨n, z, tp, nd, ld, ak, mc, C, Q, V, hC⟩, hP⟩ := h
  have hW := hC.2.2.2.2.1
  have hg := hW.1.2.1.1
  refine ⟨7, 5, _, _, by omega, by omega, c_Need_cheapest hW w, c_Model_cheapest (V := V) (hP.ms hC.2.2.2.2.2.1 hW.1.n31) hg.1 (fun k hk => (hg.2 k hk).2.2.2) (fun k hk => (hg.2 k hk).1) hW.1.2.1.2.1 (fun _ => hW.2.1) w, ?_⟩
  rintro v N v2 N2 ⟨rfl, f1, f2⟩ ⟨rfl, b3⟩
  refine ⟨_, rfl, rfl, JR.of (hC.keep (fun e a b => f1 e (by omega)) hC.1 (by rw [f1 0 (by decide)]; exact hC.2.1) (by rw [f1 0 (by decide)]; exact hC.2.2.1) (by rw [f1 0 (by decide)]; exact hC.2.2.2.1) f2 (hW.2.2.2.keep (f1 117 (by decide)) (f1 119 (by decide)))) (f1 2 (by decide)) (hP.mf0 b3)⟩
theorem j_let (h : JR M M2) (k x : Int32) : BOTH G H m_Need_let m_Model_let [.int k, .int x] M M2 := by
  obtain ⟨len, s, l, K, ask, trp, ⟨n, z, tp, nd, ld, ak, mc, C, Q, V, hC⟩, hP⟩ := h
  have hl : l.length ≤ 10 := by
    obtain ⟨p, a1, a2, a3, a4, a5⟩ := hC.2.2.2.2.2.2.1
    exact a4
  refine ⟨3, 1, _, _, by omega, by omega, c_Need_let hC k x, c_Model_let hP hl k x, ?_⟩
  rintro v N v2 N2 h1 h2
  rcases h1 with ⟨a1, rfl, rfl⟩ | ⟨j, a1, rfl, rfl, q2, hC2⟩
  · rcases h2 with ⟨b1, rfl, b3⟩ | ⟨j, b1, rfl, rfl, b3⟩
    · exact ⟨_, rfl, rfl, JR.of hC rfl b3⟩
    · exact (isN_nI2 a1 b1 (by decide)).elim
  · rcases h2 with ⟨b1, rfl, b3⟩ | ⟨j2, b1, e, rfl, b3⟩
    · exact (isN_nI2 b1 a1 (by decide)).elim
    · have e2 := (nI_eq (by omega) (by omega)).mp e
      subst e2
      exact ⟨_, rfl, rfl, JR.of hC2 q2 b3⟩
theorem j_machine (h : JR M M2) (r a b c d : Int32) : BOTH G H m_Need_machine m_Model_machine [.int r, .int a, .int b, .int c, .int d] M M2 := by
  obtain ⟨len, s, l, K, ask, trp, ⟨n, z, tp, nd, ld, ak, mc, C, Q, V, hC⟩, hP⟩ := h
  have hl : l.length ≤ 10 := by
    obtain ⟨p, a1, a2, a3, a4, a5⟩ := hC.2.2.2.2.2.2.1
    exact a4
  have hg := hC.2.2.2.2.1.1.2.1.1
  cases hv : mcV r a b c d with
  | false =>
    refine ⟨7, 6, _, _, by omega, by omega, c0_Need_machine hv, c0_Model_machine hP hv, ?_⟩
    rintro v N v2 N2 ⟨rfl, rfl⟩ ⟨rfl, b3⟩
    exact ⟨_, rfl, rfl, JR.of hC rfl b3⟩
  | true =>
    obtain ⟨m, hm, rfl, rfl, rfl, rfl, rfl⟩ := mcV_ex hv
    obtain ⟨C2, Q2, hS2⟩ := gs_of hg hm
    obtain ⟨V2, hV2⟩ := vs_of hg.1 m tp ak
    refine ⟨7, 6, _, _, by omega, by omega, c_Need_machine hC hm hv hS2 hV2, c_Model_machine hP hC.2.2.2.2.2.1 hg.1 (fun k hk => (hg.2 k hk).1) hl hm hS2.2.2.1 hv, ?_⟩
    rintro v N v2 N2 ⟨rfl, q2, hC2⟩ ⟨rfl, b3⟩
    exact ⟨_, rfl, rfl, JR.of hC2 q2 b3⟩
theorem j_exchange (h : JR M M2) (k : Int32) : BOTH G H m_Need_exchange m_Model_exchange [.int k] M M2 := by
  obtain ⟨len, s, l, K, ask, trp, ⟨n, z, tp, nd, ld, ak, mc, C, Q, V, hC⟩, hP⟩ := h
  have hl : l.length ≤ 10 := by
    obtain ⟨p, a1, a2, a3, a4, a5⟩ := hC.2.2.2.2.2.2.1
    exact a4
  have hB := hC.2.2.2.2.1.1
  have hg := hB.2.1.1
  have hn := hB.n31
  cases hk : isN n k with
  | false =>
    refine ⟨7, 6, _, _, by omega, by omega, c0_Need_exchange hB hk, c0_Model_exchange hP hC.2.2.2.2.2.1 hn hk, ?_⟩
    rintro v N v2 N2 ⟨rfl, rfl⟩ ⟨rfl, b3⟩
    exact ⟨_, rfl, rfl, JR.of hC rfl b3⟩
  | true =>
    obtain ⟨j, hj, rfl⟩ := isN_ex hk (by omega)
    cases hx : xOK (M 13) z tp j with
    | false =>
      refine ⟨7, 6, _, _, by omega, by omega, c1_Need_exchange hB hj hx, c1_Model_exchange hP hC.2.2.2.2.2.1 hg.1 (fun k hk => (hg.2 k hk).1) hj hx, ?_⟩
      rintro v N v2 N2 ⟨rfl, rfl⟩ ⟨rfl, b3⟩
      exact ⟨_, rfl, rfl, JR.of hC rfl b3⟩
    | true =>
      have hr : M 19 j ≠ -9 := comm_pair hg.1 hj (by unfold xOK at hx; simp only [Bool.and_eq_true] at hx; exact hx.1)
      have hXN := XN_of hg.1 hj hr
      have hw2 := xch_wf hg.1 hj hr hXN
      obtain ⟨⟨tp2, nd2, ld2, ak2⟩, hg2⟩ := gh_ex hw2
      simp only at hg2
      obtain ⟨C2, Q2, hS2⟩ := gs_of hg2 hB.2.1.2.1
      obtain ⟨V2, hV2⟩ := vs_of hg2.1 mc tp2 ak2
      refine ⟨7, 6, _, _, by omega, by omega, c_Need_exchange hC hj hx hS2 hV2, c_Model_exchange hP hC.2.2.2.2.2.1 hg.1 (fun k hk => (hg.2 k hk).1) hl hB.2.1.2.1 hj hx hXN hw2 (fun k hk => (hg2.2 k hk).1) hS2.2.2.1, ?_⟩
      rintro v N v2 N2 ⟨rfl, q2, hC2⟩ ⟨rfl, s2, hs2, b3⟩
      exact ⟨_, rfl, rfl, JR.of (hC2 s2 hs2) q2 b3⟩
theorem j_undo (h : JR M M2) : BOTH G H m_Need_undo m_Model_undo [] M M2 := by
  obtain ⟨len, s, l, K, ask, trp, ⟨n, z, tp, nd, ld, ak, mc, C, Q, V, hC⟩, hP⟩ := h
  have hC0 := hC
  obtain ⟨h1, h2, h3, h4, h5, h6, ⟨p, a1, a2, a3, a4, a5⟩, h8⟩ := hC
  have hg := h5.1.2.1.1
  cases l with
  | nil =>
    refine ⟨7, 0, _, _, by omega, by omega, c3_Need_undo a3, c0_Model_undo hP, ?_⟩
    rintro v N v2 N2 ⟨rfl, rfl⟩ ⟨rfl, b3⟩
    exact ⟨_, rfl, rfl, JR.of hC0 rfl b3⟩
  | cons f l =>
    simp only [List.length_cons] at a3 a4
    obtain ⟨ha, hu⟩ := a5
    rcases ha with ⟨hk0, k, n0, L, f0, zl, zr, le0, nu0, lf0, rt0, nm0, mc0, z0, hpl, hk, hw0, hr0, hx0, hf0, hs0⟩ | ⟨hk0, j, x, hj, hpl, hnu, rfl⟩ | ⟨hk0, m, mc0, hmo, rfl, hrow⟩
    · obtain ⟨b1, b2, b3⟩ := act_x hg.1 h6 h5.1.2.1.2.1 hk hw0 hr0 hx0 hf0 hs0
      have hXN := XN_of hg.1 b1 b2
      have hw2 := xch_wf hg.1 b1 b2 hXN
      obtain ⟨⟨tp2, nd2, ld2, ak2⟩, hg2⟩ := gh_ex hw2
      simp only at hg2
      obtain ⟨C2, Q2, hS2⟩ := gs_of hg2 h5.1.2.1.2.1
      obtain ⟨V2, hV2⟩ := vs_of hg2.1 mc tp2 ak2
      refine ⟨7, 0, _, _, by omega, by omega, c0_Need_undo h1 h2 h3 h4 h5 a1 a2 a3 (by omega) hu h8 hk0 hpl b1 b2 hS2 hV2 b3, c_Model_undo hP (by omega), ?_⟩
      rintro v N v2 N2 ⟨rfl, q2, hC2⟩ ⟨rfl, b3⟩
      exact ⟨_, rfl, rfl, JR.of hC2 q2 b3⟩
    · refine ⟨7, 0, _, _, by omega, by omega, c1_Need_undo h1 h2 h3 h4 h5 a1 a2 a3 (by omega) hu h8 hk0 hj hpl hnu h6, c_Model_undo hP (by omega), ?_⟩
      rintro v N v2 N2 ⟨rfl, q2, hC2⟩ ⟨rfl, b3⟩
      exact ⟨_, rfl, rfl, JR.of hC2 q2 b3⟩
    · obtain ⟨C2, Q2, hS2⟩ := gs_of hg hmo
      obtain ⟨V2, hV2⟩ := vs_of hg.1 mc0 tp ak
      refine ⟨7, 0, _, _, by omega, by omega, c2_Need_undo h1 h2 h3 h4 h5 a1 a2 a3 (by omega) hu h8 hk0 hmo hrow h6 hS2 hV2, c_Model_undo hP (by omega), ?_⟩
      rintro v N v2 N2 ⟨rfl, q2, hC2⟩ ⟨rfl, b3⟩
      exact ⟨_, rfl, rfl, JR.of hC2 q2 b3⟩
theorem two_of {k : Int32} (h : isN 2 k = true) : k = 0 ∨ k = 1 := by
  obtain ⟨j, hj, rfl⟩ := isN_ex h (by omega)
  rcases (show j = 0 ∨ j = 1 by omega) with rfl | rfl
  · exact Or.inl rfl
  · exact Or.inr rfl
theorem j_keep (h : JR M M2) (k : Int32) : BOTH G H m_Need_keep m_Model_keep [.int k] M M2 := by
  obtain ⟨len, s, l, K, ask, trp, ⟨n, z, tp, nd, ld, ak, mc, C, Q, V, hC⟩, hP⟩ := h
  have hB := hC.2.2.2.2.1.1
  have hn := hB.n31
  have hM := c_Model_keep (G := H) hP hC.2.2.2.2.2.1 hn k
  cases hk : isN 2 k with
  | false =>
    refine ⟨7, 1, _, _, by omega, by omega, c0_Need_keep hk, hM, ?_⟩
    rintro v N v2 N2 ⟨rfl, rfl⟩ (⟨b1, rfl, b3⟩ | ⟨b1, -⟩ | ⟨i, b1, rfl, -⟩)
    · exact ⟨_, rfl, rfl, JR.of hC rfl b3⟩
    · rw [hk] at b1; exact absurd b1 (by decide)
    · exact (isN_nI2 hk b1 (by decide)).elim
  | true =>
    by_cases h0 : n = 0
    · refine ⟨7, 1, _, _, by omega, by omega, c1_Need_keep hB h0 hk, hM, ?_⟩
      rintro v N v2 N2 ⟨rfl, rfl⟩ (⟨b1, -⟩ | ⟨b1, b2, rfl, b3⟩ | ⟨i, b1, rfl, b2, -⟩)
      · rw [hk] at b1; exact absurd b1 (by decide)
      · exact ⟨_, rfl, rfl, JR.of hC rfl b3⟩
      · exact absurd h0 b2
    · rcases two_of hk with rfl | rfl
      · refine ⟨7, 1, _, _, by omega, by omega, c2_Need_keep hC (by omega), hM, ?_⟩
        rintro v N v2 N2 ⟨rfl, q2, hC2⟩ (⟨b1, -⟩ | ⟨b1, b2, -⟩ | ⟨i, b1, e, b2, rfl, b3⟩)
        · rw [hk] at b1; exact absurd b1 (by decide)
        · exact absurd b2 h0
        · have e2 : i = 0 := ((nI_eq (a := 0) (b := i) (by omega) (by omega)).mp e).symm
          subst e2
          exact ⟨_, rfl, rfl, JR.of hC2 q2 b3⟩
      · refine ⟨7, 1, _, _, by omega, by omega, c3_Need_keep hC (by omega), hM, ?_⟩
        rintro v N v2 N2 ⟨rfl, q2, hC2⟩ (⟨b1, -⟩ | ⟨b1, b2, -⟩ | ⟨i, b1, e, b2, rfl, b3⟩)
        · rw [hk] at b1; exact absurd b1 (by decide)
        · exact absurd b2 h0
        · have e2 : i = 1 := ((nI_eq (a := 1) (b := i) (by omega) (by omega)).mp e).symm
          subst e2
          exact ⟨_, rfl, rfl, JR.of hC2 q2 b3⟩
theorem j_back (h : JR M M2) (k : Int32) : BOTH G H m_Need_back m_Model_back [.int k] M M2 := by
  obtain ⟨len, s, l, K, ask, trp, ⟨n, z, tp, nd, ld, ak, mc, C, Q, V, hC⟩, hP⟩ := h
  have hM := c_Model_back (G := H) hP k
  have hI := hC.2.2.2.2.2.2.2
  cases hk : isN 2 k with
  | false =>
    refine ⟨7, 1, _, _, by omega, by omega, c0_Need_back hk, hM, ?_⟩
    rintro v N v2 N2 ⟨rfl, rfl⟩ (⟨b1, rfl, b3⟩ | ⟨i, b1, rfl, -⟩)
    · exact ⟨_, rfl, rfl, JR.of hC rfl b3⟩
    · exact (isN_nI2 hk b1 (by decide)).elim
  | true =>
    rcases two_of hk with rfl | rfl
    · cases hK : K 0 with
      | none =>
        have hi := hI.1
        rw [hK] at hi
        refine ⟨7, 1, _, _, by omega, by omega, c1_Need_back hi, hM, ?_⟩
        rintro v N v2 N2 ⟨rfl, rfl⟩ (⟨b1, -⟩ | ⟨i, b1, e, b2⟩)
        · rw [hk] at b1; exact absurd b1 (by decide)
        · have e2 : i = 0 := ((nI_eq (a := 0) (b := i) (by omega) (by omega)).mp e).symm
          subst e2
          rcases b2 with ⟨c1, rfl, c3⟩ | ⟨f, c1, -⟩
          · exact ⟨_, rfl, rfl, JR.of hC rfl c3⟩
          · rw [hK] at c1; cases c1
      | some f =>
        refine ⟨7, 1, _, _, by omega, by omega, c2_Need_back hC hK, hM, ?_⟩
        rintro v N v2 N2 ⟨rfl, q2, hC2⟩ (⟨b1, -⟩ | ⟨i, b1, e, b2⟩)
        · rw [hk] at b1; exact absurd b1 (by decide)
        · have e2 : i = 0 := ((nI_eq (a := 0) (b := i) (by omega) (by omega)).mp e).symm
          subst e2
          rcases b2 with ⟨c1, -⟩ | ⟨f2, c1, rfl, c3⟩
          · rw [hK] at c1; cases c1
          · rw [hK] at c1
            cases c1
            exact ⟨_, rfl, rfl, len, f, [], K, ask, trp, hC2, by rw [q2]; exact c3⟩
    · cases hK : K 1 with
      | none =>
        have hi := hI.2
        rw [hK] at hi
        refine ⟨7, 1, _, _, by omega, by omega, c3_Need_back hi, hM, ?_⟩
        rintro v N v2 N2 ⟨rfl, rfl⟩ (⟨b1, -⟩ | ⟨i, b1, e, b2⟩)
        · rw [hk] at b1; exact absurd b1 (by decide)
        · have e2 : i = 1 := ((nI_eq (a := 1) (b := i) (by omega) (by omega)).mp e).symm
          subst e2
          rcases b2 with ⟨c1, rfl, c3⟩ | ⟨f, c1, -⟩
          · exact ⟨_, rfl, rfl, JR.of hC rfl c3⟩
          · rw [hK] at c1; cases c1
      | some f =>
        refine ⟨7, 1, _, _, by omega, by omega, c4_Need_back hC hK, hM, ?_⟩
        rintro v N v2 N2 ⟨rfl, q2, hC2⟩ (⟨b1, -⟩ | ⟨i, b1, e, b2⟩)
        · rw [hk] at b1; exact absurd b1 (by decide)
        · have e2 : i = 1 := ((nI_eq (a := 1) (b := i) (by omega) (by omega)).mp e).symm
          subst e2
          rcases b2 with ⟨c1, -⟩ | ⟨f2, c1, rfl, c3⟩
          · rw [hK] at c1; cases c1
          · rw [hK] at c1
            cases c1
            exact ⟨_, rfl, rfl, len, f, [], K, ask, trp, hC2, by rw [q2]; exact c3⟩
theorem j_tree (h : JR M M2) : BOTH G H m_Need_tree m_Model_tree [] M M2 := by
  obtain ⟨len, s, l, K, ask, trp, ⟨n, z, tp, nd, ld, ak, mc, C, Q, V, hC⟩, hP⟩ := h
  refine ⟨7, 4, _, _, by omega, by omega, c_Need_tree hC, c_Model_tree hP hC.2.2.2.2.2.1 hC.1, ?_⟩
  intro v N v2 N2 h1 h2
  cases hR : runp (M 2) len (len + 1) as0 with
  | inl f =>
    rw [hR] at h1 h2
    obtain ⟨rfl, q2, hC2⟩ := h1
    obtain ⟨rfl, hP2⟩ := h2
    exact ⟨_, rfl, rfl, JR.of hC2 q2 hP2⟩
  | inr T =>
    rw [hR] at h1 h2
    obtain ⟨rfl, hC2⟩ := h1
    obtain ⟨rfl, s2, hP2, hs2⟩ := h2
    exact ⟨_, rfl, rfl, 0, s2, [], _, ask, trp, hC2 s2 hs2, hP2.1, fun j hj => absurd hj (Nat.not_lt_zero j), hP2.2.2⟩
end BB
