-- the model: tree, its end
section MMu
variable {G : nw_G} {M N B : nw_M} {len : Nat} {tx s : SN} {l : List SN} {K : Nat → Option SN} {ask trp : Int32}
theorem l_Model_tree {R : Nat ⊕ AT} {P : Option Value → nw_M → Prop} (hX : TXT len tx M) (hl : len ≤ 60) (hf : ∀ f N, RFm M N → R = .inl f → f ≤ len → N 0 4 = nI f → P (some (.int (-10 - nI f))) N) (he : ∀ T N o1 o3, RFm M N → R = .inr T → DR T N → RJ G LM m_Model_tree 4 P 132 [some (.ref (G.2.2 0)), o1, some (.int 0), o3] [] N) : ∀ (f : Nat) (a : AS) (N : nw_M) (o3 : Option Value), len + 1 ≤ a.1 + f → runp tx len f a = R → INVm len a → RFm M N → N 0 4 = -1 → N 0 3 = nI a.1 → RQ a.2.2.1 a.2.2.2.1 a.2.2.2.2 N → RJ G LM m_Model_tree 4 P 36 [some (.ref (G.2.2 0)), some (.int (bI a.2.1)), some (.int 1), o3] [] N := by
  intro f
  induction f using Nat.strongRecOn with
  | _ f ih =>
    rintro ⟨p, d, mk, pr, T⟩ N o3 h1 h2 h3 h4 h5 h6 h7
    cases d with
    | true => exact l1_Model_tree hX hl hf he ih h1 h2 h3 h4 h5 h6 h7
    | false => exact l0_Model_tree hX hl hf he ih h1 h2 h3 h4 h5 h6 h7
theorem runp_ok {len : Nat} {tx : SN} : ∀ (f : Nat) (a : AS) (T : AT), AOK len a → runp tx len f a = .inr T → WF T.1 T.2.1 T.2.2.1 T.2.2.2.1 T.2.2.2.2.1 T.2.2.2.2.2 ∧ 1 ≤ T.1
  | 0, a, T, hA, h => by simp only [runp] at h; cases h
  | f + 1, a, T, hA, h => by
    rw [runp_s] at h
    cases hc : cst tx len a with
    | inl e => rw [hc] at h; cases h
    | inr r =>
      cases r with
      | inl T2 => rw [hc] at h; cases h; exact cst_end hA hc
      | inr b => rw [hc] at h; exact runp_ok f b T (cst_ok hA hc).1 h
theorem runp_le {len : Nat} {tx : SN} {T : AT} (h : runp tx len (len + 1) as0 = .inr T) : WF T.1 T.2.1 T.2.2.1 T.2.2.2.1 T.2.2.2.2.1 T.2.2.2.2.2 ∧ 1 ≤ T.1 := runp_ok (len + 1) as0 T ⟨Nat.zero_le _, Nat.zero_le _, (fun m h => by cases h), rfl, ⟨by decide, fun k hk => absurd hk (Nat.not_lt_zero k)⟩, rfl⟩ h
theorem y1_Model_tree {P : Option Value → nw_M → Prop} {o1 o2 : Option Value} (hk : ∀ N, (∀ e, e ≠ 3 → N e = M e) → (∀ i, i < 125 → N 3 i = M 2 i) → (∀ i, 125 ≤ i → N 3 i = M 3 i) → RJ G LM m_Model_tree 4 P 158 [some (.ref (G.2.2 0)), o1, o2, some (.int (nI 125))] [] N) : ∀ (f j : Nat) (N : nw_M), f + j = 125 → (∀ e, e ≠ 3 → N e = M e) → (∀ i, i < j → N 3 i = M 2 i) → (∀ i, j ≤ i → N 3 i = M 3 i) → RJ G LM m_Model_tree 4 P 134 [some (.ref (G.2.2 0)), o1, o2, some (.int (nI j))] [] N := by
  intro f
  induction f with
  | zero =>
    intro j N hfj h1 h2 h3
    have e : j = 125 := by omega
    subst e
    refine r_iload_n (i := 3) d_Model_tree_134 rfl rfl ?_
    refine r_bipush 125 d_Model_tree_135 bp_125 ?_
    refine r_icmp_ge 158 d_Model_tree_137 (by decide) (fun _ => ?_) (fun h9 => absurd (by decide) h9)
    exact hk N h1 h2 h3
  | succ f ih =>
    intro j N hfj h1 h2 h3
    refine r_iload_n (i := 3) d_Model_tree_134 rfl rfl ?_
    refine r_bipush 125 d_Model_tree_135 bp_125 ?_
    refine r_icmp_ge 158 d_Model_tree_137 (by decide) (fun h_137 => ?_) (fun h_137 => ?_)
    · skip
      exact absurd h_137 (nI_ge (a := j) (b := 125) (by omega) (by decide))
    · skip
      refine r_aload_n (i := 0) d_Model_tree_140 rfl rfl ?_
      refine r_getr nf_Model_16 lm_0 rfl d_Model_tree_141 ?_
      refine r_iload_n (i := 3) d_Model_tree_144 rfl rfl ?_
      refine r_aload_n (i := 0) d_Model_tree_145 rfl rfl ?_
      refine r_getr nf_Model_13 lm_0 rfl d_Model_tree_146 ?_
      refine r_iload_n (i := 3) d_Model_tree_149 rfl rfl ?_
      refine r_ia (q := j) lm_2 rfl (by omega) (by decide) (rfl) d_Model_tree_150 ?_
      refine r_ias (q := j) lm_3 rfl (by omega) (by decide) d_Model_tree_151 ?_
      refine r_iinc d_Model_tree_152 rfl (nI_inc _) (Nat.le_of_ble_eq_true rfl) rfl ?_
      dsimp only [List.set]
      refine r_goto 134 d_Model_tree_155 (by decide) ?_
      refine ih (j + 1) _ (by omega) (fun e he => by rw [ms_ne _ _ he]; exact h1 e he) (fun i hi => ?_) (fun i hi => by rw [ms_same, upd_ne _ _ (by omega)]; exact h3 i (by omega))
      rw [ms_same]
      by_cases e : i = j
      · subst e
        rw [upd_at, h1 2 (by decide)]
      · rw [upd_ne _ _ e]
        exact h2 i (by omega)

theorem y0_Model_tree {P : Option Value → nw_M → Prop} {o1 o2 o3 : Option Value} {T : AT} (hD : DR T M) (hP : ∀ N, (∀ e, e ≠ 0 → e ≠ 3 → e ≠ 7 → N e = M e) → (∀ j, j ≠ 2 → j ≠ 9 → N 0 j = M 0 j) → N 0 2 = 0 → N 0 9 = 0 → N 7 0 = 0 → N 7 1 = 0 → (∀ i, i < 125 → N 3 i = M 2 i) → (∀ i, 125 ≤ i → N 3 i = M 3 i) → P (some (.int (nI T.1))) N) : RJ G LM m_Model_tree 4 P 132 [some (.ref (G.2.2 0)), o1, o2, o3] [] M := by
  refine r_iconst 0 d_Model_tree_132 ic_0 ?_
  refine r_istore_n (i := 3) d_Model_tree_133 rfl (Nat.le_of_ble_eq_true rfl) rfl ?_
  dsimp only [List.set]
  refine y1_Model_tree (M := M) (fun N h1 h2 h3 => ?_) 125 0 M (by omega) (fun _ _ => rfl) (fun i hi => absurd hi (Nat.not_lt_zero i)) (fun _ _ => rfl)
  refine r_aload_n (i := 0) d_Model_tree_158 rfl rfl ?_
  refine r_iconst 0 d_Model_tree_159 ic_0 ?_
  refine r_puti nf_Model_82 nfin_Model_2 lm_0 rfl d_Model_tree_160 ?_
  refine r_aload_n (i := 0) d_Model_tree_163 rfl rfl ?_
  refine r_iconst 0 d_Model_tree_164 ic_0 ?_
  refine r_puti nf_Model_142 nfin_Model_9 lm_0 rfl d_Model_tree_165 ?_
  refine r_aload_n (i := 0) d_Model_tree_168 rfl rfl ?_
  refine r_getr nf_Model_28 lm_0 rfl d_Model_tree_169 ?_
  refine r_iconst 0 d_Model_tree_172 ic_0 ?_
  refine r_iconst 0 d_Model_tree_173 ic_0 ?_
  refine r_zas (q := 0) lm_7 rfl (by omega) (by decide) (by decide) d_Model_tree_174 ?_
  refine r_aload_n (i := 0) d_Model_tree_175 rfl rfl ?_
  refine r_getr nf_Model_28 lm_0 rfl d_Model_tree_176 ?_
  refine r_iconst 1 d_Model_tree_179 ic_1 ?_
  refine r_iconst 0 d_Model_tree_180 ic_0 ?_
  refine r_zas (q := 1) lm_7 rfl (by omega) (by decide) (by decide) d_Model_tree_181 ?_
  refine r_aload_n (i := 0) d_Model_tree_182 rfl rfl ?_
  refine r_getr nf_Model_16 lm_0 rfl d_Model_tree_183 ?_
  refine r_iconst 0 d_Model_tree_186 ic_0 ?_
  refine r_ia (q := 0) lm_3 rfl (by omega) (by decide) ((by simp (disch := omega) only [ms_same, ms_ne]; rw [h2 0 (by omega)]; exact hD.1 : _ = nI T.1)) d_Model_tree_187 ?_
  refine r_iret rfl d_Model_tree_188 ?_
  refine hP _ (fun e e0 e3 e7 => by simp (disch := omega) only [ms_ne]; exact h1 e e3) (fun j e2 e9 => by simp (disch := omega) only [ms_same, ms_ne, upd_ne]; rw [h1 0 (by decide)]) ?_ ?_ ?_ ?_ (fun i hi => by simp (disch := omega) only [ms_same, ms_ne]; exact h2 i hi) (fun i hi => by simp (disch := omega) only [ms_same, ms_ne]; exact h3 i hi)
  · simp (disch := omega) only [ms_same, ms_ne, upd_ne, upd_at]
  · simp (disch := omega) only [ms_same, ms_ne, upd_ne, upd_at]
  · simp (disch := omega) only [ms_same, ms_ne, upd_ne, upd_at]
  · simp (disch := omega) only [ms_same, ms_ne, upd_ne, upd_at]

set_option maxHeartbeats 1000000 in
theorem c_Model_tree {n : Nat} {le nu lf rt nm : Nat → Int32} {mc : Nat → Nat} (hP : MP len tx s l K ask trp M) (hS : MS n le nu lf rt nm mc s) (hl : len ≤ 60) : CJ G LM m_Model_tree 4 [.ref (G.2.2 0)] M (fun v N => match runp tx len (len + 1) as0 with | .inl f => v = some (.int (-10 - nI f)) ∧ MP len tx s l K ask trp N | .inr T => v = some (.int (nI T.1)) ∧ ∃ s2, MP 0 tx s2 [] (fun _ => none) ask trp N ∧ MS T.1 T.2.1 T.2.2.1 T.2.2.2.1 T.2.2.2.2.1 nm mc s2) := by
  refine CJ_of2 (n0 := 3) (by decide) rfl rfl ?_
  simp only [List.map_cons, List.map_nil, List.cons_append, List.nil_append, List.reduceReplicate]
  refine r_aload_n (i := 0) d_Model_tree_0 rfl rfl ?_
  refine r_iconst 0 d_Model_tree_1 ic_0 ?_
  refine r_puti nf_Model_75 nfin_Model_0 lm_0 rfl d_Model_tree_2 ?_
  refine r_aload_n (i := 0) d_Model_tree_5 rfl rfl ?_
  refine r_iconst (-1) d_Model_tree_6 ic_m1 ?_
  refine r_puti nf_Model_92 nfin_Model_4 lm_0 rfl d_Model_tree_7 ?_
  refine r_aload_n (i := 0) d_Model_tree_10 rfl rfl ?_
  refine r_iconst 0 d_Model_tree_11 ic_0 ?_
  refine r_puti nf_Model_85 nfin_Model_3 lm_0 rfl d_Model_tree_12 ?_
  refine r_aload_n (i := 0) d_Model_tree_15 rfl rfl ?_
  refine r_iconst 0 d_Model_tree_16 ic_0 ?_
  refine r_puti nf_Model_95 nfin_Model_15 lm_0 rfl d_Model_tree_17 ?_
  refine r_aload_n (i := 0) d_Model_tree_20 rfl rfl ?_
  refine r_iconst 0 d_Model_tree_21 ic_0 ?_
  refine r_puti nf_Model_98 nfin_Model_18 lm_0 rfl d_Model_tree_22 ?_
  refine r_aload_n (i := 0) d_Model_tree_25 rfl rfl ?_
  refine r_getr nf_Model_13 lm_0 rfl d_Model_tree_26 ?_
  refine r_iconst 0 d_Model_tree_29 ic_0 ?_
  refine r_iconst 0 d_Model_tree_30 ic_0 ?_
  refine r_ias (q := 0) lm_2 rfl (by omega) (by decide) d_Model_tree_31 ?_
  refine r_iconst 1 d_Model_tree_32 ic_1 ?_
  refine r_istore_n (i := 1) d_Model_tree_33 rfl (Nat.le_of_ble_eq_true rfl) rfl ?_
  dsimp only [List.set]
  refine r_iconst 1 d_Model_tree_34 ic_1 ?_
  refine r_istore_n (i := 2) d_Model_tree_35 rfl (Nat.le_of_ble_eq_true rfl) rfl ?_
  dsimp only [List.set]
  have hP := hP.th
  have hX : TXT len tx (m0 M) := ⟨hP.1, hP.2.1⟩
  refine l_Model_tree (M := m0 M) (R := runp tx len (len + 1) as0) hX hl (fun f N h1 h2 h3 h4 => ?_) (fun T N o1 o3 h1 h2 h3 => ?_) (len + 1) as0 _ _ (by show len + 1 ≤ 0 + (len + 1); omega) rfl ⟨⟨Nat.zero_le _, Nat.zero_le _, (fun m h => by cases h), rfl, ⟨by decide, fun k hk => absurd hk (Nat.not_lt_zero k)⟩, rfl⟩, trivial, fun h => absurd (show true = false from h) (by decide)⟩ ?_ ?_ ?_ ?_
  · rw [h2]
    obtain ⟨g1, g2, g3, g4, g5, g6, g7, g8⟩ := hP
    refine ⟨rfl, (h1.2 2 (by decide) (by decide) (by decide) (by decide)).trans g1, by rw [h1.1 1 (by decide) (by decide) (by decide) (by decide) (by decide)]; exact g2, by rw [h1.1 3 (by decide) (by decide) (by decide) (by decide) (by decide)]; exact g3, (h1.2 9 (by decide) (by decide) (by decide) (by decide)).trans g4, by rw [h1.1 5 (by decide) (by decide) (by decide) (by decide) (by decide)]; exact g5, ?_, (h1.2 12 (by decide) (by decide) (by decide) (by decide)).trans g7, (h1.2 13 (by decide) (by decide) (by decide) (by decide)).trans g8⟩
    unfold KP
    rw [h1.1 7 (by decide) (by decide) (by decide) (by decide) (by decide), h1.1 6 (by decide) (by decide) (by decide) (by decide) (by decide)]
    exact g6
  · rw [h2]
    have hn : T.1 ≤ 31 := (runp_le h2).1.1
    refine y0_Model_tree h3 (fun N2 k1 k2 k3 k4 k5 k6 k7 k8 => ?_)
    obtain ⟨g1, g2, g3, g4, g5, g6, g7, g8⟩ := hP
    have q3 : N 3 = (m0 M) 3 := h1.1 3 (by decide) (by decide) (by decide) (by decide) (by decide)
    refine ⟨rfl, N2 3, ⟨k3, fun j hj => absurd hj (Nat.not_lt_zero j), fun _ _ => rfl, k4, trivial, fun i hi => ?_, ((k2 12 (by decide) (by decide)).trans (h1.2 12 (by decide) (by decide) (by decide) (by decide))).trans g7, ((k2 13 (by decide) (by decide)).trans (h1.2 13 (by decide) (by decide) (by decide) (by decide))).trans g8⟩, ?_⟩
    · show N2 7 i = 0
      rcases Nat.lt_or_ge i 1 with q | q
      · rw [show i = 0 by omega]; exact k5
      · rw [show i = 1 by omega]; exact k6
    · refine ⟨by rw [k7 0 (by omega)]; exact h3.1, fun j hj => ?_, fun j hj => ?_, fun j hj => ?_⟩
      · rw [k7 _ (by omega), k7 _ (by omega), k7 _ (by omega), k7 _ (by omega)]
        exact h3.2 j hj
      · rw [k8 _ (by omega), q3, g3 _ (by omega)]
        exact hS.2.2.1 j hj
      · rw [k8 _ (by omega), q3, g3 _ (by omega)]
        exact hS.2.2.2 j hj
  · exact ⟨fun e e0 e2 _ _ _ => by unfold m0; simp (disch := omega) only [ms_ne], fun j e3 e4 e15 e18 => by unfold m0; simp (disch := omega) only [ms_same, ms_ne, upd_ne]⟩
  · simp (disch := omega) only [ms_same, ms_ne, upd_ne, upd_at]
  · simp (disch := omega) only [ms_same, ms_ne, upd_ne, upd_at]
    rfl
  · refine ⟨?_, ?_, trivial, trivial, trivial, ?_, fun j hj => absurd hj (Nat.not_lt_zero j)⟩
    · simp (disch := omega) only [ms_same, ms_ne, upd_ne, upd_at]; rfl
    · simp (disch := omega) only [ms_same, ms_ne, upd_ne, upd_at]; rfl
    · simp (disch := omega) only [ms_same, ms_ne, upd_ne, upd_at]; rfl

end MMu
