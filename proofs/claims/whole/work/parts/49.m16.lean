-- the model: parts, operators
/-- what a pile comes to, in a memory -/
def SO (r : Nat ⊕ (MK × List Nat × AT)) (len : Nat) (N : nw_M) : Prop := match r with
  | .inl f => N 0 4 = nI f ∧ f < len
  | .inr w => N 0 4 = -1 ∧ RQ w.1 w.2.1 w.2.2 N
section MMq
variable {G : nw_G} {M N B : nw_M} {len p : Nat} {tx : Nat → Int32} {mk : MK} {pr : List Nat} {T : AT}
theorem doit_tok {m : Int32 × Nat} {r : MK} (hm : mkOK m) (hg : ¬ o_grip m.1 < 1) (hpl : pr.length = nb (m :: r) + 1) (hT : TOK pr T) {w : List Nat × AT} (h : doit m.1 m.2 pr T = .inr w) : w.1.length = nb r + 1 ∧ TOK w.1 w.2 := by
  have h40 : m.1 ≠ 40 := fun e => hg (by rw [e]; decide)
  have hln := tok_len hT
  have hn := hT.1.1
  by_cases h1 : m.1 = 126
  · have e : nb (m :: r) = nb r := by rw [nb, if_pos (Or.inr h1)]; omega
    rw [e] at hpl
    match pr, hpl, hT, h with
    | [], hpl, _, _ => simp at hpl
    | x :: q, hpl, hT, h =>
      rw [doit, if_pos h1] at h
      simp only [adn] at h
      by_cases q31 : T.1 = 31
      · rw [if_pos q31] at h; cases h
      · rw [if_neg q31] at h
        cases h
        exact ⟨by simp only [List.length_cons] at *; omega, tok_one (by omega) hT⟩
  · have e : nb (m :: r) = nb r + 1 := by rw [nb, if_neg (by rintro (a | a); exact h40 a; exact h1 a)]
    rw [e] at hpl
    have hb : o_bin m.1 = true := by
      rcases hm with a | a | a
      · exact absurd a h40
      · exact absurd a h1
      · exact a
    match pr, hpl, hT, h with
    | [], hpl, _, _ => simp at hpl
    | [x], hpl, _, _ => simp at hpl
    | x :: y :: q, hpl, hT, h =>
      rw [doit, if_neg h1] at h
      simp only [adn] at h
      by_cases q31 : T.1 = 31
      · rw [if_pos q31] at h; cases h
      · rw [if_neg q31] at h
        cases h
        exact ⟨by simp only [List.length_cons] at *; omega, tok_two (by omega) hb hT⟩
theorem lw_go (h : lw mk = 126 ∨ o_prod (lw mk) = true) : ∃ m r, mk = m :: r ∧ ¬ o_grip m.1 < 2 := by
  cases mk with
  | nil => exact absurd h (by decide)
  | cons m r =>
    refine ⟨m, r, rfl, fun q => ?_⟩
    rw [grip2] at q
    rw [lw, wc_126, wc_prod] at h
    exact q h
theorem grip_12 {x : Int32} (h : ¬ o_grip x < 2) : ¬ o_grip x < 1 := fun q => h (by
  rw [grip1] at q; rw [grip2]; exact fun r => q (Or.inl r))
theorem s_Model_partDone {P : Option Value → nw_M → Prop} (hR : RQ mk pr T N) (hml : mk.length ≤ 60) (h4 : N 0 4 = -1) (hst : ¬ (lw mk = 126 ∨ o_prod (lw mk) = true) → P none N) (hgo : (lw mk = 126 ∨ o_prod (lw mk) = true) → RJ G LM m_Model_partDone 2 P 26 [some (.ref (G.2.2 0))] [] N) : RJ G LM m_Model_partDone 2 P 0 [some (.ref (G.2.2 0))] [] N := by
  refine r_aload_n (i := 0) d_Model_partDone_0 rfl rfl ?_
  refine r_V0 v_Model_isWell w_953 lm_0 (c_Model_isWell h4) (Nat.le_of_ble_eq_true rfl) (Nat.le_of_ble_eq_true rfl) d_Model_partDone_1 ?_
  refine r_if_eq 33 d_Model_partDone_4 (by decide) (fun h9 => absurd h9 (by decide)) (fun _ => ?_)
  refine r_aload_n (i := 0) d_Model_partDone_7 rfl rfl ?_
  refine r_V0 v_Model_lastWaiting w_985 lm_0 (c_Model_lastWaiting hR hml) (Nat.le_of_ble_eq_true rfl) (Nat.le_of_ble_eq_true rfl) d_Model_partDone_8 ?_
  refine r_bipush 126 d_Model_partDone_11 bp_126 ?_
  refine r_icmp_eq 26 d_Model_partDone_13 (by decide) (fun h_13 => hgo (Or.inl h_13)) (fun h_13 => ?_)
  refine r_aload_n (i := 0) d_Model_partDone_16 rfl rfl ?_
  refine r_V0 v_Model_lastWaiting w_985 lm_0 (c_Model_lastWaiting hR hml) (Nat.le_of_ble_eq_true rfl) (Nat.le_of_ble_eq_true rfl) d_Model_partDone_17 ?_
  refine r_S1 f_Model_isProduct w_989 (c_Model_isProduct _ _) (Nat.le_of_ble_eq_true rfl) (Nat.le_of_ble_eq_true rfl) d_Model_partDone_20 ?_
  refine r_if_eq 33 d_Model_partDone_23 (by decide) (fun h_23 => ?_) (fun h_23 => hgo (Or.inr ((bI_t _).mp h_23)))
  refine r_vret rfl d_Model_partDone_33 ?_
  exact hst (by rintro (a | a); exact h_13 a; rw [(bI_f _).mp h_23] at a; exact absurd a (by decide))
theorem xf_Model_partDone {P : Option Value → nw_M → Prop} {f : Nat} (hf : f ≤ 60) (h4 : N 0 4 = nI f) (hp : P none N) : RJ G LM m_Model_partDone 2 P 0 [some (.ref (G.2.2 0))] [] N := by
  refine r_aload_n (i := 0) d_Model_partDone_0 rfl rfl ?_
  refine r_V0 v_Model_isWell w_953 lm_0 (c0_Model_isWell (f := f) hf h4) (Nat.le_of_ble_eq_true rfl) (Nat.le_of_ble_eq_true rfl) d_Model_partDone_1 ?_
  refine r_if_eq 33 d_Model_partDone_4 (by decide) (fun _ => ?_) (fun h9 => absurd rfl h9)
  exact r_vret rfl d_Model_partDone_33 hp
theorem l_Model_partDone {P : Option Value → nw_M → Prop} {R : Nat ⊕ (MK × List Nat × AT)} (hlen : len ≤ 60) (hP : ∀ N, RFm M N → N 0 3 = M 0 3 → SO R len N → P none N) : ∀ (mk : MK) (pr : List Nat) (T : AT) (N : nw_M), (∀ m ∈ mk, mkOK m ∧ m.2 < len) → mk.length ≤ 60 → pr.length = nb mk + 1 → TOK pr T → RQ mk pr T N → N 0 4 = -1 → RFm M N → N 0 3 = M 0 3 → stl 2 mk pr T = R → RJ G LM m_Model_partDone 2 P 0 [some (.ref (G.2.2 0))] [] N := by
  intro mk
  induction mk with
  | nil =>
    intro pr T N hm hml hpl hT hR h4 hF h3 hst
    exact s_Model_partDone hR hml h4 (fun _ => hP N hF h3 (by rw [← hst]; exact ⟨h4, hR⟩)) (fun h => absurd h (by decide))
  | cons m r ih =>
    intro pr T N hm hml hpl hT hR h4 hF h3 hst
    refine s_Model_partDone hR hml h4 (fun h => hP N hF h3 (by rw [← hst, stl2_stop h]; exact ⟨h4, hR⟩)) (fun h => ?_)
    have hg : ¬ o_grip m.1 < 2 := by
      obtain ⟨m2, r2, e, hg⟩ := lw_go h
      cases e
      exact hg
    simp only [List.length_cons] at hml
    refine r_aload_n (i := 0) d_Model_partDone_26 rfl rfl ?_
    refine r_W0 v_Model_doesLast w_992 lm_0 (c_Model_doesLast (hm m List.mem_cons_self).1 (grip_12 hg) hR hT hpl (by omega)) (Nat.le_of_ble_eq_true rfl) (Nat.le_of_ble_eq_true rfl) d_Model_partDone_27 (fun v N1 hv => ?_)
    obtain ⟨rfl, f1, f2, f3⟩ := hv
    refine r_goto 0 d_Model_partDone_30 (by decide) ?_
    have hF1 := hF.tr f1
    have h31 := f2.trans h3
    rcases f3 with ⟨a1, a2⟩ | ⟨w, a1, a2, a3⟩
    · have hlt := (hm m List.mem_cons_self).2
      exact xf_Model_partDone (f := m.2) (by omega) a2 (hP N1 hF1 h31 (by rw [← hst, stl_f hg a1]; exact ⟨a2, hlt⟩))
    · have ht := doit_tok (hm m List.mem_cons_self).1 (grip_12 hg) hpl hT a1
      exact ih w.1 w.2 N1 (fun m2 hm2 => hm m2 (List.mem_cons_of_mem _ hm2)) (by omega) ht.1 ht.2 a3 (a2.trans h4) hF1 h31 (by rw [← stl_s hg a1]; exact hst)
theorem c_Model_partDone (hlen : len ≤ 60) (hm : ∀ m ∈ mk, mkOK m ∧ m.2 < len) (hml : mk.length ≤ 60) (hpl : pr.length = nb mk + 1) (hT : TOK pr T) (hR : RQ mk pr T M) (h4 : M 0 4 = -1) : CJ G LM m_Model_partDone 2 [.ref (G.2.2 0)] M (fun v N => v = none ∧ RFm M N ∧ N 0 3 = M 0 3 ∧ SO (stl 2 mk pr T) len N) := by
  refine CJ_of2 (n0 := 0) (by decide) rfl rfl ?_
  simp only [List.map_cons, List.map_nil, List.cons_append, List.nil_append, List.reduceReplicate]
  exact l_Model_partDone hlen (fun N a b c => ⟨rfl, a, b, c⟩) mk pr T M hm hml hpl hT hR h4 (RFm.rf M) rfl rfl
/-- the place of the next letter that is no blank -/
def bl (tx : Nat → Int32) (len : Nat) : Nat → Nat → Nat
  | 0, p => p
  | f + 1, p => if ltr tx len p = 32 then bl tx len f (p + 1) else p
theorem ltr_lt (h : ltr tx len p ≠ -1) : p < len := by
  rcases Nat.lt_or_ge p len with q | q
  · exact q
  · exact absurd (by rw [ltr, if_neg (by omega)]) h
theorem l_Model_blanks (hX : TXT len tx M) (hl : len ≤ 60) {P : Option Value → nw_M → Prop} {r : Nat} (hP : ltr tx len r ≠ 32 → r ≤ len → ∀ N, (∀ e, e ≠ 0 → N e = M e) → (∀ j, j ≠ 3 → N 0 j = M 0 j) → N 0 3 = nI r → P none N) : ∀ (f p : Nat) (N : nw_M), f + p = len → bl tx len f p = r → (∀ e, e ≠ 0 → N e = M e) → (∀ j, j ≠ 3 → N 0 j = M 0 j) → N 0 3 = nI p → RJ G LM m_Model_blanks 1 P 0 [some (.ref (G.2.2 0))] [] N := by
  intro f
  induction f with
  | zero =>
    intro p N hfp hb hF h0 h3
    have hXn : TXT len tx N := ⟨(h0 2 (by decide)).trans hX.1, fun j hj => by rw [hF 1 (by decide)]; exact hX.2 j hj⟩
    have hne : ltr tx len p ≠ 32 := fun q => by have := ltr_lt (tx := tx) (len := len) (p := p) (by rw [q]; decide); omega
    refine r_aload_n (i := 0) d_Model_blanks_0 rfl rfl ?_
    refine r_aload_n (i := 0) d_Model_blanks_1 rfl rfl ?_
    refine r_gx nf_Model_85 lm_0 rfl h3 d_Model_blanks_2 ?_
    refine r_V1 v_Model_letterAt w_961 lm_0 (c_Model_letterAt hXn hl (by omega)) (Nat.le_of_ble_eq_true rfl) (Nat.le_of_ble_eq_true rfl) d_Model_blanks_5 ?_
    refine r_bipush 32 d_Model_blanks_8 bp_32 ?_
    refine r_icmp_ne 26 d_Model_blanks_10 (by decide) (fun _ => ?_) (fun h9 => absurd h9 hne)
    have e : p = r := hb
    subst e
    exact r_vret rfl d_Model_blanks_26 (hP hne (by omega) N hF h0 h3)
  | succ f ih =>
    intro p N hfp hb hF h0 h3
    have hXn : TXT len tx N := ⟨(h0 2 (by decide)).trans hX.1, fun j hj => by rw [hF 1 (by decide)]; exact hX.2 j hj⟩
    rw [bl] at hb
    refine r_aload_n (i := 0) d_Model_blanks_0 rfl rfl ?_
    refine r_aload_n (i := 0) d_Model_blanks_1 rfl rfl ?_
    refine r_gx nf_Model_85 lm_0 rfl (h3) d_Model_blanks_2 ?_
    refine r_V1 v_Model_letterAt w_961 lm_0 (c_Model_letterAt hXn hl (by omega)) (Nat.le_of_ble_eq_true rfl) (Nat.le_of_ble_eq_true rfl) d_Model_blanks_5 ?_
    refine r_bipush 32 d_Model_blanks_8 bp_32 ?_
    refine r_icmp_ne 26 d_Model_blanks_10 (by decide) (fun h_10 => ?_) (fun h_10 => ?_)
    · skip
      refine r_vret rfl d_Model_blanks_26 ?_
      rw [if_neg h_10] at hb
      subst hb
      exact hP h_10 (by omega) N hF h0 h3
    · skip
      refine r_aload_n (i := 0) d_Model_blanks_13 rfl rfl ?_
      refine r_dup d_Model_blanks_14 rfl ?_
      refine r_gx nf_Model_85 lm_0 rfl (h3) d_Model_blanks_15 ?_
      refine r_iconst 1 d_Model_blanks_18 ic_1 ?_
      refine r_iaddN (a := p) (b := 1) d_Model_blanks_19 rfl rfl ?_
      refine r_puti nf_Model_85 nfin_Model_3 lm_0 rfl d_Model_blanks_20 ?_
      refine r_goto 0 d_Model_blanks_23 (by decide) ?_
      rw [if_pos h_10] at hb
      exact ih (p + 1) _ (by omega) hb (fun e he => by rw [ms_ne _ _ he]; exact hF e he) (fun j hj => by rw [ms_same, upd_ne _ _ hj]; exact h0 j hj) (by rw [ms_same, upd_at])

theorem c_Model_blanks (hX : TXT len tx M) (hl : len ≤ 60) (hp : p ≤ len) (h3 : M 0 3 = nI p) : CJ G LM m_Model_blanks 1 [.ref (G.2.2 0)] M (fun v N => v = none ∧ (∀ e, e ≠ 0 → N e = M e) ∧ (∀ j, j ≠ 3 → N 0 j = M 0 j) ∧ N 0 3 = nI (bl tx len (len - p) p) ∧ ltr tx len (bl tx len (len - p) p) ≠ 32 ∧ bl tx len (len - p) p ≤ len) := by
  refine CJ_of2 (n0 := 0) (by decide) rfl rfl ?_
  simp only [List.map_cons, List.map_nil, List.cons_append, List.nil_append, List.reduceReplicate]
  exact l_Model_blanks hX hl (fun h1 h2 N a b c => ⟨rfl, a, b, c, h1, h2⟩) (len - p) p M (by omega) rfl (fun _ _ => rfl) (fun _ _ => rfl) h3
/-- the number so far, behind j digits; d0 the first, d1 the second -/
def NV (d0 d1 j v : Nat) : Prop := v ≤ 999 ∧ (j = 0 → v = 0) ∧ (j = 1 → v = d0) ∧ (j = 2 → d0 ≠ 0 → v = 10 * d0 + d1) ∧ (3 ≤ j → d0 ≠ 0 → 99 < v)
theorem NV.big {d0 d1 j v : Nat} (h : NV d0 d1 j v) (h0 : d0 < 10) (h1 : d1 < 10) (hv : 99 < v) : NV d0 d1 (j + 1) v := by
  obtain ⟨a, b, c, d, e⟩ := h
  refine ⟨a, fun q => by omega, fun q => ?_, fun q r => ?_, fun q r => hv⟩
  · have := b (by omega); omega
  · have := c (by omega); omega
theorem NV.add {d0 d1 j v x : Nat} (h : NV d0 d1 j v) (h0 : d0 < 10) (hx : x < 10) (hv : ¬ 99 < v) (e0 : j = 0 → x = d0) (e1 : j = 1 → x = d1) : NV d0 d1 (j + 1) (10 * v + x) := by
  obtain ⟨a, b, c, d, e⟩ := h
  refine ⟨by omega, fun q => by omega, fun q => ?_, fun q r => ?_, fun q r => ?_⟩
  · have := b (by omega); have := e0 (by omega); omega
  · have := c (by omega); have := e1 (by omega); omega
  · rcases Nat.lt_or_ge 2 j with q2 | q2
    · exact absurd (e q2 r) hv
    · have := d (by omega) r; omega
theorem in_dg (c : Int32) : decide (¬ c < 48 ∧ ¬ (57 : Int32) < c) = isDg c := by unfold isDg; rw [Bool.decide_and]
theorem ten_dg (v d : Nat) : (10 : Int32) * nI v + nI (48 + d) - 48 = nI (10 * v + d) := by
  rw [show (10 : Int32) = nI 10 from rfl, pk_mul, nI_add, show (48 : Int32) = nI 48 from rfl, pk_sub (by omega)]
  congr 1
  omega
theorem ltr_in (h : p < len) : ltr tx len p = tx p := by rw [ltr, if_pos h]
theorem dg_m1 : isDg (-1) = false := by decide
theorem dgs_stop (h : isDg (ltr tx len p) = false) : dgs tx p (len - p) = 0 := by
  cases e : len - p with
  | zero => rfl
  | succ f => rw [dgs, if_neg]; rw [ltr_in (by omega)] at h; rw [h]; decide
theorem dgs_go (h : isDg (ltr tx len p) = true) : p < len ∧ dgs tx p (len - p) = dgs tx (p + 1) (len - (p + 1)) + 1 := by
  have hp : p < len := ltr_lt (tx := tx) (fun q => by rw [q, dg_m1] at h; exact absurd h (by decide))
  refine ⟨hp, ?_⟩
  rw [show len - p = len - (p + 1) + 1 by omega, dgs, if_pos]
  rw [ltr_in hp] at h; exact h
set_option maxHeartbeats 1000000 in
theorem l_Model_readsNumber (hX : TXT len tx M) (hl : len ≤ 60) {d0 d1 D : Nat} (hd0 : d0 < 10) (hd1 : d1 < 10) (e0 : tx p = nI (48 + d0)) (e1 : 2 ≤ D → tx (p + 1) = nI (48 + d1)) (hDp : p + D ≤ len) {P : Option Value → nw_M → Prop} (hP : ∀ (v : Nat) (N : nw_M), NV d0 d1 D v → (∀ e, e ≠ 0 → N e = M e) → (∀ j, j ≠ 3 → N 0 j = M 0 j) → N 0 3 = nI (p + D) → RJ G LM m_Model_readsNumber 1 P 65 [some (.ref (G.2.2 0)), some (.int (nI p)), some (.int (nI v))] [] N) : ∀ (f j v : Nat) (N : nw_M), j + f = D → dgs tx (p + j) (len - (p + j)) = f → NV d0 d1 j v → (∀ e, e ≠ 0 → N e = M e) → (∀ i, i ≠ 3 → N 0 i = M 0 i) → N 0 3 = nI (p + j) → RJ G LM m_Model_readsNumber 1 P 7 [some (.ref (G.2.2 0)), some (.int (nI p)), some (.int (nI v))] [] N := by
  intro f
  induction f with
  | zero =>
    intro j v N hfj hdg hv hF h0 h3
    have hXn : TXT len tx N := ⟨(h0 2 (by decide)).trans hX.1, fun j hj => by rw [hF 1 (by decide)]; exact hX.2 j hj⟩
    have hnd : isDg (ltr tx len (p + j)) = false := by
      cases q : isDg (ltr tx len (p + j)) with
      | false => rfl
      | true => have := (dgs_go q).2; omega
    simp only [Nat.add_zero] at hfj
    subst hfj
    refine r_aload_n (i := 0) d_Model_readsNumber_7 rfl rfl ?_
    refine r_aload_n (i := 0) d_Model_readsNumber_8 rfl rfl ?_
    refine r_gx nf_Model_85 lm_0 rfl h3 d_Model_readsNumber_9 ?_
    refine r_V1 v_Model_letterAt w_961 lm_0 (c_Model_letterAt hXn hl (by omega)) (Nat.le_of_ble_eq_true rfl) (Nat.le_of_ble_eq_true rfl) d_Model_readsNumber_12 ?_
    refine r_bipush 48 d_Model_readsNumber_15 bp_48 ?_
    refine r_bipush 57 d_Model_readsNumber_17 bp_57 ?_
    refine r_S3 f_Model_in w_942 (c_Model_in _ _ _ _) (Nat.le_of_ble_eq_true rfl) (Nat.le_of_ble_eq_true rfl) d_Model_readsNumber_19 ?_
    refine r_if_eq 65 d_Model_readsNumber_22 (by decide) (fun _ => ?_) (fun h9 => absurd (by rw [in_dg, hnd]; rfl) h9)
    exact hP v N hv hF h0 h3
  | succ f ih =>
    intro j v N hfj hdg hv hF h0 h3
    have hXn : TXT len tx N := ⟨(h0 2 (by decide)).trans hX.1, fun j hj => by rw [hF 1 (by decide)]; exact hX.2 j hj⟩
    have hisd : isDg (ltr tx len (p + j)) = true := by
      cases q : isDg (ltr tx len (p + j)) with
      | true => rfl
      | false => have := dgs_stop q; omega
    have hgo := dgs_go hisd
    obtain ⟨x, hx, ex⟩ := isDg_v hisd
    have exx : tx (p + j) = nI (48 + x) := by rw [← ltr_in (tx := tx) hgo.1]; exact ex
    refine r_aload_n (i := 0) d_Model_readsNumber_7 rfl rfl ?_
    refine r_aload_n (i := 0) d_Model_readsNumber_8 rfl rfl ?_
    refine r_gx nf_Model_85 lm_0 rfl (h3) d_Model_readsNumber_9 ?_
    refine r_V1 v_Model_letterAt w_961 lm_0 (c_Model_letterAt hXn hl (by omega)) (Nat.le_of_ble_eq_true rfl) (Nat.le_of_ble_eq_true rfl) d_Model_readsNumber_12 ?_
    refine r_bipush 48 d_Model_readsNumber_15 bp_48 ?_
    refine r_bipush 57 d_Model_readsNumber_17 bp_57 ?_
    refine r_S3 f_Model_in w_942 (c_Model_in _ _ _ _ ) (Nat.le_of_ble_eq_true rfl) (Nat.le_of_ble_eq_true rfl) d_Model_readsNumber_19 ?_
    refine r_if_eq 65 d_Model_readsNumber_22 (by decide) (fun h_22 => ?_) (fun h_22 => ?_)
    · skip
      exact absurd ((bI_f _).mp h_22) (by rw [in_dg, hisd]; decide)
    · skip
      refine r_iload_n (i := 2) d_Model_readsNumber_25 rfl rfl ?_
      refine r_bipush 99 d_Model_readsNumber_26 bp_99 ?_
      refine r_icmp_le 35 d_Model_readsNumber_28 (by decide) (fun h_28 => ?_) (fun h_28 => ?_)
      · skip
        refine r_bipush 10 d_Model_readsNumber_35 bp_10 ?_
        refine r_iload_n (i := 2) d_Model_readsNumber_37 rfl rfl ?_
        refine r_imul d_Model_readsNumber_38 ?_
        refine r_aload_n (i := 0) d_Model_readsNumber_39 rfl rfl ?_
        refine r_aload_n (i := 0) d_Model_readsNumber_40 rfl rfl ?_
        refine r_gx nf_Model_85 lm_0 rfl (h3) d_Model_readsNumber_41 ?_
        refine r_V1 v_Model_letterAt w_961 lm_0 (CF_eq (c_Model_letterAt hXn hl (by omega)) (show _ = some (Value.int (nI (48 + x))) by rw [ex]) rfl) (Nat.le_of_ble_eq_true rfl) (Nat.le_of_ble_eq_true rfl) d_Model_readsNumber_44 ?_
        refine r_iadd d_Model_readsNumber_47 ?_
        refine r_bipush 48 d_Model_readsNumber_48 bp_48 ?_
        refine r_isub d_Model_readsNumber_50 ?_
        first | refine r_nrm (ten_dg v x) ?_ | skip
        refine r_istore_n (i := 2) d_Model_readsNumber_51 rfl (Nat.le_of_ble_eq_true rfl) rfl ?_
        dsimp only [List.set]
        refine r_aload_n (i := 0) d_Model_readsNumber_52 rfl rfl ?_
        refine r_dup d_Model_readsNumber_53 rfl ?_
        refine r_gx nf_Model_85 lm_0 rfl (h3) d_Model_readsNumber_54 ?_
        refine r_iconst 1 d_Model_readsNumber_57 ic_1 ?_
        refine r_iaddN (a := (p + j)) (b := 1) d_Model_readsNumber_58 rfl rfl ?_
        refine r_puti nf_Model_85 nfin_Model_3 lm_0 rfl d_Model_readsNumber_59 ?_
        refine r_goto 7 d_Model_readsNumber_62 (by decide) ?_
        have hv9 : ¬ 99 < v := fun q => by
          have := (nI_leI (a := v) (b := 99) (by have := hv.1; omega) (by omega)).mp h_28
          omega
        exact ih (j + 1) (10 * v + x) _ (by omega) (by have := hgo.2; rw [show p + (j + 1) = p + j + 1 by omega]; omega) (hv.add hd0 hx hv9 (fun q => by subst q; have q1 : nI (48 + x) = nI (48 + d0) := exx.symm.trans e0; have := (nI_eq (by omega) (by omega)).mp q1; omega) (fun q => by subst q; have q1 : nI (48 + x) = nI (48 + d1) := exx.symm.trans (e1 (by omega)); have := (nI_eq (by omega) (by omega)).mp q1; omega)) (fun e he => by rw [ms_ne _ _ he]; exact hF e he) (fun i hi => by rw [ms_same, upd_ne _ _ hi]; exact h0 i hi) (by rw [ms_same, upd_at]; rfl)
      · skip
        refine r_iload_n (i := 2) d_Model_readsNumber_31 rfl rfl ?_
        refine r_goto 51 d_Model_readsNumber_32 (by decide) ?_
        first | refine r_nrm (ten_dg v x) ?_ | skip
        refine r_istore_n (i := 2) d_Model_readsNumber_51 rfl (Nat.le_of_ble_eq_true rfl) rfl ?_
        dsimp only [List.set]
        refine r_aload_n (i := 0) d_Model_readsNumber_52 rfl rfl ?_
        refine r_dup d_Model_readsNumber_53 rfl ?_
        refine r_gx nf_Model_85 lm_0 rfl (h3) d_Model_readsNumber_54 ?_
        refine r_iconst 1 d_Model_readsNumber_57 ic_1 ?_
        refine r_iaddN (a := (p + j)) (b := 1) d_Model_readsNumber_58 rfl rfl ?_
        refine r_puti nf_Model_85 nfin_Model_3 lm_0 rfl d_Model_readsNumber_59 ?_
        refine r_goto 7 d_Model_readsNumber_62 (by decide) ?_
        have hv9 : 99 < v := by
          rcases Nat.lt_or_ge 99 v with q | q
          · exact q
          · exact absurd (show nI v ≤ nI 99 from nI_le q (by omega)) h_28
        exact ih (j + 1) v _ (by omega) (by have := hgo.2; rw [show p + (j + 1) = p + j + 1 by omega]; omega) (hv.big hd0 hd1 hv9) (fun e he => by rw [ms_ne _ _ he]; exact hF e he) (fun i hi => by rw [ms_same, upd_ne _ _ hi]; exact h0 i hi) (by rw [ms_same, upd_at]; rfl)

end MMq
