-- the model: reading
/-- a mark as the model has it -/
def wc (x : Int32) : Int32 := if x = 40 then 0 else x
def lw : MK → Int32
  | [] => 0
  | m :: _ => wc m.1
def DR (T : AT) (M : nw_M) : Prop := M 2 0 = nI T.1 ∧ ∀ j, j < T.1 → M 2 (1 + j) = T.2.1 j ∧ M 2 (32 + j) = T.2.2.1 j ∧ M 2 (63 + j) = T.2.2.2.1 j ∧ M 2 (94 + j) = T.2.2.2.2.1 j
def RQ (mk : MK) (pr : List Nat) (T : AT) (M : nw_M) : Prop := M 0 18 = nI mk.length ∧ M 0 15 = nI pr.length ∧ stk (M 9) (mk.map (fun m => wc m.1)) ∧ stk (M 10) (mk.map (fun m => nI m.2)) ∧ stk (M 8) (pr.map nI) ∧ DR T M
def RFm (M N : nw_M) : Prop := (∀ e, e ≠ 0 → e ≠ 2 → e ≠ 8 → e ≠ 9 → e ≠ 10 → N e = M e) ∧ ∀ j, j ≠ 3 → j ≠ 4 → j ≠ 15 → j ≠ 18 → N 0 j = M 0 j
def TXT (len : Nat) (tx : Nat → Int32) (M : nw_M) : Prop := M 0 2 = nI len ∧ ∀ j, j < len → M 1 j = tx j
section MMr
variable {G : nw_G} {M N B : nw_M} {len p : Nat} {tx : Nat → Int32} {mk : MK} {pr : List Nat} {T : AT}
theorem RFm.tr {A B C : nw_M} (h : RFm A B) (h2 : RFm B C) : RFm A C := ⟨fun e a b c d f => (h2.1 e a b c d f).trans (h.1 e a b c d f), fun j a b c d => (h2.2 j a b c d).trans (h.2 j a b c d)⟩
theorem RFm.rf (M : nw_M) : RFm M M := ⟨fun _ _ _ _ _ _ => rfl, fun _ _ _ _ _ => rfl⟩
theorem TXT.of (h : TXT len tx M) (hf : RFm M N) : TXT len tx N := ⟨(hf.2 2 (by decide) (by decide) (by decide) (by decide)).trans h.1, fun j hj => by rw [hf.1 1 (by decide) (by decide) (by decide) (by decide) (by decide)]; exact h.2 j hj⟩
theorem wc_126 {x : Int32} : wc x = 126 ↔ x = 126 := by
  unfold wc
  by_cases h : x = 40
  · rw [if_pos h, h]; decide
  · rw [if_neg h]
theorem wc_prod (x : Int32) : o_prod (wc x) = o_prod x := by
  unfold wc
  by_cases h : x = 40
  · rw [if_pos h, h]; decide
  · rw [if_neg h]
theorem wc_sum (x : Int32) : o_sum (wc x) = o_sum x := by
  unfold wc
  by_cases h : x = 40
  · rw [if_pos h, h]; decide
  · rw [if_neg h]
theorem grip2 (x : Int32) : (o_grip x < 2) ↔ ¬ (x = 126 ∨ o_prod x = true) := by
  unfold o_grip
  by_cases h : x = 126
  · simp [h]
  · rw [if_neg h]
    by_cases q : o_prod x = true
    · simp [q, h]
    · rw [if_neg q]
      have : (if o_sum x = true then (1 : Int32) else 0) < 2 := by split <;> decide
      exact ⟨fun _ => by rintro (a | a); exact h a; exact q a, fun _ => this⟩
theorem grip1 (x : Int32) : (o_grip x < 1) ↔ ¬ ((x = 126 ∨ o_prod x = true) ∨ o_sum x = true) := by
  unfold o_grip
  by_cases h : x = 126
  · simp [h]
  · rw [if_neg h]
    by_cases q : o_prod x = true
    · simp [q, h]
    · rw [if_neg q]
      by_cases r : o_sum x = true
      · simp [r]
      · rw [if_neg r]
        exact ⟨fun _ => by rintro ((a | a) | a); exact h a; exact q a; exact r a, fun _ => by decide⟩
theorem stl2_stop (h : ¬ (lw mk = 126 ∨ o_prod (lw mk) = true)) : stl 2 mk pr T = .inr (mk, pr, T) := by
  cases mk with
  | nil => rfl
  | cons m r =>
    rw [stl, if_pos]
    rw [grip2]
    rw [lw, wc_126, wc_prod] at h
    exact h
theorem c_Model_letterAt (hX : TXT len tx M) (hl : len ≤ 60) (hp : p ≤ 60) : CF G LM m_Model_letterAt 0 [.ref (G.2.2 0), .int (nI p)] M (some (.int (ltr tx len p))) M := by
  refine CJ_of2 (n0 := 0) (by decide) rfl rfl ?_
  simp only [List.map_cons, List.map_nil, List.cons_append, List.nil_append, List.reduceReplicate]
  refine r_iload_n (i := 1) d_Model_letterAt_0 rfl rfl ?_
  refine r_aload_n (i := 0) d_Model_letterAt_1 rfl rfl ?_
  refine r_gx nf_Model_82 lm_0 rfl (hX.1) d_Model_letterAt_2 ?_
  refine r_icmp_ge 17 d_Model_letterAt_5 (by decide) (fun h_5 => ?_) (fun h_5 => ?_)
  · skip
    refine r_iconst (-1) d_Model_letterAt_17 ic_m1 ?_
    refine r_iret rfl d_Model_letterAt_18 ?_
    first
      | exact ⟨by rw [ltr, if_pos q], rfl⟩
      | exact ⟨by rw [ltr, if_neg (by have := (nI_leI (by omega) (by omega)).mp h_5; omega)], rfl⟩
  · skip
    have q : p < len := by
      rcases Nat.lt_or_ge p len with q | q
      · exact q
      · exact absurd (nI_le q (by omega)) h_5
    refine r_aload_n (i := 0) d_Model_letterAt_8 rfl rfl ?_
    refine r_getr nf_Model_7 lm_0 rfl d_Model_letterAt_9 ?_
    refine r_iload_n (i := 1) d_Model_letterAt_12 rfl rfl ?_
    refine r_ia (q := p) lm_1 rfl (by omega) (by decide) (hX.2 p q) d_Model_letterAt_13 ?_
    refine r_goto 18 d_Model_letterAt_14 (by decide) ?_
    refine r_iret rfl d_Model_letterAt_18 ?_
    first
      | exact ⟨by rw [ltr, if_pos q], rfl⟩
      | exact ⟨by rw [ltr, if_neg (by have := (nI_leI (by omega) (by omega)).mp h_5; omega)], rfl⟩

theorem c_Model_isWell (h : M 0 4 = -1) : CF G LM m_Model_isWell 0 [.ref (G.2.2 0)] M (some (.int 1)) M := by
  refine CJ_of2 (n0 := 0) (by decide) rfl rfl ?_
  simp only [List.map_cons, List.map_nil, List.cons_append, List.nil_append, List.reduceReplicate]
  refine r_aload_n (i := 0) d_Model_isWell_0 rfl rfl ?_
  refine r_gx nf_Model_92 lm_0 rfl (h) d_Model_isWell_1 ?_
  refine r_if_ge 11 d_Model_isWell_4 (by decide) (fun h_4 => ?_) (fun h_4 => ?_)
  · exact absurd h_4 (by decide)
  · skip
    refine r_iconst 1 d_Model_isWell_7 ic_1 ?_
    refine r_goto 12 d_Model_isWell_8 (by decide) ?_
    refine r_zret rfl (by decide) d_Model_isWell_12 ?_
    exact ⟨rfl, rfl⟩

theorem c0_Model_isWell {f : Nat} (hf : f ≤ 60) (h : M 0 4 = nI f) : CF G LM m_Model_isWell 0 [.ref (G.2.2 0)] M (some (.int 0)) M := by
  refine CJ_of2 (n0 := 0) (by decide) rfl rfl ?_
  simp only [List.map_cons, List.map_nil, List.cons_append, List.nil_append, List.reduceReplicate]
  refine r_aload_n (i := 0) d_Model_isWell_0 rfl rfl ?_
  refine r_gx nf_Model_92 lm_0 rfl (h) d_Model_isWell_1 ?_
  refine r_if_ge 11 d_Model_isWell_4 (by decide) (fun h_4 => ?_) (fun h_4 => ?_)
  · skip
    refine r_iconst 0 d_Model_isWell_11 ic_0 ?_
    refine r_zret rfl (by decide) d_Model_isWell_12 ?_
    exact ⟨rfl, rfl⟩
  · skip
    exact absurd (nI_pos' (by omega)) h_4

theorem c_Model_lastWaiting (hR : RQ mk pr T M) (hl : mk.length ≤ 60) : CF G LM m_Model_lastWaiting 0 [.ref (G.2.2 0)] M (some (.int (lw mk))) M := by
  refine CJ_of2 (n0 := 0) (by decide) rfl rfl ?_
  simp only [List.map_cons, List.map_nil, List.cons_append, List.nil_append, List.reduceReplicate]
  refine r_aload_n (i := 0) d_Model_lastWaiting_0 rfl rfl ?_
  refine r_gx nf_Model_98 lm_0 rfl (hR.1) d_Model_lastWaiting_1 ?_
  refine r_if_ne 11 d_Model_lastWaiting_4 (by decide) (fun h_4 => ?_) (fun h_4 => ?_)
  · skip
    have q : mk.length ≠ 0 := fun q => h_4 (by rw [q]; rfl)
    obtain ⟨m, r, rfl⟩ : ∃ m r, mk = m :: r := by
      cases mk with
      | nil => exact absurd rfl q
      | cons m r => exact ⟨m, r, rfl⟩
    simp only [List.length_cons] at hl
    refine r_aload_n (i := 0) d_Model_lastWaiting_11 rfl rfl ?_
    refine r_getr nf_Model_35 lm_0 rfl d_Model_lastWaiting_12 ?_
    refine r_aload_n (i := 0) d_Model_lastWaiting_15 rfl rfl ?_
    refine r_gx nf_Model_98 lm_0 rfl (hR.1) d_Model_lastWaiting_16 ?_
    refine r_iconst 1 d_Model_lastWaiting_19 ic_1 ?_
    refine r_isubN (a := (m :: r).length) (b := 1) d_Model_lastWaiting_20 rfl rfl (by omega) ?_
    refine r_ia (q := ((m :: r).length - 1)) lm_9 rfl (by simp only [List.length_cons]; omega) (by decide) ((by have := hR.2.2.1.1; simp only [List.length_map] at this; simp only [List.length_cons, Nat.add_sub_cancel]; exact this : M 9 ((m :: r).length - 1) = wc m.1)) d_Model_lastWaiting_21 ?_
    refine r_iret rfl d_Model_lastWaiting_22 ?_
    first
      | exact ⟨rfl, rfl⟩
      | (have q : mk.length = 0 := (nI_eq (by omega) (by omega)).mp (show nI mk.length = nI 0 from h_4)
         have q2 : mk = [] := List.eq_nil_of_length_eq_zero q
         rw [q2]
         exact ⟨rfl, rfl⟩)
  · skip
    refine r_iconst 0 d_Model_lastWaiting_7 ic_0 ?_
    refine r_goto 22 d_Model_lastWaiting_8 (by decide) ?_
    refine r_iret rfl d_Model_lastWaiting_22 ?_
    first
      | exact ⟨rfl, rfl⟩
      | (have q : mk.length = 0 := (nI_eq (by omega) (by omega)).mp (show nI mk.length = nI 0 from h_4)
         have q2 : mk = [] := List.eq_nil_of_length_eq_zero q
         rw [q2]
         exact ⟨rfl, rfl⟩)

set_option maxHeartbeats 1000000 in
theorem c_Model_makes (a b c d : Int32) (zz p : Nat) (hR : RQ mk pr T M) (hn : T.1 ≤ 31) (hl : pr.length ≤ T.1) : CJ G LM m_Model_makes 0 [.ref (G.2.2 0), .int a, .int b, .int c, .int d, .int (nI p)] M (fun v N => v = none ∧ RFm M N ∧ N 0 3 = M 0 3 ∧ ((adn pr T a b c d zz p = .inl p ∧ N 0 4 = nI p) ∨ ∃ w, adn pr T a b c d zz p = .inr w ∧ N 0 4 = M 0 4 ∧ RQ mk w.1 w.2 N)) := by
  refine CJ_of2 (n0 := 1) (by decide) rfl rfl ?_
  simp only [List.map_cons, List.map_nil, List.cons_append, List.nil_append, List.reduceReplicate]
  refine r_aload_n (i := 0) d_Model_makes_0 rfl rfl ?_
  refine r_getr nf_Model_13 lm_0 rfl d_Model_makes_1 ?_
  refine r_iconst 0 d_Model_makes_4 ic_0 ?_
  refine r_ia (q := 0) lm_2 rfl (by omega) (by decide) (hR.2.2.2.2.2.1) d_Model_makes_5 ?_
  refine r_istore d_Model_makes_6 (Nat.le_of_ble_eq_true rfl) rfl ?_
  dsimp only [List.set]
  refine r_iload d_Model_makes_8 rfl ?_
  refine r_bipush 31 d_Model_makes_10 bp_31 ?_
  refine r_icmp_ne 22 d_Model_makes_12 (by decide) (fun h_12 => ?_) (fun h_12 => ?_)
  · skip
    have q : T.1 ≠ 31 := fun q => h_12 (by rw [q]; rfl)
    refine r_aload_n (i := 0) d_Model_makes_22 rfl rfl ?_
    refine r_getr nf_Model_13 lm_0 rfl d_Model_makes_23 ?_
    refine r_iconst 1 d_Model_makes_26 ic_1 ?_
    refine r_iload d_Model_makes_27 rfl ?_
    refine r_iaddN (a := 1) (b := T.1) d_Model_makes_29 rfl rfl ?_
    refine r_iload_n (i := 1) d_Model_makes_30 rfl rfl ?_
    refine r_ias (q := (1 + T.1)) lm_2 rfl (by omega) (by decide) d_Model_makes_31 ?_
    refine r_aload_n (i := 0) d_Model_makes_32 rfl rfl ?_
    refine r_getr nf_Model_13 lm_0 rfl d_Model_makes_33 ?_
    refine r_bipush 32 d_Model_makes_36 bp_32 ?_
    refine r_iload d_Model_makes_38 rfl ?_
    refine r_iaddN (a := 32) (b := T.1) d_Model_makes_40 rfl rfl ?_
    refine r_iload_n (i := 2) d_Model_makes_41 rfl rfl ?_
    refine r_ias (q := (32 + T.1)) lm_2 rfl (by omega) (by decide) d_Model_makes_42 ?_
    refine r_aload_n (i := 0) d_Model_makes_43 rfl rfl ?_
    refine r_getr nf_Model_13 lm_0 rfl d_Model_makes_44 ?_
    refine r_bipush 63 d_Model_makes_47 bp_63 ?_
    refine r_iload d_Model_makes_49 rfl ?_
    refine r_iaddN (a := 63) (b := T.1) d_Model_makes_51 rfl rfl ?_
    refine r_iload_n (i := 3) d_Model_makes_52 rfl rfl ?_
    refine r_ias (q := (63 + T.1)) lm_2 rfl (by omega) (by decide) d_Model_makes_53 ?_
    refine r_aload_n (i := 0) d_Model_makes_54 rfl rfl ?_
    refine r_getr nf_Model_13 lm_0 rfl d_Model_makes_55 ?_
    refine r_bipush 94 d_Model_makes_58 bp_94 ?_
    refine r_iload d_Model_makes_60 rfl ?_
    refine r_iaddN (a := 94) (b := T.1) d_Model_makes_62 rfl rfl ?_
    refine r_iload d_Model_makes_63 rfl ?_
    refine r_ias (q := (94 + T.1)) lm_2 rfl (by omega) (by decide) d_Model_makes_65 ?_
    refine r_aload_n (i := 0) d_Model_makes_66 rfl rfl ?_
    refine r_getr nf_Model_13 lm_0 rfl d_Model_makes_67 ?_
    refine r_iconst 0 d_Model_makes_70 ic_0 ?_
    refine r_dup2 d_Model_makes_71 rfl rfl ?_
    refine r_ia (q := 0) lm_2 rfl (by omega) (by decide) ((by simp (disch := omega) only [ms_same, upd_ne]; exact hR.2.2.2.2.2.1 : _ = nI T.1)) d_Model_makes_72 ?_
    refine r_iconst 1 d_Model_makes_73 ic_1 ?_
    refine r_iaddN (a := T.1) (b := 1) d_Model_makes_74 rfl rfl ?_
    refine r_ias (q := 0) lm_2 rfl (by omega) (by decide) d_Model_makes_75 ?_
    refine r_aload_n (i := 0) d_Model_makes_76 rfl rfl ?_
    refine r_getr nf_Model_32 lm_0 rfl d_Model_makes_77 ?_
    refine r_aload_n (i := 0) d_Model_makes_80 rfl rfl ?_
    refine r_gx nf_Model_95 lm_0 rfl ((by simp (disch := omega) only [ms_ne]; exact hR.2.1 : _ = nI pr.length)) d_Model_makes_81 ?_
    refine r_iload d_Model_makes_84 rfl ?_
    refine r_ias (q := pr.length) lm_8 rfl (by omega) (by decide) d_Model_makes_86 ?_
    refine r_aload_n (i := 0) d_Model_makes_87 rfl rfl ?_
    refine r_dup d_Model_makes_88 rfl ?_
    refine r_gx nf_Model_95 lm_0 rfl ((by simp (disch := omega) only [ms_ne]; exact hR.2.1 : _ = nI pr.length)) d_Model_makes_89 ?_
    refine r_iconst 1 d_Model_makes_92 ic_1 ?_
    refine r_iaddN (a := pr.length) (b := 1) d_Model_makes_93 rfl rfl ?_
    refine r_puti nf_Model_95 nfin_Model_15 lm_0 rfl d_Model_makes_94 ?_
    refine r_vret rfl d_Model_makes_97 ?_
    refine ⟨rfl, ⟨fun e e0 e2 e8 e9 e10 => by simp (disch := omega) only [ms_ne], fun j e3 e4 e15 e18 => by simp (disch := omega) only [ms_same, ms_ne, upd_ne]⟩, by simp (disch := omega) only [ms_same, ms_ne, upd_ne], Or.inr ⟨(T.1 :: pr, tpush T a b c d zz), by rw [adn, if_neg q], by simp (disch := omega) only [ms_same, ms_ne, upd_ne], ?_⟩⟩
    obtain ⟨h1, h2, h3, h4, h5, h6, h7⟩ := hR
    refine ⟨by simp (disch := omega) only [ms_same, ms_ne, upd_ne]; exact h1, by simp (disch := omega) only [ms_same, upd_at, List.length_cons], by simp (disch := omega) only [ms_same, ms_ne]; exact h3, by simp (disch := omega) only [ms_same, ms_ne]; exact h4, ?_, ?_, fun j hj => ?_⟩
    · simp (disch := omega) only [ms_same, ms_ne]
      have := stk_push (x := nI T.1) h5
      rw [List.length_map] at this
      exact this
    · simp (disch := omega) only [ms_same, ms_ne, upd_at]
      rfl
    · simp (disch := omega) only [ms_same, ms_ne]
      have hj2 : j < T.1 + 1 := hj
      show _ = upd T.2.1 T.1 a j ∧ _ = upd T.2.2.1 T.1 b j ∧ _ = upd T.2.2.2.1 T.1 c j ∧ _ = upd T.2.2.2.2.1 T.1 d j
      by_cases e : j = T.1
      · subst e
        simp (disch := omega) only [upd_at, upd_ne, and_self]
      · simp (disch := omega) only [upd_ne]
        exact h7 j (by omega)
  · skip
    refine r_aload_n (i := 0) d_Model_makes_15 rfl rfl ?_
    refine r_iload d_Model_makes_16 rfl ?_
    refine r_puti nf_Model_92 nfin_Model_4 lm_0 rfl d_Model_makes_18 ?_
    refine r_vret rfl d_Model_makes_21 ?_
    have q : T.1 = 31 := (nI_eq (by omega) (by omega)).mp (show nI T.1 = nI 31 from h_12)
    refine ⟨rfl, ⟨fun e e0 _ _ _ _ => ms_ne _ _ e0, fun j _ e4 _ _ => by rw [ms_same, upd_ne _ _ e4]⟩, by rw [ms_same, upd_ne _ _ (by decide)], Or.inl ⟨by rw [adn, if_pos q], by rw [ms_same, upd_at]⟩⟩

theorem c_Model_waits (c : Int32) (hR : RQ mk pr T M) (hp : M 0 3 = nI p) (hl : mk.length < 60) : CJ G LM m_Model_waits 0 [.ref (G.2.2 0), .int (wc c)] M (fun v N => v = none ∧ RFm M N ∧ N 0 3 = nI (p + 1) ∧ N 0 4 = M 0 4 ∧ RQ ((c, p) :: mk) pr T N) := by
  refine CJ_of2 (n0 := 0) (by decide) rfl rfl ?_
  simp only [List.map_cons, List.map_nil, List.cons_append, List.nil_append, List.reduceReplicate]
  refine r_aload_n (i := 0) d_Model_waits_0 rfl rfl ?_
  refine r_getr nf_Model_35 lm_0 rfl d_Model_waits_1 ?_
  refine r_aload_n (i := 0) d_Model_waits_4 rfl rfl ?_
  refine r_gx nf_Model_98 lm_0 rfl (hR.1) d_Model_waits_5 ?_
  refine r_iload_n (i := 1) d_Model_waits_8 rfl rfl ?_
  refine r_ias (q := mk.length) lm_9 rfl (by omega) (by decide) d_Model_waits_9 ?_
  refine r_aload_n (i := 0) d_Model_waits_10 rfl rfl ?_
  refine r_getr nf_Model_38 lm_0 rfl d_Model_waits_11 ?_
  refine r_aload_n (i := 0) d_Model_waits_14 rfl rfl ?_
  refine r_gx nf_Model_98 lm_0 rfl ((by simp (disch := omega) only [ms_ne]; exact hR.1 : _ = nI mk.length)) d_Model_waits_15 ?_
  refine r_aload_n (i := 0) d_Model_waits_18 rfl rfl ?_
  refine r_gx nf_Model_85 lm_0 rfl ((by simp (disch := omega) only [ms_ne]; exact hp : _ = nI p)) d_Model_waits_19 ?_
  refine r_ias (q := mk.length) lm_10 rfl (by omega) (by decide) d_Model_waits_22 ?_
  refine r_aload_n (i := 0) d_Model_waits_23 rfl rfl ?_
  refine r_dup d_Model_waits_24 rfl ?_
  refine r_gx nf_Model_98 lm_0 rfl ((by simp (disch := omega) only [ms_ne]; exact hR.1 : _ = nI mk.length)) d_Model_waits_25 ?_
  refine r_iconst 1 d_Model_waits_28 ic_1 ?_
  refine r_iaddN (a := mk.length) (b := 1) d_Model_waits_29 rfl rfl ?_
  refine r_puti nf_Model_98 nfin_Model_18 lm_0 rfl d_Model_waits_30 ?_
  refine r_aload_n (i := 0) d_Model_waits_33 rfl rfl ?_
  refine r_dup d_Model_waits_34 rfl ?_
  refine r_gx nf_Model_85 lm_0 rfl ((by simp (disch := omega) only [ms_same, ms_ne, upd_ne]; exact hp : _ = nI p)) d_Model_waits_35 ?_
  refine r_iconst 1 d_Model_waits_38 ic_1 ?_
  refine r_iaddN (a := p) (b := 1) d_Model_waits_39 rfl rfl ?_
  refine r_puti nf_Model_85 nfin_Model_3 lm_0 rfl d_Model_waits_40 ?_
  refine r_vret rfl d_Model_waits_43 ?_
  obtain ⟨h1, h2, h3, h4, h5, h6, h7⟩ := hR
  refine ⟨rfl, ⟨fun e e0 e2 e8 e9 e10 => by simp (disch := omega) only [ms_ne], fun j e3 e4 e15 e18 => by simp (disch := omega) only [ms_same, ms_ne, upd_ne]⟩, by simp (disch := omega) only [ms_same, upd_at], by simp (disch := omega) only [ms_same, ms_ne, upd_ne], by simp (disch := omega) only [ms_same, upd_at, upd_ne, List.length_cons], by simp (disch := omega) only [ms_same, ms_ne, upd_ne]; exact h2, ?_, ?_, by simp (disch := omega) only [ms_same, ms_ne]; exact h5, by simp (disch := omega) only [ms_same, ms_ne]; exact h6, fun j hj => by simp (disch := omega) only [ms_same, ms_ne]; exact h7 j hj⟩
  · simp (disch := omega) only [ms_same, ms_ne]
    have := stk_push (x := wc c) h3
    rw [List.length_map] at this
    exact this
  · simp (disch := omega) only [ms_same, ms_ne]
    have := stk_push (x := nI p) h4
    rw [List.length_map] at this
    exact this

theorem RQ.cong (h : RQ mk pr T M) (h2 : N 2 = M 2) (h8 : N 8 = M 8) (h9 : N 9 = M 9) (h10 : N 10 = M 10) (hw : N 0 18 = M 0 18) (hp : N 0 15 = M 0 15) : RQ mk pr T N := by
  unfold RQ DR
  rw [h2, h8, h9, h10, hw, hp]
  exact h
set_option maxHeartbeats 1000000 in
theorem c1_Model_doesLast {m : Int32 × Nat} {r : MK} {x : Nat} {q : List Nat} (hm : m.1 = 126) (h40 : m.1 ≠ 40) (hR : RQ (m :: r) (x :: q) T M) (hn : T.1 ≤ 31) (hl : q.length + 1 ≤ T.1) (hml : r.length < 60) : CJ G LM m_Model_doesLast 1 [.ref (G.2.2 0)] M (fun v N => v = none ∧ RFm M N ∧ N 0 3 = M 0 3 ∧ ((doit m.1 m.2 (x :: q) T = .inl m.2 ∧ N 0 4 = nI m.2) ∨ ∃ w, doit m.1 m.2 (x :: q) T = .inr w ∧ N 0 4 = M 0 4 ∧ RQ r w.1 w.2 N)) := by
  have hwc : wc m.1 = m.1 := by unfold wc; rw [if_neg h40]
  refine CJ_of2 (n0 := 3) (by decide) rfl rfl ?_
  simp only [List.map_cons, List.map_nil, List.cons_append, List.nil_append, List.reduceReplicate]
  refine r_aload_n (i := 0) d_Model_doesLast_0 rfl rfl ?_
  refine r_dup d_Model_doesLast_1 rfl ?_
  refine r_gx nf_Model_98 lm_0 rfl (show M 0 18 = nI (r.length + 1) from hR.1) d_Model_doesLast_2 ?_
  refine r_iconst 1 d_Model_doesLast_5 ic_1 ?_
  refine r_isubN (a := (r.length + 1)) (b := 1) d_Model_doesLast_6 rfl rfl (by omega) ?_
  refine r_puti nf_Model_98 nfin_Model_18 lm_0 rfl d_Model_doesLast_7 ?_
  refine r_aload_n (i := 0) d_Model_doesLast_10 rfl rfl ?_
  refine r_getr nf_Model_35 lm_0 rfl d_Model_doesLast_11 ?_
  refine r_aload_n (i := 0) d_Model_doesLast_14 rfl rfl ?_
  refine r_gx nf_Model_98 lm_0 rfl ((by simp (disch := omega) only [ms_same, upd_at]; rfl : _ = nI r.length)) d_Model_doesLast_15 ?_
  refine r_ia (q := r.length) lm_9 rfl (by omega) (by decide) ((by simp (disch := omega) only [ms_ne]; have := hR.2.2.1.1; simp only [List.length_map] at this; rw [this, hwc] : _ = m.1)) d_Model_doesLast_18 ?_
  refine r_istore_n (i := 1) d_Model_doesLast_19 rfl (Nat.le_of_ble_eq_true rfl) rfl ?_
  dsimp only [List.set]
  refine r_aload_n (i := 0) d_Model_doesLast_20 rfl rfl ?_
  refine r_dup d_Model_doesLast_21 rfl ?_
  refine r_gx nf_Model_95 lm_0 rfl ((by simp (disch := omega) only [ms_same, upd_ne]; exact hR.2.1 : _ = nI (q.length + 1))) d_Model_doesLast_22 ?_
  refine r_iload_n (i := 1) d_Model_doesLast_25 rfl rfl ?_
  refine r_bipush 126 d_Model_doesLast_26 bp_126 ?_
  refine r_icmp_ne 35 d_Model_doesLast_28 (by decide) (fun h_28 => ?_) (fun h_28 => ?_)
  · skip
    exact absurd hm h_28
  · skip
    refine r_iconst 1 d_Model_doesLast_31 ic_1 ?_
    refine r_goto 36 d_Model_doesLast_32 (by decide) ?_
    refine r_isubN (a := (q.length + 1)) (b := 1) d_Model_doesLast_36 rfl rfl (by omega) ?_
    refine r_puti nf_Model_95 nfin_Model_15 lm_0 rfl d_Model_doesLast_37 ?_
    refine r_aload_n (i := 0) d_Model_doesLast_40 rfl rfl ?_
    refine r_getr nf_Model_32 lm_0 rfl d_Model_doesLast_41 ?_
    refine r_aload_n (i := 0) d_Model_doesLast_44 rfl rfl ?_
    refine r_gx nf_Model_95 lm_0 rfl ((by simp (disch := omega) only [ms_same, upd_at]; rfl : _ = nI q.length)) d_Model_doesLast_45 ?_
    refine r_ia (q := q.length) lm_8 rfl (by omega) (by decide) ((by simp (disch := omega) only [ms_ne]; have := hR.2.2.2.2.1.1; simp only [List.length_map] at this; exact this : _ = nI x)) d_Model_doesLast_48 ?_
    refine r_istore_n (i := 2) d_Model_doesLast_49 rfl (Nat.le_of_ble_eq_true rfl) rfl ?_
    dsimp only [List.set]
    refine r_iload_n (i := 1) d_Model_doesLast_50 rfl rfl ?_
    refine r_bipush 126 d_Model_doesLast_51 bp_126 ?_
    refine r_icmp_ne 61 d_Model_doesLast_53 (by decide) (fun h_53 => ?_) (fun h_53 => ?_)
    · skip
      exact absurd hm h_53
    · skip
      refine r_bipush (-9) d_Model_doesLast_56 bp_m9 ?_
      refine r_goto 72 d_Model_doesLast_58 (by decide) ?_
      refine r_istore_n (i := 3) d_Model_doesLast_72 rfl (Nat.le_of_ble_eq_true rfl) rfl ?_
      dsimp only [List.set]
      have hR2 : RQ r q T (ms (ms M 0 (upd (M 0) 18 (nI r.length))) 0 (upd ((ms M 0 (upd (M 0) 18 (nI r.length))) 0) 15 (nI q.length))) := by
        obtain ⟨h1, h2, h3, h4, h5, h6, h7⟩ := hR
        refine ⟨by simp (disch := omega) only [ms_same, upd_at, upd_ne], by simp (disch := omega) only [ms_same, upd_at], ?_, ?_, ?_, ?_, fun j hj => ?_⟩
        · simp (disch := omega) only [ms_ne]; exact h3.2
        · simp (disch := omega) only [ms_ne]; exact h4.2
        · simp (disch := omega) only [ms_ne]; exact h5.2
        · simp (disch := omega) only [ms_ne]; exact h6
        · simp (disch := omega) only [ms_ne]; exact h7 j hj
      refine r_aload_n (i := 0) d_Model_doesLast_73 rfl rfl ?_
      refine r_iload_n (i := 1) d_Model_doesLast_74 rfl rfl ?_
      refine r_iconst 0 d_Model_doesLast_75 ic_0 ?_
      refine r_iload_n (i := 2) d_Model_doesLast_76 rfl rfl ?_
      refine r_iload_n (i := 3) d_Model_doesLast_77 rfl rfl ?_
      refine r_aload_n (i := 0) d_Model_doesLast_78 rfl rfl ?_
      refine r_getr nf_Model_38 lm_0 rfl d_Model_doesLast_79 ?_
      refine r_aload_n (i := 0) d_Model_doesLast_82 rfl rfl ?_
      refine r_gx nf_Model_98 lm_0 rfl ((by simp (disch := omega) only [ms_same, upd_at, upd_ne]; rfl : _ = nI r.length)) d_Model_doesLast_83 ?_
      refine r_ia (q := r.length) lm_10 rfl (by omega) (by decide) ((by simp (disch := omega) only [ms_ne]; have := hR.2.2.2.1.1; simp only [List.length_map] at this; exact this : _ = nI m.2)) d_Model_doesLast_86 ?_
      refine r_W5 v_Model_makes w_977 lm_0 (c_Model_makes _ _ _ _ (T.2.2.2.2.2 x + 1) m.2 hR2 hn (by omega)) (Nat.le_of_ble_eq_true rfl) (Nat.le_of_ble_eq_true rfl) d_Model_doesLast_87 (fun v N hv => ?_)
      obtain ⟨rfl, f1, f2, f3⟩ := hv
      refine r_vret rfl d_Model_doesLast_90 ?_
      refine ⟨rfl, ⟨fun e e0 e2 e8 e9 e10 => by rw [f1.1 e e0 e2 e8 e9 e10]; simp (disch := omega) only [ms_ne], fun j e3 e4 e15 e18 => by rw [f1.2 j e3 e4 e15 e18]; simp (disch := omega) only [ms_same, upd_ne]⟩, by rw [f2]; simp (disch := omega) only [ms_same, upd_ne], ?_⟩
      have e4 : (ms (ms M 0 (upd (M 0) 18 (nI r.length))) 0 (upd ((ms M 0 (upd (M 0) 18 (nI r.length))) 0) 15 (nI q.length))) 0 4 = M 0 4 := by simp (disch := omega) only [ms_same, upd_ne]
      rcases f3 with ⟨a1, a2⟩ | ⟨w, a1, a2, a3⟩
      · exact Or.inl ⟨by rw [doit, if_pos hm, ← hm]; exact a1, a2⟩
      · exact Or.inr ⟨w, by rw [doit, if_pos hm, ← hm]; exact a1, a2.trans e4, a3⟩

set_option maxHeartbeats 1000000 in
theorem c2_Model_doesLast {m : Int32 × Nat} {r : MK} {x y : Nat} {q : List Nat} (hm : m.1 ≠ 126) (h40 : m.1 ≠ 40) (hR : RQ (m :: r) (x :: y :: q) T M) (hn : T.1 ≤ 31) (hl : q.length + 2 ≤ T.1) (hml : r.length < 60) : CJ G LM m_Model_doesLast 1 [.ref (G.2.2 0)] M (fun v N => v = none ∧ RFm M N ∧ N 0 3 = M 0 3 ∧ ((doit m.1 m.2 (x :: y :: q) T = .inl m.2 ∧ N 0 4 = nI m.2) ∨ ∃ w, doit m.1 m.2 (x :: y :: q) T = .inr w ∧ N 0 4 = M 0 4 ∧ RQ r w.1 w.2 N)) := by
  have hwc : wc m.1 = m.1 := by unfold wc; rw [if_neg h40]
  refine CJ_of2 (n0 := 3) (by decide) rfl rfl ?_
  simp only [List.map_cons, List.map_nil, List.cons_append, List.nil_append, List.reduceReplicate]
  refine r_aload_n (i := 0) d_Model_doesLast_0 rfl rfl ?_
  refine r_dup d_Model_doesLast_1 rfl ?_
  refine r_gx nf_Model_98 lm_0 rfl (show M 0 18 = nI (r.length + 1) from hR.1) d_Model_doesLast_2 ?_
  refine r_iconst 1 d_Model_doesLast_5 ic_1 ?_
  refine r_isubN (a := (r.length + 1)) (b := 1) d_Model_doesLast_6 rfl rfl (by omega) ?_
  refine r_puti nf_Model_98 nfin_Model_18 lm_0 rfl d_Model_doesLast_7 ?_
  refine r_aload_n (i := 0) d_Model_doesLast_10 rfl rfl ?_
  refine r_getr nf_Model_35 lm_0 rfl d_Model_doesLast_11 ?_
  refine r_aload_n (i := 0) d_Model_doesLast_14 rfl rfl ?_
  refine r_gx nf_Model_98 lm_0 rfl ((by simp (disch := omega) only [ms_same, upd_at]; rfl : _ = nI r.length)) d_Model_doesLast_15 ?_
  refine r_ia (q := r.length) lm_9 rfl (by omega) (by decide) ((by simp (disch := omega) only [ms_ne]; have := hR.2.2.1.1; simp only [List.length_map] at this; rw [this, hwc] : _ = m.1)) d_Model_doesLast_18 ?_
  refine r_istore_n (i := 1) d_Model_doesLast_19 rfl (Nat.le_of_ble_eq_true rfl) rfl ?_
  dsimp only [List.set]
  refine r_aload_n (i := 0) d_Model_doesLast_20 rfl rfl ?_
  refine r_dup d_Model_doesLast_21 rfl ?_
  refine r_gx nf_Model_95 lm_0 rfl ((by simp (disch := omega) only [ms_same, upd_ne]; exact hR.2.1 : _ = nI ((q.length + 1) + 1))) d_Model_doesLast_22 ?_
  refine r_iload_n (i := 1) d_Model_doesLast_25 rfl rfl ?_
  refine r_bipush 126 d_Model_doesLast_26 bp_126 ?_
  refine r_icmp_ne 35 d_Model_doesLast_28 (by decide) (fun h_28 => ?_) (fun h_28 => ?_)
  · skip
    refine r_iconst 2 d_Model_doesLast_35 ic_2 ?_
    refine r_isubN (a := ((q.length + 1) + 1)) (b := 2) d_Model_doesLast_36 rfl rfl (by omega) ?_
    refine r_puti nf_Model_95 nfin_Model_15 lm_0 rfl d_Model_doesLast_37 ?_
    refine r_aload_n (i := 0) d_Model_doesLast_40 rfl rfl ?_
    refine r_getr nf_Model_32 lm_0 rfl d_Model_doesLast_41 ?_
    refine r_aload_n (i := 0) d_Model_doesLast_44 rfl rfl ?_
    refine r_gx nf_Model_95 lm_0 rfl ((by simp (disch := omega) only [ms_same, upd_at]; rfl : _ = nI q.length)) d_Model_doesLast_45 ?_
    refine r_ia (q := q.length) lm_8 rfl (by omega) (by decide) ((by simp (disch := omega) only [ms_ne]; have := hR.2.2.2.2.1.2.1; simp only [List.length_map] at this; exact this : _ = nI y)) d_Model_doesLast_48 ?_
    refine r_istore_n (i := 2) d_Model_doesLast_49 rfl (Nat.le_of_ble_eq_true rfl) rfl ?_
    dsimp only [List.set]
    refine r_iload_n (i := 1) d_Model_doesLast_50 rfl rfl ?_
    refine r_bipush 126 d_Model_doesLast_51 bp_126 ?_
    refine r_icmp_ne 61 d_Model_doesLast_53 (by decide) (fun h_53 => ?_) (fun h_53 => ?_)
    · skip
      refine r_aload_n (i := 0) d_Model_doesLast_61 rfl rfl ?_
      refine r_getr nf_Model_32 lm_0 rfl d_Model_doesLast_62 ?_
      refine r_aload_n (i := 0) d_Model_doesLast_65 rfl rfl ?_
      refine r_gx nf_Model_95 lm_0 rfl ((by simp (disch := omega) only [ms_same, upd_at]; rfl : _ = nI q.length)) d_Model_doesLast_66 ?_
      refine r_iconst 1 d_Model_doesLast_69 ic_1 ?_
      refine r_iaddN (a := q.length) (b := 1) d_Model_doesLast_70 rfl rfl ?_
      refine r_ia (q := (q.length + 1)) lm_8 rfl (by omega) (by decide) ((by simp (disch := omega) only [ms_ne]; have := hR.2.2.2.2.1.1; simp only [List.length_map] at this; exact this : _ = nI x)) d_Model_doesLast_71 ?_
      refine r_istore_n (i := 3) d_Model_doesLast_72 rfl (Nat.le_of_ble_eq_true rfl) rfl ?_
      dsimp only [List.set]
      have hR2 : RQ r q T (ms (ms M 0 (upd (M 0) 18 (nI r.length))) 0 (upd ((ms M 0 (upd (M 0) 18 (nI r.length))) 0) 15 (nI q.length))) := by
        obtain ⟨h1, h2, h3, h4, h5, h6, h7⟩ := hR
        refine ⟨by simp (disch := omega) only [ms_same, upd_at, upd_ne], by simp (disch := omega) only [ms_same, upd_at], ?_, ?_, ?_, ?_, fun j hj => ?_⟩
        · simp (disch := omega) only [ms_ne]; exact h3.2
        · simp (disch := omega) only [ms_ne]; exact h4.2
        · simp (disch := omega) only [ms_ne]; exact h5.2.2
        · simp (disch := omega) only [ms_ne]; exact h6
        · simp (disch := omega) only [ms_ne]; exact h7 j hj
      refine r_aload_n (i := 0) d_Model_doesLast_73 rfl rfl ?_
      refine r_iload_n (i := 1) d_Model_doesLast_74 rfl rfl ?_
      refine r_iconst 0 d_Model_doesLast_75 ic_0 ?_
      refine r_iload_n (i := 2) d_Model_doesLast_76 rfl rfl ?_
      refine r_iload_n (i := 3) d_Model_doesLast_77 rfl rfl ?_
      refine r_aload_n (i := 0) d_Model_doesLast_78 rfl rfl ?_
      refine r_getr nf_Model_38 lm_0 rfl d_Model_doesLast_79 ?_
      refine r_aload_n (i := 0) d_Model_doesLast_82 rfl rfl ?_
      refine r_gx nf_Model_98 lm_0 rfl ((by simp (disch := omega) only [ms_same, upd_at, upd_ne]; rfl : _ = nI r.length)) d_Model_doesLast_83 ?_
      refine r_ia (q := r.length) lm_10 rfl (by omega) (by decide) ((by simp (disch := omega) only [ms_ne]; have := hR.2.2.2.1.1; simp only [List.length_map] at this; exact this : _ = nI m.2)) d_Model_doesLast_86 ?_
      refine r_W5 v_Model_makes w_977 lm_0 (c_Model_makes _ _ _ _ (T.2.2.2.2.2 x + T.2.2.2.2.2 y + 1) m.2 hR2 hn (by omega)) (Nat.le_of_ble_eq_true rfl) (Nat.le_of_ble_eq_true rfl) d_Model_doesLast_87 (fun v N hv => ?_)
      obtain ⟨rfl, f1, f2, f3⟩ := hv
      refine r_vret rfl d_Model_doesLast_90 ?_
      refine ⟨rfl, ⟨fun e e0 e2 e8 e9 e10 => by rw [f1.1 e e0 e2 e8 e9 e10]; simp (disch := omega) only [ms_ne], fun j e3 e4 e15 e18 => by rw [f1.2 j e3 e4 e15 e18]; simp (disch := omega) only [ms_same, upd_ne]⟩, by rw [f2]; simp (disch := omega) only [ms_same, upd_ne], ?_⟩
      have e4 : (ms (ms M 0 (upd (M 0) 18 (nI r.length))) 0 (upd ((ms M 0 (upd (M 0) 18 (nI r.length))) 0) 15 (nI q.length))) 0 4 = M 0 4 := by simp (disch := omega) only [ms_same, upd_ne]
      rcases f3 with ⟨a1, a2⟩ | ⟨w, a1, a2, a3⟩
      · exact Or.inl ⟨by rw [doit, if_neg hm]; exact a1, a2⟩
      · exact Or.inr ⟨w, by rw [doit, if_neg hm]; exact a1, a2.trans e4, a3⟩
    · skip
      exact absurd h_53 hm
  · skip
    exact absurd h_28 hm

theorem c_Model_doesLast {m : Int32 × Nat} {r : MK} (hm : mkOK m) (hg : ¬ o_grip m.1 < 1) (hR : RQ (m :: r) pr T M) (hT : TOK pr T) (hpl : pr.length = nb (m :: r) + 1) (hml : r.length < 60) : CJ G LM m_Model_doesLast 1 [.ref (G.2.2 0)] M (fun v N => v = none ∧ RFm M N ∧ N 0 3 = M 0 3 ∧ ((doit m.1 m.2 pr T = .inl m.2 ∧ N 0 4 = nI m.2) ∨ ∃ w, doit m.1 m.2 pr T = .inr w ∧ N 0 4 = M 0 4 ∧ RQ r w.1 w.2 N)) := by
  have h40 : m.1 ≠ 40 := fun e => hg (by rw [e]; decide)
  have hln := tok_len hT
  have hn := hT.1.1
  by_cases h : m.1 = 126
  · cases pr with
    | nil => simp at hpl
    | cons x q => exact c1_Model_doesLast h h40 hR hn (by simp only [List.length_cons] at hln; omega) hml
  · have e : nb (m :: r) = nb r + 1 := by rw [nb, if_neg (by rintro (a | a); exact h40 a; exact h a)]
    rw [e] at hpl
    match pr, hpl with
    | [], hpl => simp at hpl
    | [x], hpl => simp at hpl
    | x :: y :: q, _ => exact c2_Model_doesLast h h40 hR hn (by simp only [List.length_cons] at hln; omega) hml
end MMr
