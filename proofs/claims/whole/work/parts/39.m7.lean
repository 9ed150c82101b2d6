-- the model: the pile of what is still to do
/-- a pile of fives, the last first -/
def pl (f : Nat → Int32) : List Ln → Prop
  | [] => True
  | x :: T => f (5 * T.length) = x.1 ∧ f (5 * T.length + 1) = x.2.1 ∧ f (5 * T.length + 2) = x.2.2.1 ∧ f (5 * T.length + 3) = x.2.2.2.1 ∧ f (5 * T.length + 4) = x.2.2.2.2 ∧ pl f T
theorem pl_cong {f g : Nat → Int32} : ∀ (T : List Ln), (∀ j, j < 5 * T.length → g j = f j) → pl f T → pl g T
  | [], _, _ => trivial
  | x :: T, h, hp => by
    obtain ⟨h0, h1, h2, h3, h4, h5⟩ := hp
    have e : 5 * (x :: T).length = 5 * T.length + 5 := by simp only [List.length_cons]; omega
    rw [e] at h
    refine ⟨by rw [h _ (by omega)]; exact h0, by rw [h _ (by omega)]; exact h1, by rw [h _ (by omega)]; exact h2, by rw [h _ (by omega)]; exact h3, by rw [h _ (by omega)]; exact h4, pl_cong T (fun j hj => h j (by omega)) h5⟩
/-- LINES that stand in a row -/
def lsIn (f : Nat → Int32) (ls : List Ln) : Prop := ∀ (j : Nat) (x : Ln), ls[j]? = some x → f (5 * j) = x.1 ∧ f (5 * j + 1) = x.2.1 ∧ f (5 * j + 2) = x.2.2.1 ∧ f (5 * j + 3) = x.2.2.2.1 ∧ f (5 * j + 4) = x.2.2.2.2
theorem lsIn_put {f g : Nat → Int32} {ls : List Ln} {a b c d e : Int32} (h : lsIn f ls) (hg : ∀ j, j < 5 * ls.length → g j = f j) (h0 : g (5 * ls.length) = a) (h1 : g (5 * ls.length + 1) = b) (h2 : g (5 * ls.length + 2) = c) (h3 : g (5 * ls.length + 3) = d) (h4 : g (5 * ls.length + 4) = e) : lsIn g (ls ++ [(a, b, c, d, e)]) := by
  intro j x hj
  rcases Nat.lt_trichotomy j ls.length with q | q | q
  · rw [List.getElem?_append_left q] at hj
    rw [hg _ (by omega), hg _ (by omega), hg _ (by omega), hg _ (by omega), hg _ (by omega)]
    exact h j x hj
  · subst q
    rw [List.getElem?_append_right (Nat.le_refl _), Nat.sub_self] at hj
    cases hj
    exact ⟨h0, h1, h2, h3, h4⟩
  · have := (List.getElem?_eq_some_iff.mp hj).1
    simp at this
    omega
def PG (M : nw_M) (T ls : List Ln) (c : Nat) (N : nw_M) : Prop := (∀ e, e ≠ 0 → e ≠ 15 → e ≠ 16 → e ≠ 17 → N e = M e) ∧ (∀ j, j ≠ 24 → j ≠ 26 → j ≠ 28 → N 0 j = M 0 j) ∧ N 0 24 = nI T.length ∧ pl (N 15) T ∧ N 0 26 = nI ls.length ∧ lsIn (N 16) ls ∧ N 0 28 = nI c
section MM8
variable {G : nw_G} {n : Nat} {le nu lf rt nm : Nat → Int32} {mc z : Nat → Nat} {M N : nw_M} {T ls : List Ln} {c : Nat}
theorem c_Model_toDo (hP : PG M T ls c N) (hT : T.length < 256) (x0 x1 x2 x3 x4 : Int32) : CJ G LM m_Model_toDo 0 [.ref (G.2.2 0), .int x0, .int x1, .int x2, .int x3, .int x4] N (fun v N2 => v = none ∧ PG M ((x0, x1, x2, x3, x4) :: T) ls c N2 ∧ N2 17 = N 17) := by
  refine CJ_of2 (n0 := 0) (by decide) rfl rfl ?_
  simp only [List.map_cons, List.map_nil, List.cons_append, List.nil_append, List.reduceReplicate]
  refine r_aload_n (i := 0) d_Model_toDo_0 rfl rfl ?_
  refine r_getr nf_Model_53 lm_0 rfl d_Model_toDo_1 ?_
  refine r_iconst 5 d_Model_toDo_4 ic_5 ?_
  refine r_aload_n (i := 0) d_Model_toDo_5 rfl rfl ?_
  refine r_gx nf_Model_216 lm_0 rfl (hP.2.2.1) d_Model_toDo_6 ?_
  refine r_imulN (a := 5) (b := T.length) d_Model_toDo_9 rfl rfl ?_
  refine r_iload_n (i := 1) d_Model_toDo_10 rfl rfl ?_
  refine r_ias (q := (5 * T.length)) lm_15 rfl (by omega) (by decide) d_Model_toDo_11 ?_
  refine r_aload_n (i := 0) d_Model_toDo_12 rfl rfl ?_
  refine r_getr nf_Model_53 lm_0 rfl d_Model_toDo_13 ?_
  refine r_iconst 5 d_Model_toDo_16 ic_5 ?_
  refine r_aload_n (i := 0) d_Model_toDo_17 rfl rfl ?_
  refine r_gx nf_Model_216 lm_0 rfl (hP.2.2.1) d_Model_toDo_18 ?_
  refine r_imulN (a := 5) (b := T.length) d_Model_toDo_21 rfl rfl ?_
  refine r_iconst 1 d_Model_toDo_22 ic_1 ?_
  refine r_iaddN (a := (5 * T.length)) (b := 1) d_Model_toDo_23 rfl rfl ?_
  refine r_iload_n (i := 2) d_Model_toDo_24 rfl rfl ?_
  refine r_ias (q := ((5 * T.length) + 1)) lm_15 rfl (by omega) (by decide) d_Model_toDo_25 ?_
  refine r_aload_n (i := 0) d_Model_toDo_26 rfl rfl ?_
  refine r_getr nf_Model_53 lm_0 rfl d_Model_toDo_27 ?_
  refine r_iconst 5 d_Model_toDo_30 ic_5 ?_
  refine r_aload_n (i := 0) d_Model_toDo_31 rfl rfl ?_
  refine r_gx nf_Model_216 lm_0 rfl (hP.2.2.1) d_Model_toDo_32 ?_
  refine r_imulN (a := 5) (b := T.length) d_Model_toDo_35 rfl rfl ?_
  refine r_iconst 2 d_Model_toDo_36 ic_2 ?_
  refine r_iaddN (a := (5 * T.length)) (b := 2) d_Model_toDo_37 rfl rfl ?_
  refine r_iload_n (i := 3) d_Model_toDo_38 rfl rfl ?_
  refine r_ias (q := ((5 * T.length) + 2)) lm_15 rfl (by omega) (by decide) d_Model_toDo_39 ?_
  refine r_aload_n (i := 0) d_Model_toDo_40 rfl rfl ?_
  refine r_getr nf_Model_53 lm_0 rfl d_Model_toDo_41 ?_
  refine r_iconst 5 d_Model_toDo_44 ic_5 ?_
  refine r_aload_n (i := 0) d_Model_toDo_45 rfl rfl ?_
  refine r_gx nf_Model_216 lm_0 rfl (hP.2.2.1) d_Model_toDo_46 ?_
  refine r_imulN (a := 5) (b := T.length) d_Model_toDo_49 rfl rfl ?_
  refine r_iconst 3 d_Model_toDo_50 ic_3 ?_
  refine r_iaddN (a := (5 * T.length)) (b := 3) d_Model_toDo_51 rfl rfl ?_
  refine r_iload d_Model_toDo_52 rfl ?_
  refine r_ias (q := ((5 * T.length) + 3)) lm_15 rfl (by omega) (by decide) d_Model_toDo_54 ?_
  refine r_aload_n (i := 0) d_Model_toDo_55 rfl rfl ?_
  refine r_getr nf_Model_53 lm_0 rfl d_Model_toDo_56 ?_
  refine r_iconst 5 d_Model_toDo_59 ic_5 ?_
  refine r_aload_n (i := 0) d_Model_toDo_60 rfl rfl ?_
  refine r_gx nf_Model_216 lm_0 rfl (hP.2.2.1) d_Model_toDo_61 ?_
  refine r_imulN (a := 5) (b := T.length) d_Model_toDo_64 rfl rfl ?_
  refine r_iconst 4 d_Model_toDo_65 ic_4 ?_
  refine r_iaddN (a := (5 * T.length)) (b := 4) d_Model_toDo_66 rfl rfl ?_
  refine r_iload d_Model_toDo_67 rfl ?_
  refine r_ias (q := ((5 * T.length) + 4)) lm_15 rfl (by omega) (by decide) d_Model_toDo_69 ?_
  refine r_aload_n (i := 0) d_Model_toDo_70 rfl rfl ?_
  refine r_dup d_Model_toDo_71 rfl ?_
  refine r_gx nf_Model_216 lm_0 rfl (hP.2.2.1) d_Model_toDo_72 ?_
  refine r_iconst 1 d_Model_toDo_75 ic_1 ?_
  refine r_iaddN (a := T.length) (b := 1) d_Model_toDo_76 rfl rfl ?_
  refine r_puti nf_Model_216 nfin_Model_24 lm_0 rfl d_Model_toDo_77 ?_
  refine r_vret rfl d_Model_toDo_80 ?_
  refine ⟨rfl, ⟨fun e e0 e1 e2 e3 => ?_, fun j j1 j2 j3 => ?_, ?_, ?_, ?_, ?_, ?_⟩, ?_⟩
  · simp (disch := omega) only [ms_ne]; exact hP.1 e e0 e1 e2 e3
  · simp (disch := omega) only [ms_same, ms_ne, upd_ne]; exact hP.2.1 j j1 j2 j3
  · simp (disch := omega) only [ms_same, upd_at, List.length_cons]
  · simp (disch := omega) only [pl, ms_same, ms_ne, upd_at, upd_ne, true_and]
    exact pl_cong T (fun j hj => by simp (disch := omega) only [upd_ne]) hP.2.2.2.1
  · simp (disch := omega) only [ms_same, ms_ne, upd_ne]; exact hP.2.2.2.2.1
  · simp (disch := omega) only [ms_ne]; exact hP.2.2.2.2.2.1
  · simp (disch := omega) only [ms_same, ms_ne, upd_ne]; exact hP.2.2.2.2.2.2
  · simp (disch := omega) only [ms_ne]

theorem c_Model_writes (hP : PG M T ls c N) (hT : ls.length < 128) (x0 x1 x2 x3 x4 : Int32) : CJ G LM m_Model_writes 0 [.ref (G.2.2 0), .int x0, .int x1, .int x2, .int x3, .int x4] N (fun v N2 => v = none ∧ PG M T (ls ++ [(x0, x1, x2, x3, x4)]) c N2 ∧ N2 17 = N 17) := by
  refine CJ_of2 (n0 := 0) (by decide) rfl rfl ?_
  simp only [List.map_cons, List.map_nil, List.cons_append, List.nil_append, List.reduceReplicate]
  refine r_aload_n (i := 0) d_Model_writes_0 rfl rfl ?_
  refine r_getr nf_Model_56 lm_0 rfl d_Model_writes_1 ?_
  refine r_iconst 5 d_Model_writes_4 ic_5 ?_
  refine r_aload_n (i := 0) d_Model_writes_5 rfl rfl ?_
  refine r_gx nf_Model_222 lm_0 rfl (hP.2.2.2.2.1) d_Model_writes_6 ?_
  refine r_imulN (a := 5) (b := ls.length) d_Model_writes_9 rfl rfl ?_
  refine r_iload_n (i := 1) d_Model_writes_10 rfl rfl ?_
  refine r_ias (q := (5 * ls.length)) lm_16 rfl (by omega) (by decide) d_Model_writes_11 ?_
  refine r_aload_n (i := 0) d_Model_writes_12 rfl rfl ?_
  refine r_getr nf_Model_56 lm_0 rfl d_Model_writes_13 ?_
  refine r_iconst 5 d_Model_writes_16 ic_5 ?_
  refine r_aload_n (i := 0) d_Model_writes_17 rfl rfl ?_
  refine r_gx nf_Model_222 lm_0 rfl (hP.2.2.2.2.1) d_Model_writes_18 ?_
  refine r_imulN (a := 5) (b := ls.length) d_Model_writes_21 rfl rfl ?_
  refine r_iconst 1 d_Model_writes_22 ic_1 ?_
  refine r_iaddN (a := (5 * ls.length)) (b := 1) d_Model_writes_23 rfl rfl ?_
  refine r_iload_n (i := 2) d_Model_writes_24 rfl rfl ?_
  refine r_ias (q := ((5 * ls.length) + 1)) lm_16 rfl (by omega) (by decide) d_Model_writes_25 ?_
  refine r_aload_n (i := 0) d_Model_writes_26 rfl rfl ?_
  refine r_getr nf_Model_56 lm_0 rfl d_Model_writes_27 ?_
  refine r_iconst 5 d_Model_writes_30 ic_5 ?_
  refine r_aload_n (i := 0) d_Model_writes_31 rfl rfl ?_
  refine r_gx nf_Model_222 lm_0 rfl (hP.2.2.2.2.1) d_Model_writes_32 ?_
  refine r_imulN (a := 5) (b := ls.length) d_Model_writes_35 rfl rfl ?_
  refine r_iconst 2 d_Model_writes_36 ic_2 ?_
  refine r_iaddN (a := (5 * ls.length)) (b := 2) d_Model_writes_37 rfl rfl ?_
  refine r_iload_n (i := 3) d_Model_writes_38 rfl rfl ?_
  refine r_ias (q := ((5 * ls.length) + 2)) lm_16 rfl (by omega) (by decide) d_Model_writes_39 ?_
  refine r_aload_n (i := 0) d_Model_writes_40 rfl rfl ?_
  refine r_getr nf_Model_56 lm_0 rfl d_Model_writes_41 ?_
  refine r_iconst 5 d_Model_writes_44 ic_5 ?_
  refine r_aload_n (i := 0) d_Model_writes_45 rfl rfl ?_
  refine r_gx nf_Model_222 lm_0 rfl (hP.2.2.2.2.1) d_Model_writes_46 ?_
  refine r_imulN (a := 5) (b := ls.length) d_Model_writes_49 rfl rfl ?_
  refine r_iconst 3 d_Model_writes_50 ic_3 ?_
  refine r_iaddN (a := (5 * ls.length)) (b := 3) d_Model_writes_51 rfl rfl ?_
  refine r_iload d_Model_writes_52 rfl ?_
  refine r_ias (q := ((5 * ls.length) + 3)) lm_16 rfl (by omega) (by decide) d_Model_writes_54 ?_
  refine r_aload_n (i := 0) d_Model_writes_55 rfl rfl ?_
  refine r_getr nf_Model_56 lm_0 rfl d_Model_writes_56 ?_
  refine r_iconst 5 d_Model_writes_59 ic_5 ?_
  refine r_aload_n (i := 0) d_Model_writes_60 rfl rfl ?_
  refine r_gx nf_Model_222 lm_0 rfl (hP.2.2.2.2.1) d_Model_writes_61 ?_
  refine r_imulN (a := 5) (b := ls.length) d_Model_writes_64 rfl rfl ?_
  refine r_iconst 4 d_Model_writes_65 ic_4 ?_
  refine r_iaddN (a := (5 * ls.length)) (b := 4) d_Model_writes_66 rfl rfl ?_
  refine r_iload d_Model_writes_67 rfl ?_
  refine r_ias (q := ((5 * ls.length) + 4)) lm_16 rfl (by omega) (by decide) d_Model_writes_69 ?_
  refine r_aload_n (i := 0) d_Model_writes_70 rfl rfl ?_
  refine r_dup d_Model_writes_71 rfl ?_
  refine r_gx nf_Model_222 lm_0 rfl (hP.2.2.2.2.1) d_Model_writes_72 ?_
  refine r_iconst 1 d_Model_writes_75 ic_1 ?_
  refine r_iaddN (a := ls.length) (b := 1) d_Model_writes_76 rfl rfl ?_
  refine r_puti nf_Model_222 nfin_Model_26 lm_0 rfl d_Model_writes_77 ?_
  refine r_vret rfl d_Model_writes_80 ?_
  refine ⟨rfl, ⟨fun e e0 e1 e2 e3 => ?_, fun j j1 j2 j3 => ?_, ?_, ?_, ?_, ?_, ?_⟩, ?_⟩
  · simp (disch := omega) only [ms_ne]; exact hP.1 e e0 e1 e2 e3
  · simp (disch := omega) only [ms_same, ms_ne, upd_ne]; exact hP.2.1 j j1 j2 j3
  · simp (disch := omega) only [ms_same, ms_ne, upd_ne]; exact hP.2.2.1
  · simp (disch := omega) only [ms_ne]; exact hP.2.2.2.1
  · simp (disch := omega) only [ms_same, upd_at, List.length_append, List.length_cons, List.length_nil]
  · simp (disch := omega) only [ms_ne, ms_same]
    exact lsIn_put hP.2.2.2.2.2.1 (fun j hj => by simp (disch := omega) only [upd_ne]) (by simp (disch := omega) only [upd_at, upd_ne]) (by simp (disch := omega) only [upd_at, upd_ne]) (by simp (disch := omega) only [upd_at, upd_ne]) (by simp (disch := omega) only [upd_at, upd_ne]) (by simp (disch := omega) only [upd_at, upd_ne])
  · simp (disch := omega) only [ms_same, ms_ne, upd_ne]; exact hP.2.2.2.2.2.2
  · simp (disch := omega) only [ms_ne]

/-- what is to be done to keep a NODE -/
def kT (lf : Nat → Int32) (k b i : Nat) : List Ln := if lf k = -9 then [] else [(0, nI k, nI b, nI i, 0), (4, nI k, nI b, 0, 0)]
theorem c_Model_toKeep (hP : PG M T ls c N) (hT : T.length < 254) (hlf : ∀ j, j < n → M 11 j = bI (decide (lf j = -9))) {k b i : Nat} (hk : k < n) (hn : n ≤ 31) : CJ G LM m_Model_toKeep 1 [.ref (G.2.2 0), .int (nI k), .int (nI b), .int (nI i)] N (fun v N2 => v = none ∧ PG M (kT lf k b i ++ T) ls c N2 ∧ N2 17 = N 17) := by
  refine CJ_of2 (n0 := 0) (by decide) rfl rfl ?_
  simp only [List.map_cons, List.map_nil, List.cons_append, List.nil_append, List.reduceReplicate]
  refine r_aload_n (i := 0) d_Model_toKeep_0 rfl rfl ?_
  refine r_getr nf_Model_41 lm_0 rfl d_Model_toKeep_1 ?_
  refine r_iload_n (i := 1) d_Model_toKeep_4 rfl rfl ?_
  refine r_za (q := k) lm_11 rfl (by omega) (by decide) ((congrFun (hP.1 11 (by decide) (by decide) (by decide) (by decide)) k).trans (hlf k hk)) d_Model_toKeep_5 ?_
  refine r_if_ne 27 d_Model_toKeep_6 (by decide) (fun h_6 => ?_) (fun h_6 => ?_)
  · skip
    refine r_vret rfl d_Model_toKeep_27 ?_
    have q := of_decide_eq_true ((bI_t _).mp h_6)
    rw [kT, if_pos q]
    exact ⟨rfl, hP, rfl⟩
  · skip
    refine r_aload_n (i := 0) d_Model_toKeep_9 rfl rfl ?_
    refine r_iconst 4 d_Model_toKeep_10 ic_4 ?_
    refine r_iload_n (i := 1) d_Model_toKeep_11 rfl rfl ?_
    refine r_iload_n (i := 2) d_Model_toKeep_12 rfl rfl ?_
    refine r_iconst 0 d_Model_toKeep_13 ic_0 ?_
    refine r_iconst 0 d_Model_toKeep_14 ic_0 ?_
    refine r_W5 v_Model_toDo w_1107 lm_0 (c_Model_toDo hP (by omega) _ _ _ _ _) (Nat.le_of_ble_eq_true rfl) (Nat.le_of_ble_eq_true rfl) d_Model_toKeep_15 (fun v N1 hv => ?_)
    obtain ⟨rfl, hP1, e1⟩ := hv
    refine r_aload_n (i := 0) d_Model_toKeep_18 rfl rfl ?_
    refine r_iconst 0 d_Model_toKeep_19 ic_0 ?_
    refine r_iload_n (i := 1) d_Model_toKeep_20 rfl rfl ?_
    refine r_iload_n (i := 2) d_Model_toKeep_21 rfl rfl ?_
    refine r_iload_n (i := 3) d_Model_toKeep_22 rfl rfl ?_
    refine r_iconst 0 d_Model_toKeep_23 ic_0 ?_
    refine r_W5 v_Model_toDo w_1107 lm_0 (c_Model_toDo hP1 (by simp only [List.length_cons]; omega) _ _ _ _ _) (Nat.le_of_ble_eq_true rfl) (Nat.le_of_ble_eq_true rfl) d_Model_toKeep_24 (fun v N2 hv => ?_)
    obtain ⟨rfl, hP2, e2⟩ := hv
    refine r_vret rfl d_Model_toKeep_27 ?_
    have q := of_decide_eq_false ((bI_f _).mp h_6)
    rw [kT, if_neg q]
    exact ⟨rfl, hP2, e2.trans e1⟩

theorem c0_Model_lies (hS : MS n le nu lf rt nm mc (N 3)) (hlf : ∀ j, j < n → N 11 j = bI (decide (lf j = -9))) {k cc : Nat} (hk : k < n) (hn : n ≤ 31) : CF G LM m_Model_lies 0 [.ref (G.2.2 0), .int (nI k), .int 0] N (some (.int (srK le lf k))) N := by
  refine CJ_of (by decide) rfl (Nat.le_of_ble_eq_true rfl) ?_
  refine r_aload_n (i := 0) d_Model_lies_0 rfl rfl ?_
  refine r_getr nf_Model_41 lm_0 rfl d_Model_lies_1 ?_
  refine r_iload_n (i := 1) d_Model_lies_4 rfl rfl ?_
  refine r_za (q := k) lm_11 rfl (by omega) (by decide) (hlf k hk) d_Model_lies_5 ?_
  refine r_if_ne 24 d_Model_lies_6 (by decide) (fun h_6 => ?_) (fun h_6 => ?_)
  · skip
    refine r_iload_n (i := 2) d_Model_lies_24 rfl rfl ?_
    refine r_if_eq 40 d_Model_lies_25 (by decide) (fun h_25 => ?_) (fun h_25 => ?_)
    · skip
      refine r_aload_n (i := 0) d_Model_lies_40 rfl rfl ?_
      refine r_getr nf_Model_16 lm_0 rfl d_Model_lies_41 ?_
      refine r_iconst 1 d_Model_lies_44 ic_1 ?_
      refine r_iload_n (i := 1) d_Model_lies_45 rfl rfl ?_
      refine r_iaddN (a := 1) (b := k) d_Model_lies_46 rfl rfl ?_
      refine r_ia (q := (1 + k)) lm_3 rfl (by omega) (by decide) ((hS.gle (j := k) (by omega))) d_Model_lies_47 ?_
      refine r_bipush 48 d_Model_lies_48 bp_48 ?_
      refine r_icmp_ne 57 d_Model_lies_50 (by decide) (fun h_50 => ?_) (fun h_50 => ?_)
      · skip
        refine r_iconst 1 d_Model_lies_57 ic_1 ?_
        refine r_iret rfl d_Model_lies_58 ?_
        refine ⟨?_, rfl⟩
        unfold srK
        first
          | (rw [if_pos (of_decide_eq_true ((bI_t _).mp h_6)), if_neg h_50])
          | (rw [if_pos (of_decide_eq_true ((bI_t _).mp h_6)), if_pos h_50])
          | (rw [if_neg (of_decide_eq_false ((bI_f _).mp h_6))])
      · skip
        refine r_iconst 0 d_Model_lies_53 ic_0 ?_
        refine r_goto 58 d_Model_lies_54 (by decide) ?_
        refine r_iret rfl d_Model_lies_58 ?_
        refine ⟨?_, rfl⟩
        unfold srK
        first
          | (rw [if_pos (of_decide_eq_true ((bI_t _).mp h_6)), if_neg h_50])
          | (rw [if_pos (of_decide_eq_true ((bI_t _).mp h_6)), if_pos h_50])
          | (rw [if_neg (of_decide_eq_false ((bI_f _).mp h_6))])
    · exact absurd h_25 (by decide)
  · skip
    refine r_iload_n (i := 2) d_Model_lies_9 rfl rfl ?_
    refine r_if_eq 22 d_Model_lies_10 (by decide) (fun h_10 => ?_) (fun h_10 => ?_)
    · skip
      refine r_iconst 2 d_Model_lies_22 ic_2 ?_
      refine r_iret rfl d_Model_lies_23 ?_
      refine ⟨?_, rfl⟩
      unfold srK
      first
        | (rw [if_pos (of_decide_eq_true ((bI_t _).mp h_6)), if_neg h_50])
        | (rw [if_pos (of_decide_eq_true ((bI_t _).mp h_6)), if_pos h_50])
        | (rw [if_neg (of_decide_eq_false ((bI_f _).mp h_6))])
    · exact absurd h_10 (by decide)

theorem c1_Model_lies (hS : MS n le nu lf rt nm mc (N 3)) (hlf : ∀ j, j < n → N 11 j = bI (decide (lf j = -9))) {k cc : Nat} (hk : k < n) (hn : n ≤ 31) (hc : lf k ≠ -9 → N 17 k = nI cc) : CF G LM m_Model_lies 0 [.ref (G.2.2 0), .int (nI k), .int 1] N (some (.int (srN nu lf k cc))) N := by
  refine CJ_of (by decide) rfl (Nat.le_of_ble_eq_true rfl) ?_
  refine r_aload_n (i := 0) d_Model_lies_0 rfl rfl ?_
  refine r_getr nf_Model_41 lm_0 rfl d_Model_lies_1 ?_
  refine r_iload_n (i := 1) d_Model_lies_4 rfl rfl ?_
  refine r_za (q := k) lm_11 rfl (by omega) (by decide) (hlf k hk) d_Model_lies_5 ?_
  refine r_if_ne 24 d_Model_lies_6 (by decide) (fun h_6 => ?_) (fun h_6 => ?_)
  · skip
    refine r_iload_n (i := 2) d_Model_lies_24 rfl rfl ?_
    refine r_if_eq 40 d_Model_lies_25 (by decide) (fun h_25 => ?_) (fun h_25 => ?_)
    · exact absurd h_25 (by decide)
    · skip
      refine r_aload_n (i := 0) d_Model_lies_28 rfl rfl ?_
      refine r_getr nf_Model_16 lm_0 rfl d_Model_lies_29 ?_
      refine r_bipush 32 d_Model_lies_32 bp_32 ?_
      refine r_iload_n (i := 1) d_Model_lies_34 rfl rfl ?_
      refine r_iaddN (a := 32) (b := k) d_Model_lies_35 rfl rfl ?_
      refine r_ia (q := (32 + k)) lm_3 rfl (by omega) (by decide) ((hS.gnu (j := k) (by omega))) d_Model_lies_36 ?_
      refine r_goto 58 d_Model_lies_37 (by decide) ?_
      refine r_iret rfl d_Model_lies_58 ?_
      refine ⟨?_, rfl⟩
      unfold srN
      first
        | (rw [if_pos (of_decide_eq_true ((bI_t _).mp h_6))])
        | (rw [if_neg (of_decide_eq_false ((bI_f _).mp h_6))])
  · skip
    refine r_iload_n (i := 2) d_Model_lies_9 rfl rfl ?_
    refine r_if_eq 22 d_Model_lies_10 (by decide) (fun h_10 => ?_) (fun h_10 => ?_)
    · exact absurd h_10 (by decide)
    · skip
      refine r_aload_n (i := 0) d_Model_lies_13 rfl rfl ?_
      refine r_getr nf_Model_59 lm_0 rfl d_Model_lies_14 ?_
      refine r_iload_n (i := 1) d_Model_lies_17 rfl rfl ?_
      refine r_ia (q := k) lm_17 rfl (by omega) (by decide) (hc (of_decide_eq_false ((bI_f _).mp h_6))) d_Model_lies_18 ?_
      refine r_goto 23 d_Model_lies_19 (by decide) ?_
      refine r_iret rfl d_Model_lies_23 ?_
      refine ⟨?_, rfl⟩
      unfold srN
      first
        | (rw [if_pos (of_decide_eq_true ((bI_t _).mp h_6))])
        | (rw [if_neg (of_decide_eq_false ((bI_f _).mp h_6))])

theorem kT_len (lf : Nat → Int32) (k b i : Nat) : (kT lf k b i).length ≤ 2 := by unfold kT; split <;> simp
theorem cL_Model_plans (hS : MS n le nu lf rt nm mc (M 3)) (hlf : ∀ j, j < n → M 11 j = bI (decide (lf j = -9))) (hP : PG M T ls c N) {k b i w : Nat} (hk : k < n) (hn : n ≤ 31) (hi1 : 1 ≤ i) (hi : i ≤ 6) (hl : lf k = -9) (hls : ls.length < 128) : CJ G LM m_Model_plans 2 [.ref (G.2.2 0), .int (nI k), .int (nI b), .int (nI i)] N (fun v N2 => v = none ∧ PG M T (ls ++ [(0, nI b, nI k, srK le lf k, nu k)]) c N2 ∧ N2 17 = N 17) := by
  have hS2 : MS n le nu lf rt nm mc (N 3) := by rw [hP.1 3 (by decide) (by decide) (by decide) (by decide)]; exact hS
  have hlf2 : ∀ j, j < n → N 11 j = bI (decide (lf j = -9)) := by rw [hP.1 11 (by decide) (by decide) (by decide) (by decide)]; exact hlf
  refine CJ_of2 (n0 := 3) (by decide) rfl rfl ?_
  simp only [List.map_cons, List.map_nil, List.cons_append, List.nil_append, List.reduceReplicate]
  refine r_aload_n (i := 0) d_Model_plans_0 rfl rfl ?_
  refine r_getr nf_Model_16 lm_0 rfl d_Model_plans_1 ?_
  refine r_bipush 63 d_Model_plans_4 bp_63 ?_
  refine r_iload_n (i := 1) d_Model_plans_6 rfl rfl ?_
  refine r_iaddN (a := 63) (b := k) d_Model_plans_7 rfl rfl ?_
  refine r_ia (q := (63 + k)) lm_3 rfl (by omega) (by decide) ((hS2.glf (j := k) (by omega))) d_Model_plans_8 ?_
  refine r_istore d_Model_plans_9 (Nat.le_of_ble_eq_true rfl) rfl ?_
  dsimp only [List.set]
  refine r_aload_n (i := 0) d_Model_plans_11 rfl rfl ?_
  refine r_getr nf_Model_16 lm_0 rfl d_Model_plans_12 ?_
  refine r_bipush 94 d_Model_plans_15 bp_94 ?_
  refine r_iload_n (i := 1) d_Model_plans_17 rfl rfl ?_
  refine r_iaddN (a := 94) (b := k) d_Model_plans_18 rfl rfl ?_
  refine r_ia (q := (94 + k)) lm_3 rfl (by omega) (by decide) ((hS2.grt (j := k) (by omega))) d_Model_plans_19 ?_
  refine r_istore d_Model_plans_20 (Nat.le_of_ble_eq_true rfl) rfl ?_
  dsimp only [List.set]
  refine r_aload_n (i := 0) d_Model_plans_22 rfl rfl ?_
  refine r_getr nf_Model_47 lm_0 rfl d_Model_plans_23 ?_
  refine r_bipush 7 d_Model_plans_26 bp_7 ?_
  refine r_iload_n (i := 1) d_Model_plans_28 rfl rfl ?_
  refine r_imulN (a := 7) (b := k) d_Model_plans_29 rfl rfl ?_
  refine r_iload_n (i := 3) d_Model_plans_30 rfl rfl ?_
  refine r_iaddN (a := (7 * k)) (b := i) d_Model_plans_31 rfl rfl ?_
  refine r_ia (q := ((7 * k) + i)) lm_13 rfl (by omega) (by decide) (rfl) d_Model_plans_32 ?_
  refine r_istore d_Model_plans_33 (Nat.le_of_ble_eq_true rfl) rfl ?_
  dsimp only [List.set]
  refine r_aload_n (i := 0) d_Model_plans_35 rfl rfl ?_
  refine r_getr nf_Model_41 lm_0 rfl d_Model_plans_36 ?_
  refine r_iload_n (i := 1) d_Model_plans_39 rfl rfl ?_
  refine r_za (q := k) lm_11 rfl (by omega) (by decide) (hlf2 k hk) d_Model_plans_40 ?_
  refine r_if_eq 66 d_Model_plans_41 (by decide) (fun h_41 => ?_) (fun h_41 => ?_)
  · skip
    exact absurd hl (of_decide_eq_false ((bI_f _).mp h_41))
  · skip
    refine r_aload_n (i := 0) d_Model_plans_44 rfl rfl ?_
    refine r_iconst 0 d_Model_plans_45 ic_0 ?_
    refine r_iload_n (i := 2) d_Model_plans_46 rfl rfl ?_
    refine r_iload_n (i := 1) d_Model_plans_47 rfl rfl ?_
    refine r_aload_n (i := 0) d_Model_plans_48 rfl rfl ?_
    refine r_iload_n (i := 1) d_Model_plans_49 rfl rfl ?_
    refine r_iconst 0 d_Model_plans_50 ic_0 ?_
    refine r_V2 v_Model_lies w_1115 lm_0 (c0_Model_lies (cc := 0) hS2 hlf2 hk hn) (Nat.le_of_ble_eq_true rfl) (Nat.le_of_ble_eq_true rfl) d_Model_plans_51 ?_
    refine r_aload_n (i := 0) d_Model_plans_54 rfl rfl ?_
    refine r_iload_n (i := 1) d_Model_plans_55 rfl rfl ?_
    refine r_iconst 1 d_Model_plans_56 ic_1 ?_
    refine r_V2 v_Model_lies w_1115 lm_0 (c1_Model_lies (cc := 0) hS2 hlf2 hk hn (fun q => absurd hl q)) (Nat.le_of_ble_eq_true rfl) (Nat.le_of_ble_eq_true rfl) d_Model_plans_57 ?_
    refine r_W5 v_Model_writes w_1119 lm_0 (c_Model_writes hP hls _ _ _ _ _) (Nat.le_of_ble_eq_true rfl) (Nat.le_of_ble_eq_true rfl) d_Model_plans_60 (fun v N1 hv => ?_)
    obtain ⟨rfl, hP1, e1⟩ := hv
    refine r_goto 343 d_Model_plans_63 (by decide) ?_
    refine r_vret rfl d_Model_plans_343 ?_
    rw [srN, if_pos hl] at hP1
    exact ⟨rfl, hP1, e1⟩

theorem c0_Model_plans (hS : MS n le nu lf rt nm mc (M 3)) (hlf : ∀ j, j < n → M 11 j = bI (decide (lf j = -9))) (hP : PG M T ls c N) {k b i w : Nat} (hk : k < n) (hn : n ≤ 31) (hi1 : 1 ≤ i) (hi : i ≤ 6) (hT : T.length < 248) (hl : lf k ≠ -9) (hwy : N 13 (7 * k + i) = 0) {l : Nat} (hl1 : l < k) (el : lf k = nI l) : CJ G LM m_Model_plans 2 [.ref (G.2.2 0), .int (nI k), .int (nI b), .int (nI i)] N (fun v N2 => v = none ∧ PG M ((0, nI l, nI b, nI i, 0) :: (1, nI k, nI b, nI b, nI b) :: T) ls c N2 ∧ N2 17 = N 17) := by
  have hS2 : MS n le nu lf rt nm mc (N 3) := by rw [hP.1 3 (by decide) (by decide) (by decide) (by decide)]; exact hS
  have hlf2 : ∀ j, j < n → N 11 j = bI (decide (lf j = -9)) := by rw [hP.1 11 (by decide) (by decide) (by decide) (by decide)]; exact hlf
  refine CJ_of2 (n0 := 3) (by decide) rfl rfl ?_
  simp only [List.map_cons, List.map_nil, List.cons_append, List.nil_append, List.reduceReplicate]
  refine r_aload_n (i := 0) d_Model_plans_0 rfl rfl ?_
  refine r_getr nf_Model_16 lm_0 rfl d_Model_plans_1 ?_
  refine r_bipush 63 d_Model_plans_4 bp_63 ?_
  refine r_iload_n (i := 1) d_Model_plans_6 rfl rfl ?_
  refine r_iaddN (a := 63) (b := k) d_Model_plans_7 rfl rfl ?_
  refine r_ia (q := (63 + k)) lm_3 rfl (by omega) (by decide) ((hS2.glf (j := k) hk).trans el) d_Model_plans_8 ?_
  refine r_istore d_Model_plans_9 (Nat.le_of_ble_eq_true rfl) rfl ?_
  dsimp only [List.set]
  refine r_aload_n (i := 0) d_Model_plans_11 rfl rfl ?_
  refine r_getr nf_Model_16 lm_0 rfl d_Model_plans_12 ?_
  refine r_bipush 94 d_Model_plans_15 bp_94 ?_
  refine r_iload_n (i := 1) d_Model_plans_17 rfl rfl ?_
  refine r_iaddN (a := 94) (b := k) d_Model_plans_18 rfl rfl ?_
  refine r_ia (q := (94 + k)) lm_3 rfl (by omega) (by decide) ((hS2.grt (j := k) (by omega))) d_Model_plans_19 ?_
  refine r_istore d_Model_plans_20 (Nat.le_of_ble_eq_true rfl) rfl ?_
  dsimp only [List.set]
  refine r_aload_n (i := 0) d_Model_plans_22 rfl rfl ?_
  refine r_getr nf_Model_47 lm_0 rfl d_Model_plans_23 ?_
  refine r_bipush 7 d_Model_plans_26 bp_7 ?_
  refine r_iload_n (i := 1) d_Model_plans_28 rfl rfl ?_
  refine r_imulN (a := 7) (b := k) d_Model_plans_29 rfl rfl ?_
  refine r_iload_n (i := 3) d_Model_plans_30 rfl rfl ?_
  refine r_iaddN (a := (7 * k)) (b := i) d_Model_plans_31 rfl rfl ?_
  refine r_ia (q := ((7 * k) + i)) lm_13 rfl (by omega) (by decide) (hwy) d_Model_plans_32 ?_
  refine r_istore d_Model_plans_33 (Nat.le_of_ble_eq_true rfl) rfl ?_
  dsimp only [List.set]
  refine r_aload_n (i := 0) d_Model_plans_35 rfl rfl ?_
  refine r_getr nf_Model_41 lm_0 rfl d_Model_plans_36 ?_
  refine r_iload_n (i := 1) d_Model_plans_39 rfl rfl ?_
  refine r_za (q := k) lm_11 rfl (by omega) (by decide) (hlf2 k hk) d_Model_plans_40 ?_
  refine r_if_eq 66 d_Model_plans_41 (by decide) (fun h_41 => ?_) (fun h_41 => ?_)
  · skip
    refine r_iload d_Model_plans_66 rfl ?_
    refine r_if_ne 93 d_Model_plans_68 (by decide) (fun h_68 => ?_) (fun h_68 => ?_)
    · exact absurd h_68 (by decide)
    · skip
      refine r_aload_n (i := 0) d_Model_plans_71 rfl rfl ?_
      refine r_iconst 1 d_Model_plans_72 ic_1 ?_
      refine r_iload_n (i := 1) d_Model_plans_73 rfl rfl ?_
      refine r_iload_n (i := 2) d_Model_plans_74 rfl rfl ?_
      refine r_iload_n (i := 2) d_Model_plans_75 rfl rfl ?_
      refine r_iload_n (i := 2) d_Model_plans_76 rfl rfl ?_
      refine r_W5 v_Model_toDo w_1107 lm_0 (c_Model_toDo hP (by omega) _ _ _ _ _) (Nat.le_of_ble_eq_true rfl) (Nat.le_of_ble_eq_true rfl) d_Model_plans_77 (fun v N1 hv => ?_)
      obtain ⟨rfl, hP1, e1⟩ := hv
      refine r_aload_n (i := 0) d_Model_plans_80 rfl rfl ?_
      refine r_iconst 0 d_Model_plans_81 ic_0 ?_
      refine r_iload d_Model_plans_82 rfl ?_
      refine r_iload_n (i := 2) d_Model_plans_84 rfl rfl ?_
      refine r_iload_n (i := 3) d_Model_plans_85 rfl rfl ?_
      refine r_iconst 0 d_Model_plans_86 ic_0 ?_
      refine r_W5 v_Model_toDo w_1107 lm_0 (c_Model_toDo hP1 (by simp only [List.length_cons, List.length_append] at *; omega) _ _ _ _ _) (Nat.le_of_ble_eq_true rfl) (Nat.le_of_ble_eq_true rfl) d_Model_plans_87 (fun v N2 hv => ?_)
      obtain ⟨rfl, hP2, e2⟩ := hv
      refine r_goto 343 d_Model_plans_90 (by decide) ?_
      refine r_vret rfl d_Model_plans_343 ?_
      exact ⟨rfl, hP2, (e2.trans (e1))⟩
  · skip
    exact absurd (of_decide_eq_true ((bI_t _).mp h_41)) hl

theorem c1_Model_plans (hS : MS n le nu lf rt nm mc (M 3)) (hlf : ∀ j, j < n → M 11 j = bI (decide (lf j = -9))) (hP : PG M T ls c N) {k b i w : Nat} (hk : k < n) (hn : n ≤ 31) (hi1 : 1 ≤ i) (hi : i ≤ 6) (hT : T.length < 248) (hl : lf k ≠ -9) (hwy : N 13 (7 * k + i) = 1) {l r : Nat} (hl1 : l < k) (hr1 : r < k) (el : lf k = nI l) (er : rt k = nI r) : CJ G LM m_Model_plans 2 [.ref (G.2.2 0), .int (nI k), .int (nI b), .int (nI i)] N (fun v N2 => v = none ∧ PG M ((0, nI l, nI b, nI i, 0) :: (0, nI r, nI (b + 1), nI (i - 1), 0) :: (1, nI k, nI b, nI b, nI (b + 1)) :: T) ls c N2 ∧ N2 17 = N 17) := by
  have hS2 : MS n le nu lf rt nm mc (N 3) := by rw [hP.1 3 (by decide) (by decide) (by decide) (by decide)]; exact hS
  have hlf2 : ∀ j, j < n → N 11 j = bI (decide (lf j = -9)) := by rw [hP.1 11 (by decide) (by decide) (by decide) (by decide)]; exact hlf
  refine CJ_of2 (n0 := 3) (by decide) rfl rfl ?_
  simp only [List.map_cons, List.map_nil, List.cons_append, List.nil_append, List.reduceReplicate]
  refine r_aload_n (i := 0) d_Model_plans_0 rfl rfl ?_
  refine r_getr nf_Model_16 lm_0 rfl d_Model_plans_1 ?_
  refine r_bipush 63 d_Model_plans_4 bp_63 ?_
  refine r_iload_n (i := 1) d_Model_plans_6 rfl rfl ?_
  refine r_iaddN (a := 63) (b := k) d_Model_plans_7 rfl rfl ?_
  refine r_ia (q := (63 + k)) lm_3 rfl (by omega) (by decide) ((hS2.glf (j := k) hk).trans el) d_Model_plans_8 ?_
  refine r_istore d_Model_plans_9 (Nat.le_of_ble_eq_true rfl) rfl ?_
  dsimp only [List.set]
  refine r_aload_n (i := 0) d_Model_plans_11 rfl rfl ?_
  refine r_getr nf_Model_16 lm_0 rfl d_Model_plans_12 ?_
  refine r_bipush 94 d_Model_plans_15 bp_94 ?_
  refine r_iload_n (i := 1) d_Model_plans_17 rfl rfl ?_
  refine r_iaddN (a := 94) (b := k) d_Model_plans_18 rfl rfl ?_
  refine r_ia (q := (94 + k)) lm_3 rfl (by omega) (by decide) ((hS2.grt (j := k) hk).trans er) d_Model_plans_19 ?_
  refine r_istore d_Model_plans_20 (Nat.le_of_ble_eq_true rfl) rfl ?_
  dsimp only [List.set]
  refine r_aload_n (i := 0) d_Model_plans_22 rfl rfl ?_
  refine r_getr nf_Model_47 lm_0 rfl d_Model_plans_23 ?_
  refine r_bipush 7 d_Model_plans_26 bp_7 ?_
  refine r_iload_n (i := 1) d_Model_plans_28 rfl rfl ?_
  refine r_imulN (a := 7) (b := k) d_Model_plans_29 rfl rfl ?_
  refine r_iload_n (i := 3) d_Model_plans_30 rfl rfl ?_
  refine r_iaddN (a := (7 * k)) (b := i) d_Model_plans_31 rfl rfl ?_
  refine r_ia (q := ((7 * k) + i)) lm_13 rfl (by omega) (by decide) (hwy) d_Model_plans_32 ?_
  refine r_istore d_Model_plans_33 (Nat.le_of_ble_eq_true rfl) rfl ?_
  dsimp only [List.set]
  refine r_aload_n (i := 0) d_Model_plans_35 rfl rfl ?_
  refine r_getr nf_Model_41 lm_0 rfl d_Model_plans_36 ?_
  refine r_iload_n (i := 1) d_Model_plans_39 rfl rfl ?_
  refine r_za (q := k) lm_11 rfl (by omega) (by decide) (hlf2 k hk) d_Model_plans_40 ?_
  refine r_if_eq 66 d_Model_plans_41 (by decide) (fun h_41 => ?_) (fun h_41 => ?_)
  · skip
    refine r_iload d_Model_plans_66 rfl ?_
    refine r_if_ne 93 d_Model_plans_68 (by decide) (fun h_68 => ?_) (fun h_68 => ?_)
    · skip
      refine r_iload d_Model_plans_93 rfl ?_
      refine r_iconst 1 d_Model_plans_95 ic_1 ?_
      refine r_icmp_ne 137 d_Model_plans_96 (by decide) (fun h_96 => ?_) (fun h_96 => ?_)
      · exact absurd h_96 (by decide)
      · skip
        refine r_aload_n (i := 0) d_Model_plans_99 rfl rfl ?_
        refine r_iconst 1 d_Model_plans_100 ic_1 ?_
        refine r_iload_n (i := 1) d_Model_plans_101 rfl rfl ?_
        refine r_iload_n (i := 2) d_Model_plans_102 rfl rfl ?_
        refine r_iload_n (i := 2) d_Model_plans_103 rfl rfl ?_
        refine r_iload_n (i := 2) d_Model_plans_104 rfl rfl ?_
        refine r_iconst 1 d_Model_plans_105 ic_1 ?_
        refine r_iaddN (a := b) (b := 1) d_Model_plans_106 rfl rfl ?_
        refine r_W5 v_Model_toDo w_1107 lm_0 (c_Model_toDo hP (by omega) _ _ _ _ _) (Nat.le_of_ble_eq_true rfl) (Nat.le_of_ble_eq_true rfl) d_Model_plans_107 (fun v N1 hv => ?_)
        obtain ⟨rfl, hP1, e1⟩ := hv
        refine r_aload_n (i := 0) d_Model_plans_110 rfl rfl ?_
        refine r_iconst 0 d_Model_plans_111 ic_0 ?_
        refine r_iload d_Model_plans_112 rfl ?_
        refine r_iload_n (i := 2) d_Model_plans_114 rfl rfl ?_
        refine r_iconst 1 d_Model_plans_115 ic_1 ?_
        refine r_iaddN (a := b) (b := 1) d_Model_plans_116 rfl rfl ?_
        refine r_iload_n (i := 3) d_Model_plans_117 rfl rfl ?_
        refine r_iconst 1 d_Model_plans_118 ic_1 ?_
        refine r_isubN (a := i) (b := 1) d_Model_plans_119 rfl rfl (by omega) ?_
        refine r_iconst 0 d_Model_plans_120 ic_0 ?_
        refine r_W5 v_Model_toDo w_1107 lm_0 (c_Model_toDo hP1 (by simp only [List.length_cons, List.length_append] at *; omega) _ _ _ _ _) (Nat.le_of_ble_eq_true rfl) (Nat.le_of_ble_eq_true rfl) d_Model_plans_121 (fun v N2 hv => ?_)
        obtain ⟨rfl, hP2, e2⟩ := hv
        refine r_aload_n (i := 0) d_Model_plans_124 rfl rfl ?_
        refine r_iconst 0 d_Model_plans_125 ic_0 ?_
        refine r_iload d_Model_plans_126 rfl ?_
        refine r_iload_n (i := 2) d_Model_plans_128 rfl rfl ?_
        refine r_iload_n (i := 3) d_Model_plans_129 rfl rfl ?_
        refine r_iconst 0 d_Model_plans_130 ic_0 ?_
        refine r_W5 v_Model_toDo w_1107 lm_0 (c_Model_toDo hP2 (by simp only [List.length_cons, List.length_append] at *; omega) _ _ _ _ _) (Nat.le_of_ble_eq_true rfl) (Nat.le_of_ble_eq_true rfl) d_Model_plans_131 (fun v N3 hv => ?_)
        obtain ⟨rfl, hP3, e3⟩ := hv
        refine r_goto 343 d_Model_plans_134 (by decide) ?_
        refine r_vret rfl d_Model_plans_343 ?_
        exact ⟨rfl, hP3, (e3.trans (e2.trans (e1)))⟩
    · exact absurd h_68 (by decide)
  · skip
    exact absurd (of_decide_eq_true ((bI_t _).mp h_41)) hl

theorem c2_Model_plans (hS : MS n le nu lf rt nm mc (M 3)) (hlf : ∀ j, j < n → M 11 j = bI (decide (lf j = -9))) (hP : PG M T ls c N) {k b i w : Nat} (hk : k < n) (hn : n ≤ 31) (hi1 : 1 ≤ i) (hi : i ≤ 6) (hT : T.length < 248) (hl : lf k ≠ -9) (hwy : N 13 (7 * k + i) = 2) {l r : Nat} (hl1 : l < k) (hr1 : r < k) (el : lf k = nI l) (er : rt k = nI r) : CJ G LM m_Model_plans 2 [.ref (G.2.2 0), .int (nI k), .int (nI b), .int (nI i)] N (fun v N2 => v = none ∧ PG M ((0, nI r, nI b, nI i, 0) :: (0, nI l, nI (b + 1), nI (i - 1), 0) :: (1, nI k, nI b, nI (b + 1), nI b) :: T) ls c N2 ∧ N2 17 = N 17) := by
  have hS2 : MS n le nu lf rt nm mc (N 3) := by rw [hP.1 3 (by decide) (by decide) (by decide) (by decide)]; exact hS
  have hlf2 : ∀ j, j < n → N 11 j = bI (decide (lf j = -9)) := by rw [hP.1 11 (by decide) (by decide) (by decide) (by decide)]; exact hlf
  refine CJ_of2 (n0 := 3) (by decide) rfl rfl ?_
  simp only [List.map_cons, List.map_nil, List.cons_append, List.nil_append, List.reduceReplicate]
  refine r_aload_n (i := 0) d_Model_plans_0 rfl rfl ?_
  refine r_getr nf_Model_16 lm_0 rfl d_Model_plans_1 ?_
  refine r_bipush 63 d_Model_plans_4 bp_63 ?_
  refine r_iload_n (i := 1) d_Model_plans_6 rfl rfl ?_
  refine r_iaddN (a := 63) (b := k) d_Model_plans_7 rfl rfl ?_
  refine r_ia (q := (63 + k)) lm_3 rfl (by omega) (by decide) ((hS2.glf (j := k) hk).trans el) d_Model_plans_8 ?_
  refine r_istore d_Model_plans_9 (Nat.le_of_ble_eq_true rfl) rfl ?_
  dsimp only [List.set]
  refine r_aload_n (i := 0) d_Model_plans_11 rfl rfl ?_
  refine r_getr nf_Model_16 lm_0 rfl d_Model_plans_12 ?_
  refine r_bipush 94 d_Model_plans_15 bp_94 ?_
  refine r_iload_n (i := 1) d_Model_plans_17 rfl rfl ?_
  refine r_iaddN (a := 94) (b := k) d_Model_plans_18 rfl rfl ?_
  refine r_ia (q := (94 + k)) lm_3 rfl (by omega) (by decide) ((hS2.grt (j := k) hk).trans er) d_Model_plans_19 ?_
  refine r_istore d_Model_plans_20 (Nat.le_of_ble_eq_true rfl) rfl ?_
  dsimp only [List.set]
  refine r_aload_n (i := 0) d_Model_plans_22 rfl rfl ?_
  refine r_getr nf_Model_47 lm_0 rfl d_Model_plans_23 ?_
  refine r_bipush 7 d_Model_plans_26 bp_7 ?_
  refine r_iload_n (i := 1) d_Model_plans_28 rfl rfl ?_
  refine r_imulN (a := 7) (b := k) d_Model_plans_29 rfl rfl ?_
  refine r_iload_n (i := 3) d_Model_plans_30 rfl rfl ?_
  refine r_iaddN (a := (7 * k)) (b := i) d_Model_plans_31 rfl rfl ?_
  refine r_ia (q := ((7 * k) + i)) lm_13 rfl (by omega) (by decide) (hwy) d_Model_plans_32 ?_
  refine r_istore d_Model_plans_33 (Nat.le_of_ble_eq_true rfl) rfl ?_
  dsimp only [List.set]
  refine r_aload_n (i := 0) d_Model_plans_35 rfl rfl ?_
  refine r_getr nf_Model_41 lm_0 rfl d_Model_plans_36 ?_
  refine r_iload_n (i := 1) d_Model_plans_39 rfl rfl ?_
  refine r_za (q := k) lm_11 rfl (by omega) (by decide) (hlf2 k hk) d_Model_plans_40 ?_
  refine r_if_eq 66 d_Model_plans_41 (by decide) (fun h_41 => ?_) (fun h_41 => ?_)
  · skip
    refine r_iload d_Model_plans_66 rfl ?_
    refine r_if_ne 93 d_Model_plans_68 (by decide) (fun h_68 => ?_) (fun h_68 => ?_)
    · skip
      refine r_iload d_Model_plans_93 rfl ?_
      refine r_iconst 1 d_Model_plans_95 ic_1 ?_
      refine r_icmp_ne 137 d_Model_plans_96 (by decide) (fun h_96 => ?_) (fun h_96 => ?_)
      · skip
        refine r_iload d_Model_plans_137 rfl ?_
        refine r_iconst 2 d_Model_plans_139 ic_2 ?_
        refine r_icmp_ne 181 d_Model_plans_140 (by decide) (fun h_140 => ?_) (fun h_140 => ?_)
        · exact absurd h_140 (by decide)
        · skip
          refine r_aload_n (i := 0) d_Model_plans_143 rfl rfl ?_
          refine r_iconst 1 d_Model_plans_144 ic_1 ?_
          refine r_iload_n (i := 1) d_Model_plans_145 rfl rfl ?_
          refine r_iload_n (i := 2) d_Model_plans_146 rfl rfl ?_
          refine r_iload_n (i := 2) d_Model_plans_147 rfl rfl ?_
          refine r_iconst 1 d_Model_plans_148 ic_1 ?_
          refine r_iaddN (a := b) (b := 1) d_Model_plans_149 rfl rfl ?_
          refine r_iload_n (i := 2) d_Model_plans_150 rfl rfl ?_
          refine r_W5 v_Model_toDo w_1107 lm_0 (c_Model_toDo hP (by omega) _ _ _ _ _) (Nat.le_of_ble_eq_true rfl) (Nat.le_of_ble_eq_true rfl) d_Model_plans_151 (fun v N1 hv => ?_)
          obtain ⟨rfl, hP1, e1⟩ := hv
          refine r_aload_n (i := 0) d_Model_plans_154 rfl rfl ?_
          refine r_iconst 0 d_Model_plans_155 ic_0 ?_
          refine r_iload d_Model_plans_156 rfl ?_
          refine r_iload_n (i := 2) d_Model_plans_158 rfl rfl ?_
          refine r_iconst 1 d_Model_plans_159 ic_1 ?_
          refine r_iaddN (a := b) (b := 1) d_Model_plans_160 rfl rfl ?_
          refine r_iload_n (i := 3) d_Model_plans_161 rfl rfl ?_
          refine r_iconst 1 d_Model_plans_162 ic_1 ?_
          refine r_isubN (a := i) (b := 1) d_Model_plans_163 rfl rfl (by omega) ?_
          refine r_iconst 0 d_Model_plans_164 ic_0 ?_
          refine r_W5 v_Model_toDo w_1107 lm_0 (c_Model_toDo hP1 (by simp only [List.length_cons, List.length_append] at *; omega) _ _ _ _ _) (Nat.le_of_ble_eq_true rfl) (Nat.le_of_ble_eq_true rfl) d_Model_plans_165 (fun v N2 hv => ?_)
          obtain ⟨rfl, hP2, e2⟩ := hv
          refine r_aload_n (i := 0) d_Model_plans_168 rfl rfl ?_
          refine r_iconst 0 d_Model_plans_169 ic_0 ?_
          refine r_iload d_Model_plans_170 rfl ?_
          refine r_iload_n (i := 2) d_Model_plans_172 rfl rfl ?_
          refine r_iload_n (i := 3) d_Model_plans_173 rfl rfl ?_
          refine r_iconst 0 d_Model_plans_174 ic_0 ?_
          refine r_W5 v_Model_toDo w_1107 lm_0 (c_Model_toDo hP2 (by simp only [List.length_cons, List.length_append] at *; omega) _ _ _ _ _) (Nat.le_of_ble_eq_true rfl) (Nat.le_of_ble_eq_true rfl) d_Model_plans_175 (fun v N3 hv => ?_)
          obtain ⟨rfl, hP3, e3⟩ := hv
          refine r_goto 343 d_Model_plans_178 (by decide) ?_
          refine r_vret rfl d_Model_plans_343 ?_
          exact ⟨rfl, hP3, (e3.trans (e2.trans (e1)))⟩
      · exact absurd h_96 (by decide)
    · exact absurd h_68 (by decide)
  · skip
    exact absurd (of_decide_eq_true ((bI_t _).mp h_41)) hl

theorem c3_Model_plans (hS : MS n le nu lf rt nm mc (M 3)) (hlf : ∀ j, j < n → M 11 j = bI (decide (lf j = -9))) (hP : PG M T ls c N) {k b i w : Nat} (hk : k < n) (hn : n ≤ 31) (hi1 : 1 ≤ i) (hi : i ≤ 6) (hT : T.length < 248) (hl : lf k ≠ -9) (hwy : N 13 (7 * k + i) = 3) {l r : Nat} (hl1 : l < k) (hr1 : r < k) (el : lf k = nI l) (er : rt k = nI r) : CJ G LM m_Model_plans 2 [.ref (G.2.2 0), .int (nI k), .int (nI b), .int (nI i)] N (fun v N2 => v = none ∧ PG M (kT lf r b i ++ (0, nI l, nI b, nI i, 0) :: (2, nI k, nI b, nI r, 0) :: T) ls c N2 ∧ N2 17 = N 17) := by
  have hS2 : MS n le nu lf rt nm mc (N 3) := by rw [hP.1 3 (by decide) (by decide) (by decide) (by decide)]; exact hS
  have hlf2 : ∀ j, j < n → N 11 j = bI (decide (lf j = -9)) := by rw [hP.1 11 (by decide) (by decide) (by decide) (by decide)]; exact hlf
  refine CJ_of2 (n0 := 3) (by decide) rfl rfl ?_
  simp only [List.map_cons, List.map_nil, List.cons_append, List.nil_append, List.reduceReplicate]
  refine r_aload_n (i := 0) d_Model_plans_0 rfl rfl ?_
  refine r_getr nf_Model_16 lm_0 rfl d_Model_plans_1 ?_
  refine r_bipush 63 d_Model_plans_4 bp_63 ?_
  refine r_iload_n (i := 1) d_Model_plans_6 rfl rfl ?_
  refine r_iaddN (a := 63) (b := k) d_Model_plans_7 rfl rfl ?_
  refine r_ia (q := (63 + k)) lm_3 rfl (by omega) (by decide) ((hS2.glf (j := k) hk).trans el) d_Model_plans_8 ?_
  refine r_istore d_Model_plans_9 (Nat.le_of_ble_eq_true rfl) rfl ?_
  dsimp only [List.set]
  refine r_aload_n (i := 0) d_Model_plans_11 rfl rfl ?_
  refine r_getr nf_Model_16 lm_0 rfl d_Model_plans_12 ?_
  refine r_bipush 94 d_Model_plans_15 bp_94 ?_
  refine r_iload_n (i := 1) d_Model_plans_17 rfl rfl ?_
  refine r_iaddN (a := 94) (b := k) d_Model_plans_18 rfl rfl ?_
  refine r_ia (q := (94 + k)) lm_3 rfl (by omega) (by decide) ((hS2.grt (j := k) hk).trans er) d_Model_plans_19 ?_
  refine r_istore d_Model_plans_20 (Nat.le_of_ble_eq_true rfl) rfl ?_
  dsimp only [List.set]
  refine r_aload_n (i := 0) d_Model_plans_22 rfl rfl ?_
  refine r_getr nf_Model_47 lm_0 rfl d_Model_plans_23 ?_
  refine r_bipush 7 d_Model_plans_26 bp_7 ?_
  refine r_iload_n (i := 1) d_Model_plans_28 rfl rfl ?_
  refine r_imulN (a := 7) (b := k) d_Model_plans_29 rfl rfl ?_
  refine r_iload_n (i := 3) d_Model_plans_30 rfl rfl ?_
  refine r_iaddN (a := (7 * k)) (b := i) d_Model_plans_31 rfl rfl ?_
  refine r_ia (q := ((7 * k) + i)) lm_13 rfl (by omega) (by decide) (hwy) d_Model_plans_32 ?_
  refine r_istore d_Model_plans_33 (Nat.le_of_ble_eq_true rfl) rfl ?_
  dsimp only [List.set]
  refine r_aload_n (i := 0) d_Model_plans_35 rfl rfl ?_
  refine r_getr nf_Model_41 lm_0 rfl d_Model_plans_36 ?_
  refine r_iload_n (i := 1) d_Model_plans_39 rfl rfl ?_
  refine r_za (q := k) lm_11 rfl (by omega) (by decide) (hlf2 k hk) d_Model_plans_40 ?_
  refine r_if_eq 66 d_Model_plans_41 (by decide) (fun h_41 => ?_) (fun h_41 => ?_)
  · skip
    refine r_iload d_Model_plans_66 rfl ?_
    refine r_if_ne 93 d_Model_plans_68 (by decide) (fun h_68 => ?_) (fun h_68 => ?_)
    · skip
      refine r_iload d_Model_plans_93 rfl ?_
      refine r_iconst 1 d_Model_plans_95 ic_1 ?_
      refine r_icmp_ne 137 d_Model_plans_96 (by decide) (fun h_96 => ?_) (fun h_96 => ?_)
      · skip
        refine r_iload d_Model_plans_137 rfl ?_
        refine r_iconst 2 d_Model_plans_139 ic_2 ?_
        refine r_icmp_ne 181 d_Model_plans_140 (by decide) (fun h_140 => ?_) (fun h_140 => ?_)
        · skip
          refine r_iload d_Model_plans_181 rfl ?_
          refine r_iconst 3 d_Model_plans_183 ic_3 ?_
          refine r_icmp_eq 193 d_Model_plans_184 (by decide) (fun h_184 => ?_) (fun h_184 => ?_)
          · skip
            refine r_aload_n (i := 0) d_Model_plans_193 rfl rfl ?_
            refine r_iconst 2 d_Model_plans_194 ic_2 ?_
            refine r_iload_n (i := 1) d_Model_plans_195 rfl rfl ?_
            refine r_iload_n (i := 2) d_Model_plans_196 rfl rfl ?_
            refine r_iload d_Model_plans_197 rfl ?_
            refine r_iconst 3 d_Model_plans_199 ic_3 ?_
            refine r_icmp_ne 208 d_Model_plans_200 (by decide) (fun h_200 => ?_) (fun h_200 => ?_)
            · exact absurd h_200 (by decide)
            · skip
              refine r_iload d_Model_plans_203 rfl ?_
              refine r_goto 210 d_Model_plans_205 (by decide) ?_
              refine r_iconst 0 d_Model_plans_210 ic_0 ?_
              refine r_W5 v_Model_toDo w_1107 lm_0 (c_Model_toDo hP (by omega) _ _ _ _ _) (Nat.le_of_ble_eq_true rfl) (Nat.le_of_ble_eq_true rfl) d_Model_plans_211 (fun v N1 hv => ?_)
              obtain ⟨rfl, hP1, e1⟩ := hv
              refine r_aload_n (i := 0) d_Model_plans_214 rfl rfl ?_
              refine r_iconst 0 d_Model_plans_215 ic_0 ?_
              refine r_iload d_Model_plans_216 rfl ?_
              refine r_iconst 3 d_Model_plans_218 ic_3 ?_
              refine r_icmp_ne 227 d_Model_plans_219 (by decide) (fun h_219 => ?_) (fun h_219 => ?_)
              · exact absurd h_219 (by decide)
              · skip
                refine r_iload d_Model_plans_222 rfl ?_
                refine r_goto 229 d_Model_plans_224 (by decide) ?_
                refine r_iload_n (i := 2) d_Model_plans_229 rfl rfl ?_
                refine r_iload_n (i := 3) d_Model_plans_230 rfl rfl ?_
                refine r_iconst 0 d_Model_plans_231 ic_0 ?_
                refine r_W5 v_Model_toDo w_1107 lm_0 (c_Model_toDo hP1 (by simp only [List.length_cons, List.length_append] at *; omega) _ _ _ _ _) (Nat.le_of_ble_eq_true rfl) (Nat.le_of_ble_eq_true rfl) d_Model_plans_232 (fun v N2 hv => ?_)
                obtain ⟨rfl, hP2, e2⟩ := hv
                refine r_aload_n (i := 0) d_Model_plans_235 rfl rfl ?_
                refine r_iload d_Model_plans_236 rfl ?_
                refine r_iconst 3 d_Model_plans_238 ic_3 ?_
                refine r_icmp_ne 247 d_Model_plans_239 (by decide) (fun h_239 => ?_) (fun h_239 => ?_)
                · exact absurd h_239 (by decide)
                · skip
                  refine r_iload d_Model_plans_242 rfl ?_
                  refine r_goto 249 d_Model_plans_244 (by decide) ?_
                  refine r_iload_n (i := 2) d_Model_plans_249 rfl rfl ?_
                  refine r_iload_n (i := 3) d_Model_plans_250 rfl rfl ?_
                  refine r_W3 v_Model_toKeep w_1123 lm_0 (c_Model_toKeep hP2 (by simp only [List.length_cons]; omega) hlf (k := r) (b := b) (i := i) (by omega) hn) (Nat.le_of_ble_eq_true rfl) (Nat.le_of_ble_eq_true rfl) d_Model_plans_251 (fun v N3 hv => ?_)
                  obtain ⟨rfl, hP3, e3⟩ := hv
                  refine r_goto 343 d_Model_plans_254 (by decide) ?_
                  refine r_vret rfl d_Model_plans_343 ?_
                  exact ⟨rfl, hP3, (e3.trans (e2.trans (e1)))⟩
          · exact absurd h_184 (by decide)
        · exact absurd h_140 (by decide)
      · exact absurd h_96 (by decide)
    · exact absurd h_68 (by decide)
  · skip
    exact absurd (of_decide_eq_true ((bI_t _).mp h_41)) hl

theorem c4_Model_plans (hS : MS n le nu lf rt nm mc (M 3)) (hlf : ∀ j, j < n → M 11 j = bI (decide (lf j = -9))) (hP : PG M T ls c N) {k b i w : Nat} (hk : k < n) (hn : n ≤ 31) (hi1 : 1 ≤ i) (hi : i ≤ 6) (hT : T.length < 248) (hl : lf k ≠ -9) (hwy : N 13 (7 * k + i) = 4) {l r : Nat} (hl1 : l < k) (hr1 : r < k) (el : lf k = nI l) (er : rt k = nI r) : CJ G LM m_Model_plans 2 [.ref (G.2.2 0), .int (nI k), .int (nI b), .int (nI i)] N (fun v N2 => v = none ∧ PG M (kT lf l b i ++ (0, nI r, nI b, nI i, 0) :: (2, nI k, nI b, nI l, 0) :: T) ls c N2 ∧ N2 17 = N 17) := by
  have hS2 : MS n le nu lf rt nm mc (N 3) := by rw [hP.1 3 (by decide) (by decide) (by decide) (by decide)]; exact hS
  have hlf2 : ∀ j, j < n → N 11 j = bI (decide (lf j = -9)) := by rw [hP.1 11 (by decide) (by decide) (by decide) (by decide)]; exact hlf
  refine CJ_of2 (n0 := 3) (by decide) rfl rfl ?_
  simp only [List.map_cons, List.map_nil, List.cons_append, List.nil_append, List.reduceReplicate]
  refine r_aload_n (i := 0) d_Model_plans_0 rfl rfl ?_
  refine r_getr nf_Model_16 lm_0 rfl d_Model_plans_1 ?_
  refine r_bipush 63 d_Model_plans_4 bp_63 ?_
  refine r_iload_n (i := 1) d_Model_plans_6 rfl rfl ?_
  refine r_iaddN (a := 63) (b := k) d_Model_plans_7 rfl rfl ?_
  refine r_ia (q := (63 + k)) lm_3 rfl (by omega) (by decide) ((hS2.glf (j := k) hk).trans el) d_Model_plans_8 ?_
  refine r_istore d_Model_plans_9 (Nat.le_of_ble_eq_true rfl) rfl ?_
  dsimp only [List.set]
  refine r_aload_n (i := 0) d_Model_plans_11 rfl rfl ?_
  refine r_getr nf_Model_16 lm_0 rfl d_Model_plans_12 ?_
  refine r_bipush 94 d_Model_plans_15 bp_94 ?_
  refine r_iload_n (i := 1) d_Model_plans_17 rfl rfl ?_
  refine r_iaddN (a := 94) (b := k) d_Model_plans_18 rfl rfl ?_
  refine r_ia (q := (94 + k)) lm_3 rfl (by omega) (by decide) ((hS2.grt (j := k) hk).trans er) d_Model_plans_19 ?_
  refine r_istore d_Model_plans_20 (Nat.le_of_ble_eq_true rfl) rfl ?_
  dsimp only [List.set]
  refine r_aload_n (i := 0) d_Model_plans_22 rfl rfl ?_
  refine r_getr nf_Model_47 lm_0 rfl d_Model_plans_23 ?_
  refine r_bipush 7 d_Model_plans_26 bp_7 ?_
  refine r_iload_n (i := 1) d_Model_plans_28 rfl rfl ?_
  refine r_imulN (a := 7) (b := k) d_Model_plans_29 rfl rfl ?_
  refine r_iload_n (i := 3) d_Model_plans_30 rfl rfl ?_
  refine r_iaddN (a := (7 * k)) (b := i) d_Model_plans_31 rfl rfl ?_
  refine r_ia (q := ((7 * k) + i)) lm_13 rfl (by omega) (by decide) (hwy) d_Model_plans_32 ?_
  refine r_istore d_Model_plans_33 (Nat.le_of_ble_eq_true rfl) rfl ?_
  dsimp only [List.set]
  refine r_aload_n (i := 0) d_Model_plans_35 rfl rfl ?_
  refine r_getr nf_Model_41 lm_0 rfl d_Model_plans_36 ?_
  refine r_iload_n (i := 1) d_Model_plans_39 rfl rfl ?_
  refine r_za (q := k) lm_11 rfl (by omega) (by decide) (hlf2 k hk) d_Model_plans_40 ?_
  refine r_if_eq 66 d_Model_plans_41 (by decide) (fun h_41 => ?_) (fun h_41 => ?_)
  · skip
    refine r_iload d_Model_plans_66 rfl ?_
    refine r_if_ne 93 d_Model_plans_68 (by decide) (fun h_68 => ?_) (fun h_68 => ?_)
    · skip
      refine r_iload d_Model_plans_93 rfl ?_
      refine r_iconst 1 d_Model_plans_95 ic_1 ?_
      refine r_icmp_ne 137 d_Model_plans_96 (by decide) (fun h_96 => ?_) (fun h_96 => ?_)
      · skip
        refine r_iload d_Model_plans_137 rfl ?_
        refine r_iconst 2 d_Model_plans_139 ic_2 ?_
        refine r_icmp_ne 181 d_Model_plans_140 (by decide) (fun h_140 => ?_) (fun h_140 => ?_)
        · skip
          refine r_iload d_Model_plans_181 rfl ?_
          refine r_iconst 3 d_Model_plans_183 ic_3 ?_
          refine r_icmp_eq 193 d_Model_plans_184 (by decide) (fun h_184 => ?_) (fun h_184 => ?_)
          · exact absurd h_184 (by decide)
          · skip
            refine r_iload d_Model_plans_187 rfl ?_
            refine r_iconst 4 d_Model_plans_189 ic_4 ?_
            refine r_icmp_ne 257 d_Model_plans_190 (by decide) (fun h_190 => ?_) (fun h_190 => ?_)
            · exact absurd h_190 (by decide)
            · skip
              refine r_aload_n (i := 0) d_Model_plans_193 rfl rfl ?_
              refine r_iconst 2 d_Model_plans_194 ic_2 ?_
              refine r_iload_n (i := 1) d_Model_plans_195 rfl rfl ?_
              refine r_iload_n (i := 2) d_Model_plans_196 rfl rfl ?_
              refine r_iload d_Model_plans_197 rfl ?_
              refine r_iconst 3 d_Model_plans_199 ic_3 ?_
              refine r_icmp_ne 208 d_Model_plans_200 (by decide) (fun h_200 => ?_) (fun h_200 => ?_)
              · skip
                refine r_iload d_Model_plans_208 rfl ?_
                refine r_iconst 0 d_Model_plans_210 ic_0 ?_
                refine r_W5 v_Model_toDo w_1107 lm_0 (c_Model_toDo hP (by omega) _ _ _ _ _) (Nat.le_of_ble_eq_true rfl) (Nat.le_of_ble_eq_true rfl) d_Model_plans_211 (fun v N1 hv => ?_)
                obtain ⟨rfl, hP1, e1⟩ := hv
                refine r_aload_n (i := 0) d_Model_plans_214 rfl rfl ?_
                refine r_iconst 0 d_Model_plans_215 ic_0 ?_
                refine r_iload d_Model_plans_216 rfl ?_
                refine r_iconst 3 d_Model_plans_218 ic_3 ?_
                refine r_icmp_ne 227 d_Model_plans_219 (by decide) (fun h_219 => ?_) (fun h_219 => ?_)
                · skip
                  refine r_iload d_Model_plans_227 rfl ?_
                  refine r_iload_n (i := 2) d_Model_plans_229 rfl rfl ?_
                  refine r_iload_n (i := 3) d_Model_plans_230 rfl rfl ?_
                  refine r_iconst 0 d_Model_plans_231 ic_0 ?_
                  refine r_W5 v_Model_toDo w_1107 lm_0 (c_Model_toDo hP1 (by simp only [List.length_cons, List.length_append] at *; omega) _ _ _ _ _) (Nat.le_of_ble_eq_true rfl) (Nat.le_of_ble_eq_true rfl) d_Model_plans_232 (fun v N2 hv => ?_)
                  obtain ⟨rfl, hP2, e2⟩ := hv
                  refine r_aload_n (i := 0) d_Model_plans_235 rfl rfl ?_
                  refine r_iload d_Model_plans_236 rfl ?_
                  refine r_iconst 3 d_Model_plans_238 ic_3 ?_
                  refine r_icmp_ne 247 d_Model_plans_239 (by decide) (fun h_239 => ?_) (fun h_239 => ?_)
                  · skip
                    refine r_iload d_Model_plans_247 rfl ?_
                    refine r_iload_n (i := 2) d_Model_plans_249 rfl rfl ?_
                    refine r_iload_n (i := 3) d_Model_plans_250 rfl rfl ?_
                    refine r_W3 v_Model_toKeep w_1123 lm_0 (c_Model_toKeep hP2 (by simp only [List.length_cons]; omega) hlf (k := l) (b := b) (i := i) (by omega) hn) (Nat.le_of_ble_eq_true rfl) (Nat.le_of_ble_eq_true rfl) d_Model_plans_251 (fun v N3 hv => ?_)
                    obtain ⟨rfl, hP3, e3⟩ := hv
                    refine r_goto 343 d_Model_plans_254 (by decide) ?_
                    refine r_vret rfl d_Model_plans_343 ?_
                    exact ⟨rfl, hP3, (e3.trans (e2.trans (e1)))⟩
                  · exact absurd h_239 (by decide)
                · exact absurd h_219 (by decide)
              · exact absurd h_200 (by decide)
        · exact absurd h_140 (by decide)
      · exact absurd h_96 (by decide)
    · exact absurd h_68 (by decide)
  · skip
    exact absurd (of_decide_eq_true ((bI_t _).mp h_41)) hl

theorem c5_Model_plans (hS : MS n le nu lf rt nm mc (M 3)) (hlf : ∀ j, j < n → M 11 j = bI (decide (lf j = -9))) (hP : PG M T ls c N) {k b i w : Nat} (hk : k < n) (hn : n ≤ 31) (hi1 : 1 ≤ i) (hi : i ≤ 6) (hT : T.length < 248) (hl : lf k ≠ -9) (hwy : N 13 (7 * k + i) = 5) {l r : Nat} (hl1 : l < k) (hr1 : r < k) (el : lf k = nI l) (er : rt k = nI r) : CJ G LM m_Model_plans 2 [.ref (G.2.2 0), .int (nI k), .int (nI b), .int (nI i)] N (fun v N2 => v = none ∧ PG M (kT lf l b i ++ (0, nI r, nI b, nI i, 0) :: (3, nI l, nI (b + 1), 0, 0) :: (1, nI k, nI b, nI (b + 1), nI b) :: T) ls c N2 ∧ N2 17 = N 17) := by
  have hS2 : MS n le nu lf rt nm mc (N 3) := by rw [hP.1 3 (by decide) (by decide) (by decide) (by decide)]; exact hS
  have hlf2 : ∀ j, j < n → N 11 j = bI (decide (lf j = -9)) := by rw [hP.1 11 (by decide) (by decide) (by decide) (by decide)]; exact hlf
  refine CJ_of2 (n0 := 3) (by decide) rfl rfl ?_
  simp only [List.map_cons, List.map_nil, List.cons_append, List.nil_append, List.reduceReplicate]
  refine r_aload_n (i := 0) d_Model_plans_0 rfl rfl ?_
  refine r_getr nf_Model_16 lm_0 rfl d_Model_plans_1 ?_
  refine r_bipush 63 d_Model_plans_4 bp_63 ?_
  refine r_iload_n (i := 1) d_Model_plans_6 rfl rfl ?_
  refine r_iaddN (a := 63) (b := k) d_Model_plans_7 rfl rfl ?_
  refine r_ia (q := (63 + k)) lm_3 rfl (by omega) (by decide) ((hS2.glf (j := k) hk).trans el) d_Model_plans_8 ?_
  refine r_istore d_Model_plans_9 (Nat.le_of_ble_eq_true rfl) rfl ?_
  dsimp only [List.set]
  refine r_aload_n (i := 0) d_Model_plans_11 rfl rfl ?_
  refine r_getr nf_Model_16 lm_0 rfl d_Model_plans_12 ?_
  refine r_bipush 94 d_Model_plans_15 bp_94 ?_
  refine r_iload_n (i := 1) d_Model_plans_17 rfl rfl ?_
  refine r_iaddN (a := 94) (b := k) d_Model_plans_18 rfl rfl ?_
  refine r_ia (q := (94 + k)) lm_3 rfl (by omega) (by decide) ((hS2.grt (j := k) hk).trans er) d_Model_plans_19 ?_
  refine r_istore d_Model_plans_20 (Nat.le_of_ble_eq_true rfl) rfl ?_
  dsimp only [List.set]
  refine r_aload_n (i := 0) d_Model_plans_22 rfl rfl ?_
  refine r_getr nf_Model_47 lm_0 rfl d_Model_plans_23 ?_
  refine r_bipush 7 d_Model_plans_26 bp_7 ?_
  refine r_iload_n (i := 1) d_Model_plans_28 rfl rfl ?_
  refine r_imulN (a := 7) (b := k) d_Model_plans_29 rfl rfl ?_
  refine r_iload_n (i := 3) d_Model_plans_30 rfl rfl ?_
  refine r_iaddN (a := (7 * k)) (b := i) d_Model_plans_31 rfl rfl ?_
  refine r_ia (q := ((7 * k) + i)) lm_13 rfl (by omega) (by decide) (hwy) d_Model_plans_32 ?_
  refine r_istore d_Model_plans_33 (Nat.le_of_ble_eq_true rfl) rfl ?_
  dsimp only [List.set]
  refine r_aload_n (i := 0) d_Model_plans_35 rfl rfl ?_
  refine r_getr nf_Model_41 lm_0 rfl d_Model_plans_36 ?_
  refine r_iload_n (i := 1) d_Model_plans_39 rfl rfl ?_
  refine r_za (q := k) lm_11 rfl (by omega) (by decide) (hlf2 k hk) d_Model_plans_40 ?_
  refine r_if_eq 66 d_Model_plans_41 (by decide) (fun h_41 => ?_) (fun h_41 => ?_)
  · skip
    refine r_iload d_Model_plans_66 rfl ?_
    refine r_if_ne 93 d_Model_plans_68 (by decide) (fun h_68 => ?_) (fun h_68 => ?_)
    · skip
      refine r_iload d_Model_plans_93 rfl ?_
      refine r_iconst 1 d_Model_plans_95 ic_1 ?_
      refine r_icmp_ne 137 d_Model_plans_96 (by decide) (fun h_96 => ?_) (fun h_96 => ?_)
      · skip
        refine r_iload d_Model_plans_137 rfl ?_
        refine r_iconst 2 d_Model_plans_139 ic_2 ?_
        refine r_icmp_ne 181 d_Model_plans_140 (by decide) (fun h_140 => ?_) (fun h_140 => ?_)
        · skip
          refine r_iload d_Model_plans_181 rfl ?_
          refine r_iconst 3 d_Model_plans_183 ic_3 ?_
          refine r_icmp_eq 193 d_Model_plans_184 (by decide) (fun h_184 => ?_) (fun h_184 => ?_)
          · exact absurd h_184 (by decide)
          · skip
            refine r_iload d_Model_plans_187 rfl ?_
            refine r_iconst 4 d_Model_plans_189 ic_4 ?_
            refine r_icmp_ne 257 d_Model_plans_190 (by decide) (fun h_190 => ?_) (fun h_190 => ?_)
            · skip
              refine r_iload d_Model_plans_257 rfl ?_
              refine r_iconst 5 d_Model_plans_259 ic_5 ?_
              refine r_icmp_ne 307 d_Model_plans_260 (by decide) (fun h_260 => ?_) (fun h_260 => ?_)
              · exact absurd h_260 (by decide)
              · skip
                refine r_aload_n (i := 0) d_Model_plans_263 rfl rfl ?_
                refine r_iconst 1 d_Model_plans_264 ic_1 ?_
                refine r_iload_n (i := 1) d_Model_plans_265 rfl rfl ?_
                refine r_iload_n (i := 2) d_Model_plans_266 rfl rfl ?_
                refine r_iload_n (i := 2) d_Model_plans_267 rfl rfl ?_
                refine r_iconst 1 d_Model_plans_268 ic_1 ?_
                refine r_iaddN (a := b) (b := 1) d_Model_plans_269 rfl rfl ?_
                refine r_iload_n (i := 2) d_Model_plans_270 rfl rfl ?_
                refine r_W5 v_Model_toDo w_1107 lm_0 (c_Model_toDo hP (by omega) _ _ _ _ _) (Nat.le_of_ble_eq_true rfl) (Nat.le_of_ble_eq_true rfl) d_Model_plans_271 (fun v N1 hv => ?_)
                obtain ⟨rfl, hP1, e1⟩ := hv
                refine r_aload_n (i := 0) d_Model_plans_274 rfl rfl ?_
                refine r_iconst 3 d_Model_plans_275 ic_3 ?_
                refine r_iload d_Model_plans_276 rfl ?_
                refine r_iload_n (i := 2) d_Model_plans_278 rfl rfl ?_
                refine r_iconst 1 d_Model_plans_279 ic_1 ?_
                refine r_iaddN (a := b) (b := 1) d_Model_plans_280 rfl rfl ?_
                refine r_iconst 0 d_Model_plans_281 ic_0 ?_
                refine r_iconst 0 d_Model_plans_282 ic_0 ?_
                refine r_W5 v_Model_toDo w_1107 lm_0 (c_Model_toDo hP1 (by simp only [List.length_cons, List.length_append] at *; omega) _ _ _ _ _) (Nat.le_of_ble_eq_true rfl) (Nat.le_of_ble_eq_true rfl) d_Model_plans_283 (fun v N2 hv => ?_)
                obtain ⟨rfl, hP2, e2⟩ := hv
                refine r_aload_n (i := 0) d_Model_plans_286 rfl rfl ?_
                refine r_iconst 0 d_Model_plans_287 ic_0 ?_
                refine r_iload d_Model_plans_288 rfl ?_
                refine r_iload_n (i := 2) d_Model_plans_290 rfl rfl ?_
                refine r_iload_n (i := 3) d_Model_plans_291 rfl rfl ?_
                refine r_iconst 0 d_Model_plans_292 ic_0 ?_
                refine r_W5 v_Model_toDo w_1107 lm_0 (c_Model_toDo hP2 (by simp only [List.length_cons, List.length_append] at *; omega) _ _ _ _ _) (Nat.le_of_ble_eq_true rfl) (Nat.le_of_ble_eq_true rfl) d_Model_plans_293 (fun v N3 hv => ?_)
                obtain ⟨rfl, hP3, e3⟩ := hv
                refine r_aload_n (i := 0) d_Model_plans_296 rfl rfl ?_
                refine r_iload d_Model_plans_297 rfl ?_
                refine r_iload_n (i := 2) d_Model_plans_299 rfl rfl ?_
                refine r_iload_n (i := 3) d_Model_plans_300 rfl rfl ?_
                refine r_W3 v_Model_toKeep w_1123 lm_0 (c_Model_toKeep hP3 (by simp only [List.length_cons]; omega) hlf (k := l) (b := b) (i := i) (by omega) hn) (Nat.le_of_ble_eq_true rfl) (Nat.le_of_ble_eq_true rfl) d_Model_plans_301 (fun v N4 hv => ?_)
                obtain ⟨rfl, hP4, e4⟩ := hv
                refine r_goto 343 d_Model_plans_304 (by decide) ?_
                refine r_vret rfl d_Model_plans_343 ?_
                exact ⟨rfl, hP4, (e4.trans (e3.trans (e2.trans (e1))))⟩
            · exact absurd h_190 (by decide)
        · exact absurd h_140 (by decide)
      · exact absurd h_96 (by decide)
    · exact absurd h_68 (by decide)
  · skip
    exact absurd (of_decide_eq_true ((bI_t _).mp h_41)) hl

theorem c6_Model_plans (hS : MS n le nu lf rt nm mc (M 3)) (hlf : ∀ j, j < n → M 11 j = bI (decide (lf j = -9))) (hP : PG M T ls c N) {k b i w : Nat} (hk : k < n) (hn : n ≤ 31) (hi1 : 1 ≤ i) (hi : i ≤ 6) (hT : T.length < 248) (hl : lf k ≠ -9) (hwy : N 13 (7 * k + i) = 6) {l r : Nat} (hl1 : l < k) (hr1 : r < k) (el : lf k = nI l) (er : rt k = nI r) : CJ G LM m_Model_plans 2 [.ref (G.2.2 0), .int (nI k), .int (nI b), .int (nI i)] N (fun v N2 => v = none ∧ PG M (kT lf l b i ++ (kT lf r b i ++ (3, nI l, nI b, 0, 0) :: (2, nI k, nI b, nI r, 0) :: T)) ls c N2 ∧ N2 17 = N 17) := by
  have hS2 : MS n le nu lf rt nm mc (N 3) := by rw [hP.1 3 (by decide) (by decide) (by decide) (by decide)]; exact hS
  have hlf2 : ∀ j, j < n → N 11 j = bI (decide (lf j = -9)) := by rw [hP.1 11 (by decide) (by decide) (by decide) (by decide)]; exact hlf
  refine CJ_of2 (n0 := 3) (by decide) rfl rfl ?_
  simp only [List.map_cons, List.map_nil, List.cons_append, List.nil_append, List.reduceReplicate]
  refine r_aload_n (i := 0) d_Model_plans_0 rfl rfl ?_
  refine r_getr nf_Model_16 lm_0 rfl d_Model_plans_1 ?_
  refine r_bipush 63 d_Model_plans_4 bp_63 ?_
  refine r_iload_n (i := 1) d_Model_plans_6 rfl rfl ?_
  refine r_iaddN (a := 63) (b := k) d_Model_plans_7 rfl rfl ?_
  refine r_ia (q := (63 + k)) lm_3 rfl (by omega) (by decide) ((hS2.glf (j := k) hk).trans el) d_Model_plans_8 ?_
  refine r_istore d_Model_plans_9 (Nat.le_of_ble_eq_true rfl) rfl ?_
  dsimp only [List.set]
  refine r_aload_n (i := 0) d_Model_plans_11 rfl rfl ?_
  refine r_getr nf_Model_16 lm_0 rfl d_Model_plans_12 ?_
  refine r_bipush 94 d_Model_plans_15 bp_94 ?_
  refine r_iload_n (i := 1) d_Model_plans_17 rfl rfl ?_
  refine r_iaddN (a := 94) (b := k) d_Model_plans_18 rfl rfl ?_
  refine r_ia (q := (94 + k)) lm_3 rfl (by omega) (by decide) ((hS2.grt (j := k) hk).trans er) d_Model_plans_19 ?_
  refine r_istore d_Model_plans_20 (Nat.le_of_ble_eq_true rfl) rfl ?_
  dsimp only [List.set]
  refine r_aload_n (i := 0) d_Model_plans_22 rfl rfl ?_
  refine r_getr nf_Model_47 lm_0 rfl d_Model_plans_23 ?_
  refine r_bipush 7 d_Model_plans_26 bp_7 ?_
  refine r_iload_n (i := 1) d_Model_plans_28 rfl rfl ?_
  refine r_imulN (a := 7) (b := k) d_Model_plans_29 rfl rfl ?_
  refine r_iload_n (i := 3) d_Model_plans_30 rfl rfl ?_
  refine r_iaddN (a := (7 * k)) (b := i) d_Model_plans_31 rfl rfl ?_
  refine r_ia (q := ((7 * k) + i)) lm_13 rfl (by omega) (by decide) (hwy) d_Model_plans_32 ?_
  refine r_istore d_Model_plans_33 (Nat.le_of_ble_eq_true rfl) rfl ?_
  dsimp only [List.set]
  refine r_aload_n (i := 0) d_Model_plans_35 rfl rfl ?_
  refine r_getr nf_Model_41 lm_0 rfl d_Model_plans_36 ?_
  refine r_iload_n (i := 1) d_Model_plans_39 rfl rfl ?_
  refine r_za (q := k) lm_11 rfl (by omega) (by decide) (hlf2 k hk) d_Model_plans_40 ?_
  refine r_if_eq 66 d_Model_plans_41 (by decide) (fun h_41 => ?_) (fun h_41 => ?_)
  · skip
    refine r_iload d_Model_plans_66 rfl ?_
    refine r_if_ne 93 d_Model_plans_68 (by decide) (fun h_68 => ?_) (fun h_68 => ?_)
    · skip
      refine r_iload d_Model_plans_93 rfl ?_
      refine r_iconst 1 d_Model_plans_95 ic_1 ?_
      refine r_icmp_ne 137 d_Model_plans_96 (by decide) (fun h_96 => ?_) (fun h_96 => ?_)
      · skip
        refine r_iload d_Model_plans_137 rfl ?_
        refine r_iconst 2 d_Model_plans_139 ic_2 ?_
        refine r_icmp_ne 181 d_Model_plans_140 (by decide) (fun h_140 => ?_) (fun h_140 => ?_)
        · skip
          refine r_iload d_Model_plans_181 rfl ?_
          refine r_iconst 3 d_Model_plans_183 ic_3 ?_
          refine r_icmp_eq 193 d_Model_plans_184 (by decide) (fun h_184 => ?_) (fun h_184 => ?_)
          · exact absurd h_184 (by decide)
          · skip
            refine r_iload d_Model_plans_187 rfl ?_
            refine r_iconst 4 d_Model_plans_189 ic_4 ?_
            refine r_icmp_ne 257 d_Model_plans_190 (by decide) (fun h_190 => ?_) (fun h_190 => ?_)
            · skip
              refine r_iload d_Model_plans_257 rfl ?_
              refine r_iconst 5 d_Model_plans_259 ic_5 ?_
              refine r_icmp_ne 307 d_Model_plans_260 (by decide) (fun h_260 => ?_) (fun h_260 => ?_)
              · skip
                refine r_aload_n (i := 0) d_Model_plans_307 rfl rfl ?_
                refine r_iconst 2 d_Model_plans_308 ic_2 ?_
                refine r_iload_n (i := 1) d_Model_plans_309 rfl rfl ?_
                refine r_iload_n (i := 2) d_Model_plans_310 rfl rfl ?_
                refine r_iload d_Model_plans_311 rfl ?_
                refine r_iconst 0 d_Model_plans_313 ic_0 ?_
                refine r_W5 v_Model_toDo w_1107 lm_0 (c_Model_toDo hP (by omega) _ _ _ _ _) (Nat.le_of_ble_eq_true rfl) (Nat.le_of_ble_eq_true rfl) d_Model_plans_314 (fun v N1 hv => ?_)
                obtain ⟨rfl, hP1, e1⟩ := hv
                refine r_aload_n (i := 0) d_Model_plans_317 rfl rfl ?_
                refine r_iconst 3 d_Model_plans_318 ic_3 ?_
                refine r_iload d_Model_plans_319 rfl ?_
                refine r_iload_n (i := 2) d_Model_plans_321 rfl rfl ?_
                refine r_iconst 0 d_Model_plans_322 ic_0 ?_
                refine r_iconst 0 d_Model_plans_323 ic_0 ?_
                refine r_W5 v_Model_toDo w_1107 lm_0 (c_Model_toDo hP1 (by simp only [List.length_cons, List.length_append] at *; omega) _ _ _ _ _) (Nat.le_of_ble_eq_true rfl) (Nat.le_of_ble_eq_true rfl) d_Model_plans_324 (fun v N2 hv => ?_)
                obtain ⟨rfl, hP2, e2⟩ := hv
                refine r_aload_n (i := 0) d_Model_plans_327 rfl rfl ?_
                refine r_iload d_Model_plans_328 rfl ?_
                refine r_iload_n (i := 2) d_Model_plans_330 rfl rfl ?_
                refine r_iload_n (i := 3) d_Model_plans_331 rfl rfl ?_
                refine r_W3 v_Model_toKeep w_1123 lm_0 (c_Model_toKeep hP2 (by simp only [List.length_cons]; omega) hlf (k := r) (b := b) (i := i) (by omega) hn) (Nat.le_of_ble_eq_true rfl) (Nat.le_of_ble_eq_true rfl) d_Model_plans_332 (fun v N3 hv => ?_)
                obtain ⟨rfl, hP3, e3⟩ := hv
                refine r_aload_n (i := 0) d_Model_plans_335 rfl rfl ?_
                refine r_iload d_Model_plans_336 rfl ?_
                refine r_iload_n (i := 2) d_Model_plans_338 rfl rfl ?_
                refine r_iload_n (i := 3) d_Model_plans_339 rfl rfl ?_
                refine r_W3 v_Model_toKeep w_1123 lm_0 (c_Model_toKeep hP3 (by have := kT_len lf r b i; simp only [List.length_append, List.length_cons]; omega) hlf (k := l) (b := b) (i := i) (by omega) hn) (Nat.le_of_ble_eq_true rfl) (Nat.le_of_ble_eq_true rfl) d_Model_plans_340 (fun v N4 hv => ?_)
                obtain ⟨rfl, hP4, e4⟩ := hv
                refine r_vret rfl d_Model_plans_343 ?_
                exact ⟨rfl, hP4, (e4.trans (e3.trans (e2.trans (e1))))⟩
              · exact absurd h_260 (by decide)
            · exact absurd h_190 (by decide)
        · exact absurd h_140 (by decide)
      · exact absurd h_96 (by decide)
    · exact absurd h_68 (by decide)
  · skip
    exact absurd (of_decide_eq_true ((bI_t _).mp h_41)) hl

end MM8
