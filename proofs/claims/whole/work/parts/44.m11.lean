-- the model: what lasts
abbrev SN : Type := Nat → Int32
/-- states that can come back, the latest first -/
def ul (g : Nat → Int32) : List SN → Prop
  | [] => True
  | f :: l => (∀ j, j < 138 → g (138 * l.length + j) = f j) ∧ ul g l
theorem ul_cong {g h : Nat → Int32} : ∀ (l : List SN), (∀ j, j < 138 * l.length → h j = g j) → ul g l → ul h l
  | [], _, _ => trivial
  | f :: l, hh, hu => ⟨fun j hj => by rw [hh _ (by simp only [List.length_cons]; omega)]; exact hu.1 j hj, ul_cong l (fun j hj => hh j (by simp only [List.length_cons]; omega)) hu.2⟩
theorem ul_shift {g h : Nat → Int32} : ∀ (l : List SN), (∀ j, j + 138 < 138 * l.length → h j = g (j + 138)) → ul g l → ul h (l.take (l.length - 1))
  | [], _, _ => trivial
  | [f], _, _ => trivial
  | f :: f2 :: l, hh, hu => by
    have e : (f :: f2 :: l).take ((f :: f2 :: l).length - 1) = f :: (f2 :: l).take ((f2 :: l).length - 1) := by simp
    rw [e]
    refine ⟨fun j hj => ?_, ul_shift (f2 :: l) (fun j hj => hh j (by simp only [List.length_cons] at *; omega)) hu.2⟩
    have := hu.1 j hj
    rw [← this]
    have e2 : ((f2 :: l).take ((f2 :: l).length - 1)).length = l.length := by simp
    rw [e2, hh _ (by simp only [List.length_cons]; omega)]
    congr 1
    simp only [List.length_cons]
    omega
def KP (K : Nat → Option SN) (M : nw_M) : Prop := ∀ i, i < 2 → match K i with
  | none => M 7 i = 0
  | some f => M 7 i = 1 ∧ ∀ j, j < 138 → M 6 (138 * i + j) = f j
def MP (len : Nat) (tx s : SN) (l : List SN) (K : Nat → Option SN) (ask trp : Int32) (M : nw_M) : Prop :=
  M 0 2 = nI len ∧ (∀ j, j < len → M 1 j = tx j) ∧ (∀ j, j < 138 → M 3 j = s j) ∧ M 0 9 = nI l.length ∧ ul (M 5) l ∧ KP K M ∧ M 0 12 = ask ∧ M 0 13 = trp
section MMc
variable {G : nw_G} {n : Nat} {le nu lf rt nm : Nat → Int32} {z nd ld ak mc : Nat → Nat} {tp : Nat → Bool} {C : Nat → Nat → Nat} {Q : nP} {M N : nw_M}
variable {len : Nat} {tx s : SN} {l : List SN} {K : Nat → Option SN} {ask trp : Int32}
theorem MP.mf {a t : Int32} (h : MP len tx s l K ask trp M) (hf : MF M N a t) : MP len tx s l K a t N := by
  obtain ⟨h1, h2, h3, h4, h5, h6, h7, h8⟩ := h
  obtain ⟨f1, f2, f3, f4, f5, f6, f7, f8, f9⟩ := hf
  refine ⟨f6.trans h1, by rw [f1]; exact h2, by rw [f2]; exact h3, f7.trans h4, by rw [f3]; exact h5, ?_, f8, f9⟩
  unfold KP
  rw [f4, f5]
  exact h6
theorem MP.ms (h : MP len tx s l K ask trp M) (hs : MS n le nu lf rt nm mc s) (hn : n ≤ 31) : MS n le nu lf rt nm mc (M 3) := hs.eqv hn h.2.2.1
theorem MP.th (h : MP len tx s l K ask trp M) : MP len tx s l K ask trp (m0 M) := by
  have := h.mf (MF.th M)
  rw [h.2.2.2.2.2.2.1, h.2.2.2.2.2.2.2] at this
  exact this
theorem c_Model_asked (hP : MP len tx s l K ask trp M) : CJ G LM m_Model_asked 0 [.ref (G.2.2 0)] M (fun v N => v = some (.int ask) ∧ MP len tx s l K ask trp N) := by
  refine CJ_of (by decide) rfl (Nat.le_of_ble_eq_true rfl) ?_
  refine r_aload_n (i := 0) d_Model_asked_0 rfl rfl ?_
  refine r_iconst 0 d_Model_asked_1 ic_0 ?_
  refine r_puti nf_Model_75 nfin_Model_0 lm_0 rfl d_Model_asked_2 ?_
  refine r_aload_n (i := 0) d_Model_asked_5 rfl rfl ?_
  refine r_gx nf_Model_194 lm_0 rfl (hP.2.2.2.2.2.2.1) d_Model_asked_6 ?_
  refine r_iret rfl d_Model_asked_9 ?_
  exact ⟨rfl, hP.th⟩

theorem c_Model_trapped (hP : MP len tx s l K ask trp M) : CJ G LM m_Model_trapped 0 [.ref (G.2.2 0)] M (fun v N => v = some (.int trp) ∧ MP len tx s l K ask trp N) := by
  refine CJ_of (by decide) rfl (Nat.le_of_ble_eq_true rfl) ?_
  refine r_aload_n (i := 0) d_Model_trapped_0 rfl rfl ?_
  refine r_iconst 0 d_Model_trapped_1 ic_0 ?_
  refine r_puti nf_Model_75 nfin_Model_0 lm_0 rfl d_Model_trapped_2 ?_
  refine r_aload_n (i := 0) d_Model_trapped_5 rfl rfl ?_
  refine r_gx nf_Model_71 lm_0 rfl (hP.2.2.2.2.2.2.2) d_Model_trapped_6 ?_
  refine r_iret rfl d_Model_trapped_9 ?_
  exact ⟨rfl, hP.th⟩

theorem c_Model_clear (hP : MP len tx s l K ask trp M) : CJ G LM m_Model_clear 0 [.ref (G.2.2 0)] M (fun v N => v = some (.int (nI len)) ∧ MP 0 tx s l K ask trp N) := by
  refine CJ_of2 (n0 := 1) (by decide) rfl rfl ?_
  simp only [List.map_cons, List.map_nil, List.cons_append, List.nil_append, List.reduceReplicate]
  refine r_aload_n (i := 0) d_Model_clear_0 rfl rfl ?_
  refine r_iconst 0 d_Model_clear_1 ic_0 ?_
  refine r_puti nf_Model_75 nfin_Model_0 lm_0 rfl d_Model_clear_2 ?_
  refine r_aload_n (i := 0) d_Model_clear_5 rfl rfl ?_
  refine r_gx nf_Model_82 lm_0 rfl (hP.1) d_Model_clear_6 ?_
  refine r_istore_n (i := 1) d_Model_clear_9 rfl (Nat.le_of_ble_eq_true rfl) rfl ?_
  dsimp only [List.set]
  refine r_aload_n (i := 0) d_Model_clear_10 rfl rfl ?_
  refine r_iconst 0 d_Model_clear_11 ic_0 ?_
  refine r_puti nf_Model_82 nfin_Model_2 lm_0 rfl d_Model_clear_12 ?_
  refine r_iload_n (i := 1) d_Model_clear_15 rfl rfl ?_
  refine r_iret rfl d_Model_clear_16 ?_
  exact ⟨rfl, rfl, fun j hj => absurd hj (Nat.not_lt_zero j), hP.2.2.1, hP.2.2.2.1, hP.2.2.2.2.1, hP.2.2.2.2.2.1, hP.2.2.2.2.2.2.1, hP.2.2.2.2.2.2.2⟩

/-- what type answers, keeps -/
def tyN (len : Nat) (c : Int32) : Nat := if isN 256 c && decide (len < 60) then len + 1 else len
def tyA (len : Nat) (c : Int32) : Int32 := if isN 256 c then (if len < 60 then nI (len + 1) else -3) else -1
def tyX (len : Nat) (tx : SN) (c : Int32) : SN := if isN 256 c && decide (len < 60) then upd tx len c else tx
theorem in255 (w : Int32) : decide (¬ w < 0 ∧ ¬ (255 : Int32) < w) = isN 256 w := in_isN (m := 255) w (by decide)
theorem c_Model_type (hP : MP len tx s l K ask trp M) (hl : len ≤ 60) (c : Int32) : CJ G LM m_Model_type 1 [.ref (G.2.2 0), .int c] M (fun v N => v = some (.int (tyA len c)) ∧ MP (tyN len c) (tyX len tx c) s l K ask trp N) := by
  refine CJ_of2 (n0 := 0) (by decide) rfl rfl ?_
  simp only [List.map_cons, List.map_nil, List.cons_append, List.nil_append, List.reduceReplicate]
  refine r_aload_n (i := 0) d_Model_type_0 rfl rfl ?_
  refine r_iconst 0 d_Model_type_1 ic_0 ?_
  refine r_puti nf_Model_75 nfin_Model_0 lm_0 rfl d_Model_type_2 ?_
  refine r_iload_n (i := 1) d_Model_type_5 rfl rfl ?_
  refine r_iconst 0 d_Model_type_6 ic_0 ?_
  refine r_sipush 255 d_Model_type_7 sp_255 ?_
  refine r_S3 f_Model_in w_942 (c_Model_in _ _ _ _ ) (Nat.le_of_ble_eq_true rfl) (Nat.le_of_ble_eq_true rfl) d_Model_type_10 ?_
  refine r_if_ne 18 d_Model_type_13 (by decide) (fun h_13 => ?_) (fun h_13 => ?_)
  · skip
    refine r_aload_n (i := 0) d_Model_type_18 rfl rfl ?_
    refine r_gx nf_Model_82 lm_0 rfl (hP.1) d_Model_type_19 ?_
    refine r_bipush 60 d_Model_type_22 bp_60 ?_
    refine r_icmp_ne 30 d_Model_type_24 (by decide) (fun h_24 => ?_) (fun h_24 => ?_)
    · skip
      have q : len ≠ 60 := fun q => h_24 (by rw [q]; rfl)
      have q1 := (bI_t _).mp h_13
      rw [in255] at q1
      refine r_aload_n (i := 0) d_Model_type_30 rfl rfl ?_
      refine r_getr nf_Model_7 lm_0 rfl d_Model_type_31 ?_
      refine r_aload_n (i := 0) d_Model_type_34 rfl rfl ?_
      refine r_gx nf_Model_82 lm_0 rfl (hP.1) d_Model_type_35 ?_
      refine r_iload_n (i := 1) d_Model_type_38 rfl rfl ?_
      refine r_ias (q := len) lm_1 rfl (by omega) (by decide) d_Model_type_39 ?_
      refine r_aload_n (i := 0) d_Model_type_40 rfl rfl ?_
      refine r_dup d_Model_type_41 rfl ?_
      refine r_gx nf_Model_82 lm_0 rfl (hP.1) d_Model_type_42 ?_
      refine r_iconst 1 d_Model_type_45 ic_1 ?_
      refine r_iaddN (a := len) (b := 1) d_Model_type_46 rfl rfl ?_
      refine r_puti nf_Model_82 nfin_Model_2 lm_0 rfl d_Model_type_47 ?_
      refine r_aload_n (i := 0) d_Model_type_50 rfl rfl ?_
      refine r_gx nf_Model_82 lm_0 rfl (rfl) d_Model_type_51 ?_
      refine r_iret rfl d_Model_type_54 ?_
      rw [tyA, tyN, tyX, q1, decide_eq_true (show len < 60 by omega)]
      refine ⟨?_, rfl, fun j hj => ?_, hP.2.2.1, hP.2.2.2.1, hP.2.2.2.2.1, hP.2.2.2.2.2.1, hP.2.2.2.2.2.2.1, hP.2.2.2.2.2.2.2⟩
      · rw [if_pos rfl, if_pos (by omega)]; rfl
      · rw [ms_ne _ _ (by decide), ms_same]
        simp only [Bool.and_self, if_true] at hj ⊢
        by_cases e : j = len
        · subst e; rw [upd_at, upd_at]
        · rw [upd_ne _ _ e, upd_ne _ _ e]
          exact hP.2.1 j (by omega)
    · skip
      refine r_bipush (-3) d_Model_type_27 bp_m3 ?_
      refine r_iret rfl d_Model_type_29 ?_
      have q1 := (bI_t _).mp h_13
      rw [in255] at q1
      have q : len = 60 := (nI_eq (by omega) (by omega)).mp (show nI len = nI 60 from h_24)
      rw [tyA, tyN, tyX, q1, decide_eq_false (show ¬ len < 60 by omega)]
      refine ⟨?_, hP.th⟩
      rw [if_pos rfl, if_neg (by omega)]
  · skip
    refine r_iconst (-1) d_Model_type_16 ic_m1 ?_
    refine r_iret rfl d_Model_type_17 ?_
    have q := (bI_f _).mp h_13
    rw [in255] at q
    rw [tyA, tyN, tyX, q]
    exact ⟨rfl, hP.th⟩

/-- cell c has from base on the values of f, m of them; all else is as it was -/
def CPI (c base m : Nat) (f : Nat → Int32) (M N : nw_M) : Prop := (∀ e, e ≠ c → N e = M e) ∧ ∀ q, N c q = if base ≤ q ∧ q < base + m then f (q - base) else M c q
theorem CPI.nil (c base : Nat) (f : Nat → Int32) (M : nw_M) : CPI c base 0 f M M := ⟨fun _ _ => rfl, fun q => by rw [if_neg (by omega)]⟩
theorem CPI.put {c base m : Nat} {f : Nat → Int32} {x : Int32} (h : CPI c base m f M N) (hx : x = f m) : CPI c base (m + 1) f M (ms N c (upd (N c) (base + m) x)) := by
  refine ⟨fun e he => by rw [ms_ne _ _ he]; exact h.1 e he, fun q => ?_⟩
  rw [ms_same]
  by_cases e : q = base + m
  · subst e
    rw [upd_at, if_pos (by omega), hx]
    congr 1
    omega
  · rw [upd_ne _ _ e, h.2 q]
    by_cases r : base ≤ q ∧ q < base + m
    · rw [if_pos r, if_pos (by omega)]
    · rw [if_neg r, if_neg (by omega)]
theorem CPI.at {c base m j : Nat} {f : Nat → Int32} (h : CPI c base m f M N) (hj : j < m) : N c (base + j) = f j := by
  rw [h.2, if_pos (by omega)]
  congr 1
  omega
theorem l1_Model_notes {P : Option Value → nw_M → Prop} (hP : ∀ N2, CPI 5 0 1242 (fun q => M 5 (q + 138)) M N2 → RJ G LM m_Model_notes 0 P 40 [some (.ref (G.2.2 0)), some (.int (nI 1242))] [] N2) : ∀ (d j : Nat) (N : nw_M), j + d = 1242 → CPI 5 0 j (fun q => M 5 (q + 138)) M N → RJ G LM m_Model_notes 0 P 11 [some (.ref (G.2.2 0)), some (.int (nI j))] [] N := by
  intro d
  induction d with
  | zero =>
    intro j N hd hI
    simp only [Nat.add_zero] at hd
    subst hd
    refine r_iload_n (i := 1) d_Model_notes_11 rfl rfl ?_
    refine r_sipush 1242 d_Model_notes_12 sp_1242 ?_
    refine r_icmp_ge 40 d_Model_notes_15 (by decide) (fun _ => ?_) (fun h9 => absurd (show (1242 : Int32) ≤ nI 1242 by decide) h9)
    exact hP N hI
  | succ d ih =>
    intro j N hd hI
    refine r_iload_n (i := 1) d_Model_notes_11 rfl rfl ?_
    refine r_sipush 1242 d_Model_notes_12 sp_1242 ?_
    refine r_icmp_ge 40 d_Model_notes_15 (by decide) (fun h_15 => ?_) (fun h_15 => ?_)
    · skip
      exact absurd h_15 (nI_ge (b := 1242) (by omega) (by omega))
    · skip
      refine r_aload_n (i := 0) d_Model_notes_18 rfl rfl ?_
      refine r_getr nf_Model_22 lm_0 rfl d_Model_notes_19 ?_
      refine r_iload_n (i := 1) d_Model_notes_22 rfl rfl ?_
      refine r_aload_n (i := 0) d_Model_notes_23 rfl rfl ?_
      refine r_getr nf_Model_22 lm_0 rfl d_Model_notes_24 ?_
      refine r_iload_n (i := 1) d_Model_notes_27 rfl rfl ?_
      refine r_sipush 138 d_Model_notes_28 sp_138 ?_
      refine r_iaddN (a := j) (b := 138) d_Model_notes_31 rfl rfl ?_
      refine r_ia (q := (j + 138)) lm_5 rfl (by omega) (by decide) (rfl) d_Model_notes_32 ?_
      refine r_ias (q := j) lm_5 rfl (by omega) (by decide) d_Model_notes_33 ?_
      refine r_iinc d_Model_notes_34 rfl (nI_inc _) (Nat.le_of_ble_eq_true rfl) rfl ?_
      dsimp only [List.set]
      refine r_goto 11 d_Model_notes_37 (by decide) ?_
      have e : N 5 (j + 138) = M 5 (j + 138) := by rw [hI.2, if_neg (by omega)]
      have := hI.put (x := N 5 (j + 138)) e
      rw [Nat.zero_add] at this
      exact ih (j + 1) _ (by omega) this

theorem l2_Model_notes {q : Nat} (hq : q < 10) (h9 : M 0 9 = nI q) {P : Option Value → nw_M → Prop} (hP : ∀ N2, CPI 5 (138 * q) 138 (M 3) M N2 → RJ G LM m_Model_notes 0 P 82 [some (.ref (G.2.2 0)), some (.int (nI 138))] [] N2) : ∀ (d j : Nat) (N : nw_M), j + d = 138 → CPI 5 (138 * q) j (M 3) M N → RJ G LM m_Model_notes 0 P 48 [some (.ref (G.2.2 0)), some (.int (nI j))] [] N := by
  intro d
  induction d with
  | zero =>
    intro j N hd hI
    simp only [Nat.add_zero] at hd
    subst hd
    refine r_iload_n (i := 1) d_Model_notes_48 rfl rfl ?_
    refine r_sipush 138 d_Model_notes_49 sp_138 ?_
    refine r_icmp_ge 82 d_Model_notes_52 (by decide) (fun _ => ?_) (fun h9 => absurd (show (138 : Int32) ≤ nI 138 by decide) h9)
    exact hP N hI
  | succ d ih =>
    intro j N hd hI
    refine r_iload_n (i := 1) d_Model_notes_48 rfl rfl ?_
    refine r_sipush 138 d_Model_notes_49 sp_138 ?_
    refine r_icmp_ge 82 d_Model_notes_52 (by decide) (fun h_52 => ?_) (fun h_52 => ?_)
    · skip
      exact absurd h_52 (nI_ge (b := 138) (by omega) (by omega))
    · skip
      refine r_aload_n (i := 0) d_Model_notes_55 rfl rfl ?_
      refine r_getr nf_Model_22 lm_0 rfl d_Model_notes_56 ?_
      refine r_sipush 138 d_Model_notes_59 sp_138 ?_
      refine r_aload_n (i := 0) d_Model_notes_62 rfl rfl ?_
      refine r_gx nf_Model_142 lm_0 rfl ((congrFun (hI.1 0 (by decide)) 9).trans h9) d_Model_notes_63 ?_
      refine r_imulN (a := 138) (b := q) d_Model_notes_66 rfl rfl ?_
      refine r_iload_n (i := 1) d_Model_notes_67 rfl rfl ?_
      refine r_iaddN (a := (138 * q)) (b := j) d_Model_notes_68 rfl rfl ?_
      refine r_aload_n (i := 0) d_Model_notes_69 rfl rfl ?_
      refine r_getr nf_Model_16 lm_0 rfl d_Model_notes_70 ?_
      refine r_iload_n (i := 1) d_Model_notes_73 rfl rfl ?_
      refine r_ia (q := j) lm_3 rfl (by omega) (by decide) (congrFun (hI.1 3 (by decide)) j) d_Model_notes_74 ?_
      refine r_ias (q := ((138 * q) + j)) lm_5 rfl (by omega) (by decide) d_Model_notes_75 ?_
      refine r_iinc d_Model_notes_76 rfl (nI_inc _) (Nat.le_of_ble_eq_true rfl) rfl ?_
      dsimp only [List.set]
      refine r_goto 48 d_Model_notes_79 (by decide) ?_
      exact ih (j + 1) _ (by omega) (hI.put rfl)

theorem c_Model_notes (hP : MP len tx s l K ask trp M) (hl : l.length ≤ 10) : CJ G LM m_Model_notes 0 [.ref (G.2.2 0)] M (fun v N => v = none ∧ (∀ e, e ≠ 0 → e ≠ 5 → N e = M e) ∧ (∀ j, j ≠ 9 → N 0 j = M 0 j) ∧ N 0 9 = nI ((s :: l).take 10).length ∧ ul (N 5) ((s :: l).take 10)) := by
  refine CJ_of2 (n0 := 1) (by decide) rfl rfl ?_
  simp only [List.map_cons, List.map_nil, List.cons_append, List.nil_append, List.reduceReplicate]
  refine r_aload_n (i := 0) d_Model_notes_0 rfl rfl ?_
  refine r_gx nf_Model_142 lm_0 rfl (hP.2.2.2.1) d_Model_notes_1 ?_
  refine r_bipush 10 d_Model_notes_4 bp_10 ?_
  refine r_icmp_ne 46 d_Model_notes_6 (by decide) (fun h_6 => ?_) (fun h_6 => ?_)
  · skip
    refine r_iconst 0 d_Model_notes_46 ic_0 ?_
    refine r_istore_n (i := 1) d_Model_notes_47 rfl (Nat.le_of_ble_eq_true rfl) rfl ?_
    dsimp only [List.set]
    have q : l.length ≠ 10 := fun q => h_6 (by rw [q]; rfl)
    refine l2_Model_notes (M := M) (q := l.length) (by omega) hP.2.2.2.1 (fun N3 hC => ?_) 138 0 _ (by omega) (CPI.nil _ _ _ _)
    refine r_aload_n (i := 0) d_Model_notes_82 rfl rfl ?_
    refine r_dup d_Model_notes_83 rfl ?_
    refine r_gx nf_Model_142 lm_0 rfl ((congrFun (hC.1 0 (by decide)) 9).trans hP.2.2.2.1) d_Model_notes_84 ?_
    refine r_iconst 1 d_Model_notes_87 ic_1 ?_
    refine r_iaddN (a := l.length) (b := 1) d_Model_notes_88 rfl rfl ?_
    refine r_puti nf_Model_142 nfin_Model_9 lm_0 rfl d_Model_notes_89 ?_
    refine r_vret rfl d_Model_notes_92 ?_
    have ts : (s :: l).take 10 = s :: l := List.take_of_length_le (by simp only [List.length_cons]; omega)
    rw [ts]
    refine ⟨rfl, fun e e0 e5 => ?_, fun j hj => ?_, ?_, ?_⟩
    · rw [ms_ne _ _ e0, hC.1 e e5]
    · rw [ms_same, upd_ne _ _ hj, hC.1 0 (by decide)]
    · rw [ms_same, upd_at, List.length_cons]
    · rw [ms_ne _ _ (by decide)]
      refine ⟨fun j hj => ?_, ?_⟩
      · rw [hC.at hj]; exact hP.2.2.1 j hj
      · exact ul_cong l (fun j hj => by rw [hC.2, if_neg (by omega)]) hP.2.2.2.2.1
  · skip
    refine r_iconst 0 d_Model_notes_9 ic_0 ?_
    refine r_istore_n (i := 1) d_Model_notes_10 rfl (Nat.le_of_ble_eq_true rfl) rfl ?_
    dsimp only [List.set]
    have q : l.length = 10 := (nI_eq (by omega) (by omega)).mp (show nI l.length = nI 10 from h_6)
    refine l1_Model_notes (M := M) (fun N2 h2 => ?_) 1242 0 M (by omega) (CPI.nil _ _ _ _)
    refine r_aload_n (i := 0) d_Model_notes_40 rfl rfl ?_
    refine r_bipush 9 d_Model_notes_41 bp_9 ?_
    refine r_puti nf_Model_142 nfin_Model_9 lm_0 rfl d_Model_notes_43 ?_
    refine r_iconst 0 d_Model_notes_46 ic_0 ?_
    refine r_istore_n (i := 1) d_Model_notes_47 rfl (Nat.le_of_ble_eq_true rfl) rfl ?_
    dsimp only [List.set]
    refine l2_Model_notes (M := ms N2 0 (upd (N2 0) 9 9)) (q := 9) (by decide) (by rw [ms_same, upd_at]; rfl) (fun N3 hC => ?_) 138 0 _ (by omega) (CPI.nil _ _ _ _)
    refine r_aload_n (i := 0) d_Model_notes_82 rfl rfl ?_
    refine r_dup d_Model_notes_83 rfl ?_
    refine r_gx nf_Model_142 lm_0 rfl ((congrFun (hC.1 0 (by decide)) 9).trans (show ms N2 0 (upd (N2 0) 9 9) 0 9 = nI 9 from rfl)) d_Model_notes_84 ?_
    refine r_iconst 1 d_Model_notes_87 ic_1 ?_
    refine r_iaddN (a := 9) (b := 1) d_Model_notes_88 rfl rfl ?_
    refine r_puti nf_Model_142 nfin_Model_9 lm_0 rfl d_Model_notes_89 ?_
    refine r_vret rfl d_Model_notes_92 ?_
    have len9 : (l.take 9).length = 9 := by rw [List.length_take]; omega
    refine ⟨rfl, fun e e0 e5 => ?_, fun j hj => ?_, ?_, ?_⟩
    · rw [ms_ne _ _ e0, hC.1 e e5, ms_ne _ _ e0, h2.1 e e5]
    · rw [ms_same, upd_ne _ _ hj, hC.1 0 (by decide), ms_same, upd_ne _ _ hj, h2.1 0 (by decide)]
    · rw [ms_same, upd_at, List.take_succ_cons, List.length_cons, len9]
    · rw [ms_ne _ _ (by decide), List.take_succ_cons]
      refine ⟨fun j hj => ?_, ?_⟩
      · rw [len9, hC.at hj, ms_ne _ _ (by decide), h2.1 3 (by decide)]
        exact hP.2.2.1 j hj
      · have := ul_shift (h := N3 5) l (fun j hj => by
          rw [hC.2, if_neg (by omega), ms_ne _ _ (by decide), h2.2, if_pos (by omega)]; rfl) hP.2.2.2.2.1
        rw [show l.length - 1 = 9 by omega] at this
        exact this

theorem in7 (w : Int32) : decide (¬ w < 0 ∧ ¬ (7 : Int32) < w) = isN 8 w := in_isN (m := 7) w (by decide)
theorem in1 (w : Int32) : decide (¬ w < 0 ∧ ¬ (1 : Int32) < w) = isN 2 w := in_isN (m := 1) w (by decide)
theorem in8 (w : Int32) : decide (¬ w < 0 ∧ ¬ (8 : Int32) < w) = isN 9 w := in_isN (m := 8) w (by decide)
def pushU (s : SN) (l : List SN) : List SN := (s :: l).take 10
theorem KP.of {M N : nw_M} (h : KP K M) (h6 : N 6 = M 6) (h7 : N 7 = M 7) : KP K N := by unfold KP; rw [h6, h7]; exact h
theorem c_Model_let (hP : MP len tx s l K ask trp M) (hl : l.length ≤ 10) (k x : Int32) : CJ G LM m_Model_let 1 [.ref (G.2.2 0), .int k, .int x] M (fun v N => (isN 8 k = false ∧ v = some (.int (-1)) ∧ MP len tx s l K ask trp N) ∨ ∃ j, j < 8 ∧ k = nI j ∧ v = some (.int 1) ∧ MP len tx (upd s (125 + j) x) (pushU s l) K (s (125 + j)) trp N) := by
  refine CJ_of2 (n0 := 0) (by decide) rfl rfl ?_
  simp only [List.map_cons, List.map_nil, List.cons_append, List.nil_append, List.reduceReplicate]
  refine r_aload_n (i := 0) d_Model_let_0 rfl rfl ?_
  refine r_iconst 0 d_Model_let_1 ic_0 ?_
  refine r_puti nf_Model_75 nfin_Model_0 lm_0 rfl d_Model_let_2 ?_
  refine r_iload_n (i := 1) d_Model_let_5 rfl rfl ?_
  refine r_iconst 0 d_Model_let_6 ic_0 ?_
  refine r_bipush 7 d_Model_let_7 bp_7 ?_
  refine r_S3 f_Model_in w_942 (c_Model_in _ _ _ _ ) (Nat.le_of_ble_eq_true rfl) (Nat.le_of_ble_eq_true rfl) d_Model_let_9 ?_
  refine r_if_ne 17 d_Model_let_12 (by decide) (fun h_12 => ?_) (fun h_12 => ?_)
  · skip
    have q := (bI_t _).mp h_12
    rw [in7] at q
    obtain ⟨j, hj, rfl⟩ := isN_ex q (by omega)
    refine r_aload_n (i := 0) d_Model_let_17 rfl rfl ?_
    refine r_W0 v_Model_notes w_1147 lm_0 (c_Model_notes hP.th hl) (Nat.le_of_ble_eq_true rfl) (Nat.le_of_ble_eq_true rfl) d_Model_let_18 (fun v N hv => ?_)
    obtain ⟨rfl, h1, h2, h3, h4⟩ := hv
    refine r_aload_n (i := 0) d_Model_let_21 rfl rfl ?_
    refine r_aload_n (i := 0) d_Model_let_22 rfl rfl ?_
    refine r_getr nf_Model_16 lm_0 rfl d_Model_let_23 ?_
    refine r_bipush 125 d_Model_let_26 bp_125 ?_
    refine r_iload_n (i := 1) d_Model_let_28 rfl rfl ?_
    refine r_iaddN (a := 125) (b := j) d_Model_let_29 rfl rfl ?_
    refine r_ia (q := (125 + j)) lm_3 rfl (by omega) (by decide) ((congrFun (h1 3 (by decide) (by decide)) _).trans (hP.2.2.1 (125 + j) (by omega))) d_Model_let_30 ?_
    refine r_puti nf_Model_194 nfin_Model_12 lm_0 rfl d_Model_let_31 ?_
    refine r_aload_n (i := 0) d_Model_let_34 rfl rfl ?_
    refine r_getr nf_Model_16 lm_0 rfl d_Model_let_35 ?_
    refine r_bipush 125 d_Model_let_38 bp_125 ?_
    refine r_iload_n (i := 1) d_Model_let_40 rfl rfl ?_
    refine r_iaddN (a := 125) (b := j) d_Model_let_41 rfl rfl ?_
    refine r_iload_n (i := 2) d_Model_let_42 rfl rfl ?_
    refine r_ias (q := (125 + j)) lm_3 rfl (by omega) (by decide) d_Model_let_43 ?_
    refine r_iconst 1 d_Model_let_44 ic_1 ?_
    refine r_iret rfl d_Model_let_45 ?_
    refine Or.inr ⟨j, hj, rfl, rfl, ?_, fun i hi => ?_, fun i hi => ?_, ?_, ?_, ?_, rfl, ?_⟩
    · exact (h2 2 (by decide)).trans hP.1
    · exact (congrFun (h1 1 (by decide) (by decide)) i).trans (hP.2.1 i hi)
    · rw [ms_same]
      by_cases e : i = 125 + j
      · subst e; rw [upd_at, upd_at]
      · rw [upd_ne _ _ e, upd_ne _ _ e]
        exact (congrFun (h1 3 (by decide) (by decide)) i).trans (hP.2.2.1 i hi)
    · exact h3
    · exact h4
    · exact hP.2.2.2.2.2.1.of (h1 6 (by decide) (by decide)) (h1 7 (by decide) (by decide))
    · exact (h2 13 (by decide)).trans hP.2.2.2.2.2.2.2
  · skip
    refine r_iconst (-1) d_Model_let_15 ic_m1 ?_
    refine r_iret rfl d_Model_let_16 ?_
    have q := (bI_f _).mp h_12
    rw [in7] at q
    exact Or.inl ⟨q, rfl, hP.th⟩

theorem l_Model_undo {q : Nat} (hq : q < 10) (h9 : M 0 9 = nI q) {P : Option Value → nw_M → Prop} (hP : ∀ N2, CPI 3 0 138 (fun j => M 5 (138 * q + j)) M N2 → RJ G LM m_Model_undo 0 P 61 [some (.ref (G.2.2 0)), some (.int (nI 138))] [] N2) : ∀ (d j : Nat) (N : nw_M), j + d = 138 → CPI 3 0 j (fun j => M 5 (138 * q + j)) M N → RJ G LM m_Model_undo 0 P 27 [some (.ref (G.2.2 0)), some (.int (nI j))] [] N := by
  intro d
  induction d with
  | zero =>
    intro j N hd hI
    simp only [Nat.add_zero] at hd
    subst hd
    refine r_iload_n (i := 1) d_Model_undo_27 rfl rfl ?_
    refine r_sipush 138 d_Model_undo_28 sp_138 ?_
    refine r_icmp_ge 61 d_Model_undo_31 (by decide) (fun _ => ?_) (fun h9 => absurd (show (138 : Int32) ≤ nI 138 by decide) h9)
    exact hP N hI
  | succ d ih =>
    intro j N hd hI
    refine r_iload_n (i := 1) d_Model_undo_27 rfl rfl ?_
    refine r_sipush 138 d_Model_undo_28 sp_138 ?_
    refine r_icmp_ge 61 d_Model_undo_31 (by decide) (fun h_31 => ?_) (fun h_31 => ?_)
    · skip
      exact absurd h_31 (nI_ge (b := 138) (by omega) (by omega))
    · skip
      refine r_aload_n (i := 0) d_Model_undo_34 rfl rfl ?_
      refine r_getr nf_Model_16 lm_0 rfl d_Model_undo_35 ?_
      refine r_iload_n (i := 1) d_Model_undo_38 rfl rfl ?_
      refine r_aload_n (i := 0) d_Model_undo_39 rfl rfl ?_
      refine r_getr nf_Model_22 lm_0 rfl d_Model_undo_40 ?_
      refine r_sipush 138 d_Model_undo_43 sp_138 ?_
      refine r_aload_n (i := 0) d_Model_undo_46 rfl rfl ?_
      refine r_gx nf_Model_142 lm_0 rfl ((congrFun (hI.1 0 (by decide)) 9).trans h9) d_Model_undo_47 ?_
      refine r_imulN (a := 138) (b := q) d_Model_undo_50 rfl rfl ?_
      refine r_iload_n (i := 1) d_Model_undo_51 rfl rfl ?_
      refine r_iaddN (a := (138 * q)) (b := j) d_Model_undo_52 rfl rfl ?_
      refine r_ia (q := ((138 * q) + j)) lm_5 rfl (by omega) (by decide) (congrFun (hI.1 5 (by decide)) _) d_Model_undo_53 ?_
      refine r_ias (q := j) lm_3 rfl (by omega) (by decide) d_Model_undo_54 ?_
      refine r_iinc d_Model_undo_55 rfl (nI_inc _) (Nat.le_of_ble_eq_true rfl) rfl ?_
      dsimp only [List.set]
      refine r_goto 27 d_Model_undo_58 (by decide) ?_
      have := hI.put (x := M 5 (138 * q + j)) rfl
      rw [Nat.zero_add] at this
      exact ih (j + 1) _ (by omega) this

theorem c0_Model_undo (hP : MP len tx s [] K ask trp M) : CJ G LM m_Model_undo 0 [.ref (G.2.2 0)] M (fun v N => v = some (.int (-2)) ∧ MP len tx s [] K ask trp N) := by
  refine CJ_of2 (n0 := 1) (by decide) rfl rfl ?_
  simp only [List.map_cons, List.map_nil, List.cons_append, List.nil_append, List.reduceReplicate]
  refine r_aload_n (i := 0) d_Model_undo_0 rfl rfl ?_
  refine r_iconst 0 d_Model_undo_1 ic_0 ?_
  refine r_puti nf_Model_75 nfin_Model_0 lm_0 rfl d_Model_undo_2 ?_
  refine r_aload_n (i := 0) d_Model_undo_5 rfl rfl ?_
  refine r_gx nf_Model_142 lm_0 rfl (hP.2.2.2.1) d_Model_undo_6 ?_
  refine r_if_ne 15 d_Model_undo_9 (by decide) (fun h_9 => ?_) (fun h_9 => ?_)
  · exact absurd h_9 (by decide)
  · skip
    refine r_bipush (-2) d_Model_undo_12 bp_m2 ?_
    refine r_iret rfl d_Model_undo_14 ?_
    exact ⟨rfl, hP.th⟩

theorem c_Model_undo {f : SN} (hP : MP len tx s (f :: l) K ask trp M) (hl : l.length < 10) : CJ G LM m_Model_undo 0 [.ref (G.2.2 0)] M (fun v N => v = some (.int (nI l.length)) ∧ MP len tx f l K ask trp N) := by
  refine CJ_of2 (n0 := 1) (by decide) rfl rfl ?_
  simp only [List.map_cons, List.map_nil, List.cons_append, List.nil_append, List.reduceReplicate]
  refine r_aload_n (i := 0) d_Model_undo_0 rfl rfl ?_
  refine r_iconst 0 d_Model_undo_1 ic_0 ?_
  refine r_puti nf_Model_75 nfin_Model_0 lm_0 rfl d_Model_undo_2 ?_
  refine r_aload_n (i := 0) d_Model_undo_5 rfl rfl ?_
  refine r_gx nf_Model_142 lm_0 rfl (show M 0 9 = nI (l.length + 1) from hP.2.2.2.1) d_Model_undo_6 ?_
  refine r_if_ne 15 d_Model_undo_9 (by decide) (fun h_9 => ?_) (fun h_9 => ?_)
  · skip
    refine r_aload_n (i := 0) d_Model_undo_15 rfl rfl ?_
    refine r_dup d_Model_undo_16 rfl ?_
    refine r_gx nf_Model_142 lm_0 rfl (show M 0 9 = nI (l.length + 1) from hP.2.2.2.1) d_Model_undo_17 ?_
    refine r_iconst 1 d_Model_undo_20 ic_1 ?_
    refine r_isubN (a := (l.length + 1)) (b := 1) d_Model_undo_21 rfl rfl (by omega) ?_
    refine r_puti nf_Model_142 nfin_Model_9 lm_0 rfl d_Model_undo_22 ?_
    refine r_iconst 0 d_Model_undo_25 ic_0 ?_
    refine r_istore_n (i := 1) d_Model_undo_26 rfl (Nat.le_of_ble_eq_true rfl) rfl ?_
    dsimp only [List.set]
    refine l_Model_undo (M := ms (m0 M) 0 (upd (m0 M 0) 9 (nI (l.length + 1 - 1)))) (q := l.length) hl (by rw [ms_same, upd_at]; rfl) (fun N2 h2 => ?_) 138 0 _ (by omega) (CPI.nil _ _ _ _)
    refine r_aload_n (i := 0) d_Model_undo_61 rfl rfl ?_
    refine r_gx nf_Model_142 lm_0 rfl ((congrFun (h2.1 0 (by decide)) 9).trans (show _ = nI l.length from rfl)) d_Model_undo_62 ?_
    refine r_iret rfl d_Model_undo_65 ?_
    refine ⟨rfl, ?_, fun j hj => ?_, fun j hj => ?_, ?_, ?_, ?_, ?_, ?_⟩
    · exact (congrFun (h2.1 0 (by decide)) 2).trans hP.1
    · exact (congrFun (h2.1 1 (by decide)) j).trans (hP.2.1 j hj)
    · have := h2.at hj
      rw [Nat.zero_add] at this
      rw [this]
      exact hP.2.2.2.2.1.1 j hj
    · exact congrFun (h2.1 0 (by decide)) 9
    · rw [h2.1 5 (by decide)]; exact hP.2.2.2.2.1.2
    · exact hP.2.2.2.2.2.1.of (h2.1 6 (by decide)) (h2.1 7 (by decide))
    · exact (congrFun (h2.1 0 (by decide)) 12).trans hP.2.2.2.2.2.2.1
    · exact (congrFun (h2.1 0 (by decide)) 13).trans hP.2.2.2.2.2.2.2
  · skip
    refine r_bipush (-2) d_Model_undo_12 bp_m2 ?_
    refine r_iret rfl d_Model_undo_14 ?_
    exact absurd h_9 (fun q => by have := (nI_eq (a := l.length + 1) (b := 0) (by omega) (by omega)).mp q; omega)

theorem l_Model_keep {i : Nat} (hi : i < 2) {P : Option Value → nw_M → Prop} (hP : ∀ N2, CPI 6 (138 * i) 138 (M 3) M N2 → RJ G LM m_Model_keep 1 P 61 [some (.ref (G.2.2 0)), some (.int (nI i)), some (.int (nI 138))] [] N2) : ∀ (d j : Nat) (N : nw_M), j + d = 138 → CPI 6 (138 * i) j (M 3) M N → RJ G LM m_Model_keep 1 P 30 [some (.ref (G.2.2 0)), some (.int (nI i)), some (.int (nI j))] [] N := by
  intro d
  induction d with
  | zero =>
    intro j N hd hI
    simp only [Nat.add_zero] at hd
    subst hd
    refine r_iload_n (i := 2) d_Model_keep_30 rfl rfl ?_
    refine r_sipush 138 d_Model_keep_31 sp_138 ?_
    refine r_icmp_ge 61 d_Model_keep_34 (by decide) (fun _ => ?_) (fun h9 => absurd (show (138 : Int32) ≤ nI 138 by decide) h9)
    exact hP N hI
  | succ d ih =>
    intro j N hd hI
    refine r_iload_n (i := 2) d_Model_keep_30 rfl rfl ?_
    refine r_sipush 138 d_Model_keep_31 sp_138 ?_
    refine r_icmp_ge 61 d_Model_keep_34 (by decide) (fun h_34 => ?_) (fun h_34 => ?_)
    · skip
      exact absurd h_34 (nI_ge (b := 138) (by omega) (by omega))
    · skip
      refine r_aload_n (i := 0) d_Model_keep_37 rfl rfl ?_
      refine r_getr nf_Model_25 lm_0 rfl d_Model_keep_38 ?_
      refine r_sipush 138 d_Model_keep_41 sp_138 ?_
      refine r_iload_n (i := 1) d_Model_keep_44 rfl rfl ?_
      refine r_imulN (a := 138) (b := i) d_Model_keep_45 rfl rfl ?_
      refine r_iload_n (i := 2) d_Model_keep_46 rfl rfl ?_
      refine r_iaddN (a := (138 * i)) (b := j) d_Model_keep_47 rfl rfl ?_
      refine r_aload_n (i := 0) d_Model_keep_48 rfl rfl ?_
      refine r_getr nf_Model_16 lm_0 rfl d_Model_keep_49 ?_
      refine r_iload_n (i := 2) d_Model_keep_52 rfl rfl ?_
      refine r_ia (q := j) lm_3 rfl (by omega) (by decide) (congrFun (hI.1 3 (by decide)) _) d_Model_keep_53 ?_
      refine r_ias (q := ((138 * i) + j)) lm_6 rfl (by omega) (by decide) d_Model_keep_54 ?_
      refine r_iinc d_Model_keep_55 rfl (nI_inc _) (Nat.le_of_ble_eq_true rfl) rfl ?_
      dsimp only [List.set]
      refine r_goto 30 d_Model_keep_58 (by decide) ?_
      exact ih (j + 1) _ (by omega) (hI.put rfl)

theorem l_Model_back {i : Nat} (hi : i < 2) {P : Option Value → nw_M → Prop} (hP : ∀ N2, CPI 3 0 138 (fun j => M 6 (138 * i + j)) M N2 → RJ G LM m_Model_back 1 P 61 [some (.ref (G.2.2 0)), some (.int (nI i)), some (.int (nI 138))] [] N2) : ∀ (d j : Nat) (N : nw_M), j + d = 138 → CPI 3 0 j (fun j => M 6 (138 * i + j)) M N → RJ G LM m_Model_back 1 P 30 [some (.ref (G.2.2 0)), some (.int (nI i)), some (.int (nI j))] [] N := by
  intro d
  induction d with
  | zero =>
    intro j N hd hI
    simp only [Nat.add_zero] at hd
    subst hd
    refine r_iload_n (i := 2) d_Model_back_30 rfl rfl ?_
    refine r_sipush 138 d_Model_back_31 sp_138 ?_
    refine r_icmp_ge 61 d_Model_back_34 (by decide) (fun _ => ?_) (fun h9 => absurd (show (138 : Int32) ≤ nI 138 by decide) h9)
    exact hP N hI
  | succ d ih =>
    intro j N hd hI
    refine r_iload_n (i := 2) d_Model_back_30 rfl rfl ?_
    refine r_sipush 138 d_Model_back_31 sp_138 ?_
    refine r_icmp_ge 61 d_Model_back_34 (by decide) (fun h_34 => ?_) (fun h_34 => ?_)
    · skip
      exact absurd h_34 (nI_ge (b := 138) (by omega) (by omega))
    · skip
      refine r_aload_n (i := 0) d_Model_back_37 rfl rfl ?_
      refine r_getr nf_Model_16 lm_0 rfl d_Model_back_38 ?_
      refine r_iload_n (i := 2) d_Model_back_41 rfl rfl ?_
      refine r_aload_n (i := 0) d_Model_back_42 rfl rfl ?_
      refine r_getr nf_Model_25 lm_0 rfl d_Model_back_43 ?_
      refine r_sipush 138 d_Model_back_46 sp_138 ?_
      refine r_iload_n (i := 1) d_Model_back_49 rfl rfl ?_
      refine r_imulN (a := 138) (b := i) d_Model_back_50 rfl rfl ?_
      refine r_iload_n (i := 2) d_Model_back_51 rfl rfl ?_
      refine r_iaddN (a := (138 * i)) (b := j) d_Model_back_52 rfl rfl ?_
      refine r_ia (q := ((138 * i) + j)) lm_6 rfl (by omega) (by decide) (congrFun (hI.1 6 (by decide)) _) d_Model_back_53 ?_
      refine r_ias (q := j) lm_3 rfl (by omega) (by decide) d_Model_back_54 ?_
      refine r_iinc d_Model_back_55 rfl (nI_inc _) (Nat.le_of_ble_eq_true rfl) rfl ?_
      dsimp only [List.set]
      refine r_goto 30 d_Model_back_58 (by decide) ?_
      have := hI.put (x := M 6 (138 * i + j)) rfl
      rw [Nat.zero_add] at this
      exact ih (j + 1) _ (by omega) this

def updK (K : Nat → Option SN) (i : Nat) (f : SN) : Nat → Option SN := fun q => if q = i then some f else K q
theorem c_Model_keep (hP : MP len tx s l K ask trp M) (hs : MS n le nu lf rt nm mc s) (hn : n ≤ 31) (k : Int32) : CJ G LM m_Model_keep 1 [.ref (G.2.2 0), .int k] M (fun v N => (isN 2 k = false ∧ v = some (.int (-1)) ∧ MP len tx s l K ask trp N) ∨ (isN 2 k = true ∧ n = 0 ∧ v = some (.int (-2)) ∧ MP len tx s l K ask trp N) ∨ ∃ i, i < 2 ∧ k = nI i ∧ n ≠ 0 ∧ v = some (.int (nI n)) ∧ MP len tx s l (updK K i s) ask trp N) := by
  have hS := hP.ms hs hn
  refine CJ_of2 (n0 := 1) (by decide) rfl rfl ?_
  simp only [List.map_cons, List.map_nil, List.cons_append, List.nil_append, List.reduceReplicate]
  refine r_aload_n (i := 0) d_Model_keep_0 rfl rfl ?_
  refine r_iconst 0 d_Model_keep_1 ic_0 ?_
  refine r_puti nf_Model_75 nfin_Model_0 lm_0 rfl d_Model_keep_2 ?_
  refine r_iload_n (i := 1) d_Model_keep_5 rfl rfl ?_
  refine r_iconst 0 d_Model_keep_6 ic_0 ?_
  refine r_iconst 1 d_Model_keep_7 ic_1 ?_
  refine r_S3 f_Model_in w_942 (c_Model_in _ _ _ _ ) (Nat.le_of_ble_eq_true rfl) (Nat.le_of_ble_eq_true rfl) d_Model_keep_8 ?_
  refine r_if_ne 16 d_Model_keep_11 (by decide) (fun h_11 => ?_) (fun h_11 => ?_)
  · skip
    refine r_aload_n (i := 0) d_Model_keep_16 rfl rfl ?_
    refine r_getr nf_Model_16 lm_0 rfl d_Model_keep_17 ?_
    refine r_iconst 0 d_Model_keep_20 ic_0 ?_
    refine r_ia (q := 0) lm_3 rfl (by omega) (by decide) (hS.1) d_Model_keep_21 ?_
    refine r_if_ne 28 d_Model_keep_22 (by decide) (fun h_22 => ?_) (fun h_22 => ?_)
    · skip
      refine r_iconst 0 d_Model_keep_28 ic_0 ?_
      refine r_istore_n (i := 2) d_Model_keep_29 rfl (Nat.le_of_ble_eq_true rfl) rfl ?_
      dsimp only [List.set]
      have q := (bI_t _).mp h_11
      rw [in1] at q
      obtain ⟨i, hi, rfl⟩ := isN_ex q (by omega)
      refine l_Model_keep (M := m0 M) hi (fun N2 h2 => ?_) 138 0 _ (by omega) (CPI.nil _ _ _ _)
      refine r_aload_n (i := 0) d_Model_keep_61 rfl rfl ?_
      refine r_getr nf_Model_28 lm_0 rfl d_Model_keep_62 ?_
      refine r_iload_n (i := 1) d_Model_keep_65 rfl rfl ?_
      refine r_iconst 1 d_Model_keep_66 ic_1 ?_
      refine r_zas (q := i) lm_7 rfl (by omega) (by decide) (by decide) d_Model_keep_67 ?_
      refine r_aload_n (i := 0) d_Model_keep_68 rfl rfl ?_
      refine r_getr nf_Model_16 lm_0 rfl d_Model_keep_69 ?_
      refine r_iconst 0 d_Model_keep_72 ic_0 ?_
      refine r_ia (q := 0) lm_3 rfl (by omega) (by decide) ((congrFun (h2.1 3 (by decide)) 0).trans hS.1) d_Model_keep_73 ?_
      refine r_iret rfl d_Model_keep_74 ?_
      refine Or.inr (Or.inr ⟨i, hi, rfl, fun q => h_22 (by rw [q]; rfl), rfl, ?_, fun j hj => ?_, fun j hj => ?_, ?_, ?_, fun q hq => ?_, ?_, ?_⟩)
      · exact (congrFun (h2.1 0 (by decide)) 2).trans hP.1
      · exact (congrFun (h2.1 1 (by decide)) j).trans (hP.2.1 j hj)
      · exact (congrFun (h2.1 3 (by decide)) j).trans (hP.2.2.1 j hj)
      · exact (congrFun (h2.1 0 (by decide)) 9).trans hP.2.2.2.1
      · have : ms N2 7 (upd (N2 7) i 1) 5 = M 5 := h2.1 5 (by decide)
        rw [this]; exact hP.2.2.2.2.1
      · unfold updK
        by_cases e : q = i
        · subst e
          rw [if_pos rfl]
          refine ⟨by rw [ms_same, upd_at], fun j hj => ?_⟩
          rw [ms_ne _ _ (by decide), h2.at hj]
          exact hP.2.2.1 j hj
        · rw [if_neg e]
          have e7 : ms N2 7 (upd (N2 7) i 1) 7 q = M 7 q := by rw [ms_same, upd_ne _ _ e, h2.1 7 (by decide)]; rfl
          have e6 : ∀ j, j < 138 → ms N2 7 (upd (N2 7) i 1) 6 (138 * q + j) = M 6 (138 * q + j) := fun j hj => by rw [ms_ne _ _ (by decide), h2.2, if_neg (by omega)]; rfl
          have := hP.2.2.2.2.2.1 q hq
          cases hK : K q with
          | none => rw [hK] at this; exact e7.trans this
          | some f => rw [hK] at this; exact ⟨e7.trans this.1, fun j hj => (e6 j hj).trans (this.2 j hj)⟩
      · exact (congrFun (h2.1 0 (by decide)) 12).trans hP.2.2.2.2.2.2.1
      · exact (congrFun (h2.1 0 (by decide)) 13).trans hP.2.2.2.2.2.2.2
    · skip
      refine r_bipush (-2) d_Model_keep_25 bp_m2 ?_
      refine r_iret rfl d_Model_keep_27 ?_
      have q := (bI_t _).mp h_11
      rw [in1] at q
      exact Or.inr (Or.inl ⟨q, n0_of hn h_22, rfl, hP.th⟩)
  · skip
    refine r_iconst (-1) d_Model_keep_14 ic_m1 ?_
    refine r_iret rfl d_Model_keep_15 ?_
    have q := (bI_f _).mp h_11
    rw [in1] at q
    exact Or.inl ⟨q, rfl, hP.th⟩

theorem c_Model_back (hP : MP len tx s l K ask trp M) (k : Int32) : CJ G LM m_Model_back 1 [.ref (G.2.2 0), .int k] M (fun v N => (isN 2 k = false ∧ v = some (.int (-1)) ∧ MP len tx s l K ask trp N) ∨ ∃ i, i < 2 ∧ k = nI i ∧ ((K i = none ∧ v = some (.int (-2)) ∧ MP len tx s l K ask trp N) ∨ ∃ f, K i = some f ∧ v = some (.int (f 0)) ∧ MP len tx f [] K ask trp N)) := by
  refine CJ_of2 (n0 := 1) (by decide) rfl rfl ?_
  simp only [List.map_cons, List.map_nil, List.cons_append, List.nil_append, List.reduceReplicate]
  refine r_aload_n (i := 0) d_Model_back_0 rfl rfl ?_
  refine r_iconst 0 d_Model_back_1 ic_0 ?_
  refine r_puti nf_Model_75 nfin_Model_0 lm_0 rfl d_Model_back_2 ?_
  refine r_iload_n (i := 1) d_Model_back_5 rfl rfl ?_
  refine r_iconst 0 d_Model_back_6 ic_0 ?_
  refine r_iconst 1 d_Model_back_7 ic_1 ?_
  refine r_S3 f_Model_in w_942 (c_Model_in _ _ _ _ ) (Nat.le_of_ble_eq_true rfl) (Nat.le_of_ble_eq_true rfl) d_Model_back_8 ?_
  refine r_if_ne 16 d_Model_back_11 (by decide) (fun h_11 => ?_) (fun h_11 => ?_)
  · skip
    have q := (bI_t _).mp h_11
    rw [in1] at q
    obtain ⟨i, hi, rfl⟩ := isN_ex q (by omega)
    have hKi := hP.2.2.2.2.2.1 i hi
    refine r_aload_n (i := 0) d_Model_back_16 rfl rfl ?_
    refine r_getr nf_Model_28 lm_0 rfl d_Model_back_17 ?_
    refine r_iload_n (i := 1) d_Model_back_20 rfl rfl ?_
    refine r_za (q := i) lm_7 rfl (by omega) (by decide) (rfl) d_Model_back_21 ?_
    refine r_if_ne 28 d_Model_back_22 (by decide) (fun h_22 => ?_) (fun h_22 => ?_)
    · skip
      refine r_iconst 0 d_Model_back_28 ic_0 ?_
      refine r_istore_n (i := 2) d_Model_back_29 rfl (Nat.le_of_ble_eq_true rfl) rfl ?_
      dsimp only [List.set]
      obtain ⟨f, hf⟩ : ∃ f, K i = some f := by
        cases hK : K i with
        | none => rw [hK] at hKi; exact absurd hKi h_22
        | some f => exact ⟨f, rfl⟩
      rw [hf] at hKi
      refine l_Model_back (M := m0 M) hi (fun N2 h2 => ?_) 138 0 _ (by omega) (CPI.nil _ _ _ _)
      have h3 : ∀ j, j < 138 → N2 3 j = f j := fun j hj => by
        have := h2.at hj
        rw [Nat.zero_add] at this
        rw [this]
        exact hKi.2 j hj
      refine r_aload_n (i := 0) d_Model_back_61 rfl rfl ?_
      refine r_iconst 0 d_Model_back_62 ic_0 ?_
      refine r_puti nf_Model_142 nfin_Model_9 lm_0 rfl d_Model_back_63 ?_
      refine r_aload_n (i := 0) d_Model_back_66 rfl rfl ?_
      refine r_getr nf_Model_16 lm_0 rfl d_Model_back_67 ?_
      refine r_iconst 0 d_Model_back_70 ic_0 ?_
      refine r_ia (q := 0) lm_3 rfl (by omega) (by decide) (h3 0 (by omega)) d_Model_back_71 ?_
      refine r_iret rfl d_Model_back_72 ?_
      refine Or.inr ⟨i, hi, rfl, Or.inr ⟨f, hf, rfl, ?_, fun j hj => ?_, fun j hj => ?_, ?_, trivial, ?_, ?_, ?_⟩⟩
      · exact (congrFun (h2.1 0 (by decide)) 2).trans hP.1
      · exact (congrFun (h2.1 1 (by decide)) j).trans (hP.2.1 j hj)
      · exact h3 j hj
      · rfl
      · exact hP.2.2.2.2.2.1.of (h2.1 6 (by decide)) (h2.1 7 (by decide))
      · exact (congrFun (h2.1 0 (by decide)) 12).trans hP.2.2.2.2.2.2.1
      · exact (congrFun (h2.1 0 (by decide)) 13).trans hP.2.2.2.2.2.2.2
    · skip
      refine r_bipush (-2) d_Model_back_25 bp_m2 ?_
      refine r_iret rfl d_Model_back_27 ?_
      refine Or.inr ⟨i, hi, rfl, Or.inl ⟨?_, rfl, hP.th⟩⟩
      cases hK : K i with
      | none => rfl
      | some f => rw [hK] at hKi; exact absurd (hKi.1.symm.trans h_22) (by decide)
  · skip
    refine r_iconst (-1) d_Model_back_14 ic_m1 ?_
    refine r_iret rfl d_Model_back_15 ?_
    have q := (bI_f _).mp h_11
    rw [in1] at q
    exact Or.inl ⟨q, rfl, hP.th⟩

/-- whether a machine may be -/
def isP (x : Int32) : Bool := decide (¬ x < 1 ∧ ¬ (9 : Int32) < x)
def mcV (r a b c d : Int32) : Bool := decide (¬ r < 1 ∧ ¬ (6 : Int32) < r) && isP a && isP b && isP c && isP d
theorem mcV_ex {r a b c d : Int32} (h : mcV r a b c d = true) : ∃ m : Nat → Nat, MOK m ∧ r = nI (m 0) ∧ a = nI (m 1) ∧ b = nI (m 2) ∧ c = nI (m 3) ∧ d = nI (m 4) := by
  simp only [mcV, isP, Bool.and_eq_true] at h
  obtain ⟨⟨⟨⟨h0, h1⟩, h2⟩, h3⟩, h4⟩ := h
  obtain ⟨m0, a0, b0, rfl⟩ := isR_ex (m := 6) (by decide) h0
  obtain ⟨m1, a1, b1, rfl⟩ := isR_ex (m := 9) (by decide) h1
  obtain ⟨m2, a2, b2, rfl⟩ := isR_ex (m := 9) (by decide) h2
  obtain ⟨m3, a3, b3, rfl⟩ := isR_ex (m := 9) (by decide) h3
  obtain ⟨m4, a4, b4, rfl⟩ := isR_ex (m := 9) (by decide) h4
  refine ⟨fun j => if j = 0 then m0 else if j = 1 then m1 else if j = 2 then m2 else if j = 3 then m3 else m4, ⟨a0, b0, fun j h1 h5 => ?_⟩, rfl, rfl, rfl, rfl, rfl⟩
  have q : j = 1 ∨ j = 2 ∨ j = 3 ∨ j = 4 := by omega
  rcases q with rfl | rfl | rfl | rfl
  · exact ⟨a1, b1⟩
  · exact ⟨a2, b2⟩
  · exact ⟨a3, b3⟩
  · exact ⟨a4, b4⟩
def mcS (s : SN) (m : Nat → Nat) : SN := upd (upd (upd (upd (upd s 133 (nI (m 0))) 134 (nI (m 1))) 135 (nI (m 2))) 136 (nI (m 3))) 137 (nI (m 4))
theorem mcS_lo (s : SN) (m : Nat → Nat) {j : Nat} (h : j < 133) : mcS s m j = s j := by unfold mcS; simp (disch := omega) only [upd_ne]
theorem mcS_hi (s : SN) (m : Nat → Nat) {j : Nat} (h : j < 5) : mcS s m (133 + j) = nI (m j) := by
  have q : j = 0 ∨ j = 1 ∨ j = 2 ∨ j = 3 ∨ j = 4 := by omega
  unfold mcS
  rcases q with rfl | rfl | rfl | rfl | rfl <;> simp (disch := omega) only [upd_at, upd_ne]
theorem MS.mach {m : Nat → Nat} (h : MS n le nu lf rt nm mc s) (hn : n ≤ 31) : MS n le nu lf rt nm m (mcS s m) := by
  refine ⟨by rw [mcS_lo _ _ (by omega)]; exact h.1, fun j hj => ?_, fun j hj => ?_, fun j hj => mcS_hi s m hj⟩
  · rw [mcS_lo _ _ (by omega), mcS_lo _ _ (by omega), mcS_lo _ _ (by omega), mcS_lo _ _ (by omega)]
    exact h.2.1 j hj
  · rw [mcS_lo _ _ (by omega)]; exact h.2.2.1 j hj
theorem c0_Model_machine (hP : MP len tx s l K ask trp M) {r a b c d : Int32} (hv : mcV r a b c d = false) : CJ G LM m_Model_machine 6 [.ref (G.2.2 0), .int r, .int a, .int b, .int c, .int d] M (fun v N => v = some (.int (-1)) ∧ MP len tx s l K ask trp N) := by
  refine CJ_of2 (n0 := 0) (by decide) rfl rfl ?_
  simp only [List.map_cons, List.map_nil, List.cons_append, List.nil_append, List.reduceReplicate]
  refine r_aload_n (i := 0) d_Model_machine_0 rfl rfl ?_
  refine r_iconst 0 d_Model_machine_1 ic_0 ?_
  refine r_puti nf_Model_75 nfin_Model_0 lm_0 rfl d_Model_machine_2 ?_
  refine r_iload_n (i := 1) d_Model_machine_5 rfl rfl ?_
  refine r_iconst 1 d_Model_machine_6 ic_1 ?_
  refine r_bipush 6 d_Model_machine_7 bp_6 ?_
  refine r_S3 f_Model_in w_942 (c_Model_in _ _ _ _ ) (Nat.le_of_ble_eq_true rfl) (Nat.le_of_ble_eq_true rfl) d_Model_machine_9 ?_
  refine r_if_eq 57 d_Model_machine_12 (by decide) (fun h_12 => ?_) (fun h_12 => ?_)
  · skip
    refine r_iconst (-1) d_Model_machine_57 ic_m1 ?_
    refine r_iret rfl d_Model_machine_58 ?_
    exact ⟨rfl, hP.th⟩
  · skip
    refine r_iload_n (i := 2) d_Model_machine_15 rfl rfl ?_
    refine r_iconst 1 d_Model_machine_16 ic_1 ?_
    refine r_bipush 9 d_Model_machine_17 bp_9 ?_
    refine r_S3 f_Model_in w_942 (c_Model_in _ _ _ _ ) (Nat.le_of_ble_eq_true rfl) (Nat.le_of_ble_eq_true rfl) d_Model_machine_19 ?_
    refine r_if_eq 57 d_Model_machine_22 (by decide) (fun h_22 => ?_) (fun h_22 => ?_)
    · skip
      refine r_iconst (-1) d_Model_machine_57 ic_m1 ?_
      refine r_iret rfl d_Model_machine_58 ?_
      exact ⟨rfl, hP.th⟩
    · skip
      refine r_iload_n (i := 3) d_Model_machine_25 rfl rfl ?_
      refine r_iconst 1 d_Model_machine_26 ic_1 ?_
      refine r_bipush 9 d_Model_machine_27 bp_9 ?_
      refine r_S3 f_Model_in w_942 (c_Model_in _ _ _ _ ) (Nat.le_of_ble_eq_true rfl) (Nat.le_of_ble_eq_true rfl) d_Model_machine_29 ?_
      refine r_if_eq 57 d_Model_machine_32 (by decide) (fun h_32 => ?_) (fun h_32 => ?_)
      · skip
        refine r_iconst (-1) d_Model_machine_57 ic_m1 ?_
        refine r_iret rfl d_Model_machine_58 ?_
        exact ⟨rfl, hP.th⟩
      · skip
        refine r_iload d_Model_machine_35 rfl ?_
        refine r_iconst 1 d_Model_machine_37 ic_1 ?_
        refine r_bipush 9 d_Model_machine_38 bp_9 ?_
        refine r_S3 f_Model_in w_942 (c_Model_in _ _ _ _ ) (Nat.le_of_ble_eq_true rfl) (Nat.le_of_ble_eq_true rfl) d_Model_machine_40 ?_
        refine r_if_eq 57 d_Model_machine_43 (by decide) (fun h_43 => ?_) (fun h_43 => ?_)
        · skip
          refine r_iconst (-1) d_Model_machine_57 ic_m1 ?_
          refine r_iret rfl d_Model_machine_58 ?_
          exact ⟨rfl, hP.th⟩
        · skip
          refine r_iload d_Model_machine_46 rfl ?_
          refine r_iconst 1 d_Model_machine_48 ic_1 ?_
          refine r_bipush 9 d_Model_machine_49 bp_9 ?_
          refine r_S3 f_Model_in w_942 (c_Model_in _ _ _ _ ) (Nat.le_of_ble_eq_true rfl) (Nat.le_of_ble_eq_true rfl) d_Model_machine_51 ?_
          refine r_if_ne 59 d_Model_machine_54 (by decide) (fun h_54 => ?_) (fun h_54 => ?_)
          · skip
            have q1 := (bI_t _).mp h_12
            have q2 := (bI_t _).mp h_22
            have q3 := (bI_t _).mp h_32
            have q4 := (bI_t _).mp h_43
            have q5 := (bI_t _).mp h_54
            exact absurd hv (by simp only [mcV, isP, q1, q2, q3, q4, q5]; decide)
          · skip
            refine r_iconst (-1) d_Model_machine_57 ic_m1 ?_
            refine r_iret rfl d_Model_machine_58 ?_
            exact ⟨rfl, hP.th⟩

set_option maxHeartbeats 1000000 in
theorem c_Model_machine (hP : MP len tx s l K ask trp M) (hs : MS n le nu lf rt nm mc s) (hw : WF n le nu lf rt z) (ht : ∀ k, k < n → TPk le lf rt z tp k) (hl : l.length ≤ 10) {m : Nat → Nat} (hm : MOK m) (hC : CTb n m le lf rt z tp (fun k => decide (lf k = -9)) (fun _ => false) C) (hv : mcV (nI (m 0)) (nI (m 1)) (nI (m 2)) (nI (m 3)) (nI (m 4)) = true) : CJ G LM m_Model_machine 6 [.ref (G.2.2 0), .int (nI (m 0)), .int (nI (m 1)), .int (nI (m 2)), .int (nI (m 3)), .int (nI (m 4))] M (fun v N => v = some (.int (nI (rootC n m C))) ∧ MP len tx (mcS s m) (pushU s l) K ask trp N) := by
  have hn := hw.1
  simp only [mcV, isP, Bool.and_eq_true] at hv
  obtain ⟨⟨⟨⟨v0, v1⟩, v2⟩, v3⟩, v4⟩ := hv
  refine CJ_of2 (n0 := 0) (by decide) rfl rfl ?_
  simp only [List.map_cons, List.map_nil, List.cons_append, List.nil_append, List.reduceReplicate]
  refine r_aload_n (i := 0) d_Model_machine_0 rfl rfl ?_
  refine r_iconst 0 d_Model_machine_1 ic_0 ?_
  refine r_puti nf_Model_75 nfin_Model_0 lm_0 rfl d_Model_machine_2 ?_
  refine r_iload_n (i := 1) d_Model_machine_5 rfl rfl ?_
  refine r_iconst 1 d_Model_machine_6 ic_1 ?_
  refine r_bipush 6 d_Model_machine_7 bp_6 ?_
  refine r_S3 f_Model_in w_942 (c_Model_in _ _ _ _ ) (Nat.le_of_ble_eq_true rfl) (Nat.le_of_ble_eq_true rfl) d_Model_machine_9 ?_
  refine r_if_eq 57 d_Model_machine_12 (by decide) (fun h_12 => ?_) (fun h_12 => ?_)
  · skip
    first
      | exact absurd ((bI_f _).mp h_54) (by rw [v4]; decide)
      | exact absurd ((bI_f _).mp h_43) (by rw [v3]; decide)
      | exact absurd ((bI_f _).mp h_32) (by rw [v2]; decide)
      | exact absurd ((bI_f _).mp h_22) (by rw [v1]; decide)
      | exact absurd ((bI_f _).mp h_12) (by rw [v0]; decide)
  · skip
    refine r_iload_n (i := 2) d_Model_machine_15 rfl rfl ?_
    refine r_iconst 1 d_Model_machine_16 ic_1 ?_
    refine r_bipush 9 d_Model_machine_17 bp_9 ?_
    refine r_S3 f_Model_in w_942 (c_Model_in _ _ _ _ ) (Nat.le_of_ble_eq_true rfl) (Nat.le_of_ble_eq_true rfl) d_Model_machine_19 ?_
    refine r_if_eq 57 d_Model_machine_22 (by decide) (fun h_22 => ?_) (fun h_22 => ?_)
    · skip
      first
        | exact absurd ((bI_f _).mp h_54) (by rw [v4]; decide)
        | exact absurd ((bI_f _).mp h_43) (by rw [v3]; decide)
        | exact absurd ((bI_f _).mp h_32) (by rw [v2]; decide)
        | exact absurd ((bI_f _).mp h_22) (by rw [v1]; decide)
        | exact absurd ((bI_f _).mp h_12) (by rw [v0]; decide)
    · skip
      refine r_iload_n (i := 3) d_Model_machine_25 rfl rfl ?_
      refine r_iconst 1 d_Model_machine_26 ic_1 ?_
      refine r_bipush 9 d_Model_machine_27 bp_9 ?_
      refine r_S3 f_Model_in w_942 (c_Model_in _ _ _ _ ) (Nat.le_of_ble_eq_true rfl) (Nat.le_of_ble_eq_true rfl) d_Model_machine_29 ?_
      refine r_if_eq 57 d_Model_machine_32 (by decide) (fun h_32 => ?_) (fun h_32 => ?_)
      · skip
        first
          | exact absurd ((bI_f _).mp h_54) (by rw [v4]; decide)
          | exact absurd ((bI_f _).mp h_43) (by rw [v3]; decide)
          | exact absurd ((bI_f _).mp h_32) (by rw [v2]; decide)
          | exact absurd ((bI_f _).mp h_22) (by rw [v1]; decide)
          | exact absurd ((bI_f _).mp h_12) (by rw [v0]; decide)
      · skip
        refine r_iload d_Model_machine_35 rfl ?_
        refine r_iconst 1 d_Model_machine_37 ic_1 ?_
        refine r_bipush 9 d_Model_machine_38 bp_9 ?_
        refine r_S3 f_Model_in w_942 (c_Model_in _ _ _ _ ) (Nat.le_of_ble_eq_true rfl) (Nat.le_of_ble_eq_true rfl) d_Model_machine_40 ?_
        refine r_if_eq 57 d_Model_machine_43 (by decide) (fun h_43 => ?_) (fun h_43 => ?_)
        · skip
          first
            | exact absurd ((bI_f _).mp h_54) (by rw [v4]; decide)
            | exact absurd ((bI_f _).mp h_43) (by rw [v3]; decide)
            | exact absurd ((bI_f _).mp h_32) (by rw [v2]; decide)
            | exact absurd ((bI_f _).mp h_22) (by rw [v1]; decide)
            | exact absurd ((bI_f _).mp h_12) (by rw [v0]; decide)
        · skip
          refine r_iload d_Model_machine_46 rfl ?_
          refine r_iconst 1 d_Model_machine_48 ic_1 ?_
          refine r_bipush 9 d_Model_machine_49 bp_9 ?_
          refine r_S3 f_Model_in w_942 (c_Model_in _ _ _ _ ) (Nat.le_of_ble_eq_true rfl) (Nat.le_of_ble_eq_true rfl) d_Model_machine_51 ?_
          refine r_if_ne 59 d_Model_machine_54 (by decide) (fun h_54 => ?_) (fun h_54 => ?_)
          · skip
            refine r_aload_n (i := 0) d_Model_machine_59 rfl rfl ?_
            refine r_W0 v_Model_notes w_1147 lm_0 (c_Model_notes hP.th hl) (Nat.le_of_ble_eq_true rfl) (Nat.le_of_ble_eq_true rfl) d_Model_machine_60 (fun v N hv => ?_)
            obtain ⟨rfl, h1, h2, h3, h4⟩ := hv
            refine r_aload_n (i := 0) d_Model_machine_63 rfl rfl ?_
            refine r_getr nf_Model_16 lm_0 rfl d_Model_machine_64 ?_
            refine r_sipush 133 d_Model_machine_67 sp_133 ?_
            refine r_iload_n (i := 1) d_Model_machine_70 rfl rfl ?_
            refine r_ias (q := 133) lm_3 rfl (by omega) (by decide) d_Model_machine_71 ?_
            refine r_aload_n (i := 0) d_Model_machine_72 rfl rfl ?_
            refine r_getr nf_Model_16 lm_0 rfl d_Model_machine_73 ?_
            refine r_sipush 134 d_Model_machine_76 sp_134 ?_
            refine r_iload_n (i := 2) d_Model_machine_79 rfl rfl ?_
            refine r_ias (q := 134) lm_3 rfl (by omega) (by decide) d_Model_machine_80 ?_
            refine r_aload_n (i := 0) d_Model_machine_81 rfl rfl ?_
            refine r_getr nf_Model_16 lm_0 rfl d_Model_machine_82 ?_
            refine r_sipush 135 d_Model_machine_85 sp_135 ?_
            refine r_iload_n (i := 3) d_Model_machine_88 rfl rfl ?_
            refine r_ias (q := 135) lm_3 rfl (by omega) (by decide) d_Model_machine_89 ?_
            refine r_aload_n (i := 0) d_Model_machine_90 rfl rfl ?_
            refine r_getr nf_Model_16 lm_0 rfl d_Model_machine_91 ?_
            refine r_sipush 136 d_Model_machine_94 sp_136 ?_
            refine r_iload d_Model_machine_97 rfl ?_
            refine r_ias (q := 136) lm_3 rfl (by omega) (by decide) d_Model_machine_99 ?_
            refine r_aload_n (i := 0) d_Model_machine_100 rfl rfl ?_
            refine r_getr nf_Model_16 lm_0 rfl d_Model_machine_101 ?_
            refine r_sipush 137 d_Model_machine_104 sp_137 ?_
            refine r_iload d_Model_machine_107 rfl ?_
            refine r_ias (q := 137) lm_3 rfl (by omega) (by decide) d_Model_machine_109 ?_
            have hq : ∀ j, j < 138 → (upd (upd (upd (upd (upd (N 3) 133 (nI (m 0))) 134 (nI (m 1))) 135 (nI (m 2))) 136 (nI (m 3))) 137 (nI (m 4))) j = mcS s m j := by
              intro j hj
              unfold mcS upd
              have := (congrFun (h1 3 (by decide) (by decide)) j).trans (hP.2.2.1 j hj)
              simp only [this]
            obtain ⟨B, hB⟩ : ∃ B, B = ms N 3 (upd (upd (upd (upd (upd (N 3) 133 (nI (m 0))) 134 (nI (m 1))) 135 (nI (m 2))) 136 (nI (m 3))) 137 (nI (m 4))) := ⟨_, rfl⟩
            simp only [ms_same, ms_ms]
            rw [← hB]
            have hP2 : MP len tx (mcS s m) (pushU s l) K ask trp B := by
              rw [hB]
              refine ⟨?_, fun i hi => ?_, fun i hi => ?_, ?_, ?_, ?_, ?_, ?_⟩
              · exact (h2 2 (by decide)).trans hP.1
              · exact (congrFun (h1 1 (by decide) (by decide)) i).trans (hP.2.1 i hi)
              · rw [ms_same]; exact hq i hi
              · exact h3
              · exact h4
              · exact hP.2.2.2.2.2.1.of (h1 6 (by decide) (by decide)) (h1 7 (by decide) (by decide))
              · exact (h2 12 (by decide)).trans hP.2.2.2.2.2.2.1
              · exact (h2 13 (by decide)).trans hP.2.2.2.2.2.2.2
            have hMs : MS n le nu lf rt nm m (B 3) := hP2.ms (hs.mach hn) hn
            refine r_aload_n (i := 0) d_Model_machine_110 rfl rfl ?_
            refine r_W0 v_Model_rootCost w_1155 lm_0 (c_Model_rootCost hMs hw ht hm hC) (Nat.le_of_ble_eq_true rfl) (Nat.le_of_ble_eq_true rfl) d_Model_machine_111 (fun v N2 hv => ?_)
            obtain ⟨rfl, hF⟩ := hv
            refine r_iret rfl d_Model_machine_114 ?_
            refine ⟨rfl, ?_⟩
            have := hP2.mf hF
            rw [hP2.2.2.2.2.2.2.1, hP2.2.2.2.2.2.2.2] at this
            exact this
          · skip
            first
              | exact absurd ((bI_f _).mp h_54) (by rw [v4]; decide)
              | exact absurd ((bI_f _).mp h_43) (by rw [v3]; decide)
              | exact absurd ((bI_f _).mp h_32) (by rw [v2]; decide)
              | exact absurd ((bI_f _).mp h_22) (by rw [v1]; decide)
              | exact absurd ((bI_f _).mp h_12) (by rw [v0]; decide)

end MMc
