-- the model: exchange
theorem nI_back (a b : Nat) : nI a - nI (a + b) = -nI b := by
  rw [← nI_add, Int32.sub_eq_add_neg, Int32.neg_add, Int32.sub_eq_add_neg (-nI a), ← Int32.add_assoc, show nI a + -nI a = 0 from by rw [← Int32.sub_eq_add_neg, Int32.sub_self], Int32.zero_add]
/-- a NODE of w comes to the place of another number in s -/
def mvS (s w : Nat → Int32) (f g : Nat) (by_ : Int32) : Nat → Int32 := upd (upd (upd (upd s (1 + g) (w (1 + f))) (32 + g) (w (32 + f))) (63 + g) (sh9 (w (63 + f)) by_)) (94 + g) (sh9 (w (94 + f)) by_)
section MMx
variable {G : nw_G} {n : Nat} {le nu lf rt nm : Nat → Int32} {z nd ld ak mc : Nat → Nat} {tp : Nat → Bool} {C : Nat → Nat → Nat} {Q : nP} {M N : nw_M}
variable {len : Nat} {tx s : SN} {l : List SN} {K : Nat → Option SN} {ask trp : Int32}
theorem c_Model_moves {f g : Nat} (hf : f < 31) (hg : g < 31) : CF G LM m_Model_moves 0 [.ref (G.2.2 0), .int (nI f), .int (nI g)] M none (ms M 3 (mvS (M 3) (M 4) f g (nI g - nI f))) := by
  refine CJ_of2 (n0 := 1) (by decide) rfl rfl ?_
  simp only [List.map_cons, List.map_nil, List.cons_append, List.nil_append, List.reduceReplicate]
  refine r_iload_n (i := 2) d_Model_moves_0 rfl rfl ?_
  refine r_iload_n (i := 1) d_Model_moves_1 rfl rfl ?_
  refine r_isub d_Model_moves_2 ?_
  refine r_istore_n (i := 3) d_Model_moves_3 rfl (Nat.le_of_ble_eq_true rfl) rfl ?_
  dsimp only [List.set]
  refine r_aload_n (i := 0) d_Model_moves_4 rfl rfl ?_
  refine r_getr nf_Model_16 lm_0 rfl d_Model_moves_5 ?_
  refine r_iconst 1 d_Model_moves_8 ic_1 ?_
  refine r_iload_n (i := 2) d_Model_moves_9 rfl rfl ?_
  refine r_iaddN (a := 1) (b := g) d_Model_moves_10 rfl rfl ?_
  refine r_aload_n (i := 0) d_Model_moves_11 rfl rfl ?_
  refine r_getr nf_Model_19 lm_0 rfl d_Model_moves_12 ?_
  refine r_iconst 1 d_Model_moves_15 ic_1 ?_
  refine r_iload_n (i := 1) d_Model_moves_16 rfl rfl ?_
  refine r_iaddN (a := 1) (b := f) d_Model_moves_17 rfl rfl ?_
  refine r_ia (q := (1 + f)) lm_4 rfl (by omega) (by decide) ((rfl : _ = M 4 (1 + f))) d_Model_moves_18 ?_
  refine r_ias (q := (1 + g)) lm_3 rfl (by omega) (by decide) d_Model_moves_19 ?_
  refine r_aload_n (i := 0) d_Model_moves_20 rfl rfl ?_
  refine r_getr nf_Model_16 lm_0 rfl d_Model_moves_21 ?_
  refine r_bipush 32 d_Model_moves_24 bp_32 ?_
  refine r_iload_n (i := 2) d_Model_moves_26 rfl rfl ?_
  refine r_iaddN (a := 32) (b := g) d_Model_moves_27 rfl rfl ?_
  refine r_aload_n (i := 0) d_Model_moves_28 rfl rfl ?_
  refine r_getr nf_Model_19 lm_0 rfl d_Model_moves_29 ?_
  refine r_bipush 32 d_Model_moves_32 bp_32 ?_
  refine r_iload_n (i := 1) d_Model_moves_34 rfl rfl ?_
  refine r_iaddN (a := 32) (b := f) d_Model_moves_35 rfl rfl ?_
  refine r_ia (q := (32 + f)) lm_4 rfl (by omega) (by decide) ((rfl : _ = M 4 (32 + f))) d_Model_moves_36 ?_
  refine r_ias (q := (32 + g)) lm_3 rfl (by omega) (by decide) d_Model_moves_37 ?_
  refine r_aload_n (i := 0) d_Model_moves_38 rfl rfl ?_
  refine r_getr nf_Model_16 lm_0 rfl d_Model_moves_39 ?_
  refine r_bipush 63 d_Model_moves_42 bp_63 ?_
  refine r_iload_n (i := 2) d_Model_moves_44 rfl rfl ?_
  refine r_iaddN (a := 63) (b := g) d_Model_moves_45 rfl rfl ?_
  refine r_aload_n (i := 0) d_Model_moves_46 rfl rfl ?_
  refine r_getr nf_Model_19 lm_0 rfl d_Model_moves_47 ?_
  refine r_bipush 63 d_Model_moves_50 bp_63 ?_
  refine r_iload_n (i := 1) d_Model_moves_52 rfl rfl ?_
  refine r_iaddN (a := 63) (b := f) d_Model_moves_53 rfl rfl ?_
  refine r_ia (q := (63 + f)) lm_4 rfl (by omega) (by decide) ((rfl : _ = M 4 (63 + f))) d_Model_moves_54 ?_
  refine r_bipush (-9) d_Model_moves_55 bp_m9 ?_
  refine r_icmp_ne 65 d_Model_moves_57 (by decide) (fun h_57 => ?_) (fun h_57 => ?_)
  · skip
    refine r_aload_n (i := 0) d_Model_moves_65 rfl rfl ?_
    refine r_getr nf_Model_19 lm_0 rfl d_Model_moves_66 ?_
    refine r_bipush 63 d_Model_moves_69 bp_63 ?_
    refine r_iload_n (i := 1) d_Model_moves_71 rfl rfl ?_
    refine r_iaddN (a := 63) (b := f) d_Model_moves_72 rfl rfl ?_
    refine r_ia (q := (63 + f)) lm_4 rfl (by omega) (by decide) ((rfl : _ = M 4 (63 + f))) d_Model_moves_73 ?_
    refine r_iload_n (i := 3) d_Model_moves_74 rfl rfl ?_
    refine r_iadd d_Model_moves_75 ?_
    refine r_ias (q := (63 + g)) lm_3 rfl (by omega) (by decide) d_Model_moves_76 ?_
    refine r_aload_n (i := 0) d_Model_moves_77 rfl rfl ?_
    refine r_getr nf_Model_16 lm_0 rfl d_Model_moves_78 ?_
    refine r_bipush 94 d_Model_moves_81 bp_94 ?_
    refine r_iload_n (i := 2) d_Model_moves_83 rfl rfl ?_
    refine r_iaddN (a := 94) (b := g) d_Model_moves_84 rfl rfl ?_
    refine r_aload_n (i := 0) d_Model_moves_85 rfl rfl ?_
    refine r_getr nf_Model_19 lm_0 rfl d_Model_moves_86 ?_
    refine r_bipush 94 d_Model_moves_89 bp_94 ?_
    refine r_iload_n (i := 1) d_Model_moves_91 rfl rfl ?_
    refine r_iaddN (a := 94) (b := f) d_Model_moves_92 rfl rfl ?_
    refine r_ia (q := (94 + f)) lm_4 rfl (by omega) (by decide) ((rfl : _ = M 4 (94 + f))) d_Model_moves_93 ?_
    refine r_bipush (-9) d_Model_moves_94 bp_m9 ?_
    refine r_icmp_ne 104 d_Model_moves_96 (by decide) (fun h_96 => ?_) (fun h_96 => ?_)
    · skip
      refine r_aload_n (i := 0) d_Model_moves_104 rfl rfl ?_
      refine r_getr nf_Model_19 lm_0 rfl d_Model_moves_105 ?_
      refine r_bipush 94 d_Model_moves_108 bp_94 ?_
      refine r_iload_n (i := 1) d_Model_moves_110 rfl rfl ?_
      refine r_iaddN (a := 94) (b := f) d_Model_moves_111 rfl rfl ?_
      refine r_ia (q := (94 + f)) lm_4 rfl (by omega) (by decide) ((rfl : _ = M 4 (94 + f))) d_Model_moves_112 ?_
      refine r_iload_n (i := 3) d_Model_moves_113 rfl rfl ?_
      refine r_iadd d_Model_moves_114 ?_
      refine r_ias (q := (94 + g)) lm_3 rfl (by omega) (by decide) d_Model_moves_115 ?_
      refine r_vret rfl d_Model_moves_116 ?_
      refine ⟨rfl, ?_⟩
      unfold mvS sh9
      first | rw [if_pos h_57] | rw [if_neg h_57]
      first | rw [if_pos h_96] | rw [if_neg h_96]
      simp only [ms_same, ms_ms]
    · skip
      refine r_bipush (-9) d_Model_moves_99 bp_m9 ?_
      refine r_goto 115 d_Model_moves_101 (by decide) ?_
      refine r_ias (q := (94 + g)) lm_3 rfl (by omega) (by decide) d_Model_moves_115 ?_
      refine r_vret rfl d_Model_moves_116 ?_
      refine ⟨rfl, ?_⟩
      unfold mvS sh9
      first | rw [if_pos h_57] | rw [if_neg h_57]
      first | rw [if_pos h_96] | rw [if_neg h_96]
      simp only [ms_same, ms_ms]
  · skip
    refine r_bipush (-9) d_Model_moves_60 bp_m9 ?_
    refine r_goto 76 d_Model_moves_62 (by decide) ?_
    refine r_ias (q := (63 + g)) lm_3 rfl (by omega) (by decide) d_Model_moves_76 ?_
    refine r_aload_n (i := 0) d_Model_moves_77 rfl rfl ?_
    refine r_getr nf_Model_16 lm_0 rfl d_Model_moves_78 ?_
    refine r_bipush 94 d_Model_moves_81 bp_94 ?_
    refine r_iload_n (i := 2) d_Model_moves_83 rfl rfl ?_
    refine r_iaddN (a := 94) (b := g) d_Model_moves_84 rfl rfl ?_
    refine r_aload_n (i := 0) d_Model_moves_85 rfl rfl ?_
    refine r_getr nf_Model_19 lm_0 rfl d_Model_moves_86 ?_
    refine r_bipush 94 d_Model_moves_89 bp_94 ?_
    refine r_iload_n (i := 1) d_Model_moves_91 rfl rfl ?_
    refine r_iaddN (a := 94) (b := f) d_Model_moves_92 rfl rfl ?_
    refine r_ia (q := (94 + f)) lm_4 rfl (by omega) (by decide) ((rfl : _ = M 4 (94 + f))) d_Model_moves_93 ?_
    refine r_bipush (-9) d_Model_moves_94 bp_m9 ?_
    refine r_icmp_ne 104 d_Model_moves_96 (by decide) (fun h_96 => ?_) (fun h_96 => ?_)
    · skip
      refine r_aload_n (i := 0) d_Model_moves_104 rfl rfl ?_
      refine r_getr nf_Model_19 lm_0 rfl d_Model_moves_105 ?_
      refine r_bipush 94 d_Model_moves_108 bp_94 ?_
      refine r_iload_n (i := 1) d_Model_moves_110 rfl rfl ?_
      refine r_iaddN (a := 94) (b := f) d_Model_moves_111 rfl rfl ?_
      refine r_ia (q := (94 + f)) lm_4 rfl (by omega) (by decide) ((rfl : _ = M 4 (94 + f))) d_Model_moves_112 ?_
      refine r_iload_n (i := 3) d_Model_moves_113 rfl rfl ?_
      refine r_iadd d_Model_moves_114 ?_
      refine r_ias (q := (94 + g)) lm_3 rfl (by omega) (by decide) d_Model_moves_115 ?_
      refine r_vret rfl d_Model_moves_116 ?_
      refine ⟨rfl, ?_⟩
      unfold mvS sh9
      first | rw [if_pos h_57] | rw [if_neg h_57]
      first | rw [if_pos h_96] | rw [if_neg h_96]
      simp only [ms_same, ms_ms]
    · skip
      refine r_bipush (-9) d_Model_moves_99 bp_m9 ?_
      refine r_goto 115 d_Model_moves_101 (by decide) ?_
      refine r_ias (q := (94 + g)) lm_3 rfl (by omega) (by decide) d_Model_moves_115 ?_
      refine r_vret rfl d_Model_moves_116 ?_
      refine ⟨rfl, ?_⟩
      unfold mvS sh9
      first | rw [if_pos h_57] | rw [if_neg h_57]
      first | rw [if_pos h_96] | rw [if_neg h_96]
      simp only [ms_same, ms_ms]

/-- behind i NODES of the right operand and j of the left one -/
def xf (f0 zl zr i j : Nat) (a : Nat → Int32) (u v : Int32 → Int32) : Nat → Int32 := fun q => if f0 ≤ q ∧ q < f0 + i then u (a (q + zl)) else if f0 + zr ≤ q ∧ q < f0 + zr + j then v (a (q - zr)) else a q
def XI (f0 zl zr i j : Nat) (M N : nw_M) : Prop := (∀ e, e ≠ 3 → N e = M e) ∧ N 3 0 = M 3 0 ∧ (∀ q, 125 ≤ q → N 3 q = M 3 q) ∧ ∀ q, q < 31 → N 3 (1 + q) = xf f0 zl zr i j (fun q => M 3 (1 + q)) id id q ∧ N 3 (32 + q) = xf f0 zl zr i j (fun q => M 3 (32 + q)) id id q ∧ N 3 (63 + q) = xf f0 zl zr i j (fun q => M 3 (63 + q)) (fun x => sh9 x (-nI zl)) (fun x => sh9 x (nI zr)) q ∧ N 3 (94 + q) = xf f0 zl zr i j (fun q => M 3 (94 + q)) (fun x => sh9 x (-nI zl)) (fun x => sh9 x (nI zr)) q
theorem xf_s1 {f0 zl zr i q : Nat} {a : Nat → Int32} {u v : Int32 → Int32} (h : q ≠ f0 + i) : xf f0 zl zr (i + 1) 0 a u v q = xf f0 zl zr i 0 a u v q := by
  unfold xf
  by_cases e : f0 ≤ q ∧ q < f0 + i
  · rw [if_pos e, if_pos (by omega)]
  · rw [if_neg e, if_neg (by omega)]
theorem xf_s2 {f0 zl zr j q : Nat} {a : Nat → Int32} {u v : Int32 → Int32} (h : q ≠ f0 + zr + j) : xf f0 zl zr zr (j + 1) a u v q = xf f0 zl zr zr j a u v q := by
  unfold xf
  by_cases e : f0 ≤ q ∧ q < f0 + zr
  · rw [if_pos e, if_pos e]
  · rw [if_neg e, if_neg e]
    by_cases e2 : f0 + zr ≤ q ∧ q < f0 + zr + j
    · rw [if_pos e2, if_pos (by omega)]
    · rw [if_neg e2, if_neg (by omega)]
theorem XI.s1 {L f0 zl zr i : Nat} (h : XI f0 zl zr i 0 M N) (eL : L + 1 = f0 + zl) (hi : i < zr) (hb : f0 + zl + zr ≤ 31) (h4 : ∀ q, q < 138 → M 4 q = M 3 q) : XI f0 zl zr (i + 1) 0 M (ms N 3 (mvS (N 3) (N 4) (L + 1 + i) (f0 + i) (nI (f0 + i) - nI (L + 1 + i)))) := by
  obtain ⟨h0, h1, h2, h3⟩ := h
  have e4 : N 4 = M 4 := h0 4 (by decide)
  have eb : nI (f0 + i) - nI (L + 1 + i) = -nI zl := by rw [show L + 1 + i = f0 + i + zl by omega]; exact nI_back _ _
  rw [e4, eb]
  refine ⟨fun e he => by rw [ms_ne _ _ he]; exact h0 e he, ?_, fun q hq => ?_, fun q hq => ?_⟩
  · rw [ms_same]; unfold mvS; simp (disch := omega) only [upd_ne]; exact h1
  · rw [ms_same]; unfold mvS; simp (disch := omega) only [upd_ne]; exact h2 q hq
  · rw [ms_same]
    unfold mvS
    by_cases e : q = f0 + i
    · subst e
      simp (disch := omega) only [upd_ne, upd_at, h4]
      unfold xf
      rw [if_pos (by omega), if_pos (by omega), if_pos (by omega), if_pos (by omega), show f0 + i + zl = L + 1 + i by omega]
      exact ⟨rfl, rfl, rfl, rfl⟩
    · rw [xf_s1 e, xf_s1 e, xf_s1 e, xf_s1 e]
      simp (disch := omega) only [upd_ne]
      exact h3 q hq
theorem XI.s2 {L f0 zl zr i : Nat} (h : XI f0 zl zr zr i M N) (eL : L + 1 = f0 + zl) (hi : i < zl) (hb : f0 + zl + zr ≤ 31) (h4 : ∀ q, q < 138 → M 4 q = M 3 q) : XI f0 zl zr zr (i + 1) M (ms N 3 (mvS (N 3) (N 4) (f0 + i) (f0 + zr + i) (nI (f0 + zr + i) - nI (f0 + i)))) := by
  obtain ⟨h0, h1, h2, h3⟩ := h
  have e4 : N 4 = M 4 := h0 4 (by decide)
  have eb : nI (f0 + zr + i) - nI (f0 + i) = nI zr := by rw [pk_sub (by omega)]; congr 1; omega
  rw [e4, eb]
  refine ⟨fun e he => by rw [ms_ne _ _ he]; exact h0 e he, ?_, fun q hq => ?_, fun q hq => ?_⟩
  · rw [ms_same]; unfold mvS; simp (disch := omega) only [upd_ne]; exact h1
  · rw [ms_same]; unfold mvS; simp (disch := omega) only [upd_ne]; exact h2 q hq
  · rw [ms_same]
    unfold mvS
    by_cases e : q = f0 + zr + i
    · subst e
      simp (disch := omega) only [upd_ne, upd_at, h4]
      unfold xf
      have c1 : ¬ (f0 ≤ f0 + zr + i ∧ f0 + zr + i < f0 + zr) := by omega
      have c2 : f0 + zr ≤ f0 + zr + i ∧ f0 + zr + i < f0 + zr + (i + 1) := by omega
      simp only [if_neg c1, if_pos c2, show f0 + zr + i - zr = f0 + i by omega, id, and_self]
    · rw [xf_s2 e, xf_s2 e, xf_s2 e, xf_s2 e]
      simp (disch := omega) only [upd_ne]
      exact h3 q hq
theorem XI.nil (f0 zl zr : Nat) (M : nw_M) : XI f0 zl zr 0 0 M M := by
  refine ⟨fun _ _ => rfl, rfl, fun _ _ => rfl, fun q hq => ?_⟩
  unfold xf
  rw [if_neg (by omega), if_neg (by omega), if_neg (by omega), if_neg (by omega), if_neg (by omega), if_neg (by omega), if_neg (by omega), if_neg (by omega)]
  exact ⟨rfl, rfl, rfl, rfl⟩
theorem lx0_Model_exchange {k : Nat} {P : Option Value → nw_M → Prop} (hP : ∀ N2, CPI 4 0 138 (M 3) M N2 → RJ G LM m_Model_exchange 6 P 95 [some (.ref (G.2.2 0)), some (.int (nI k)), some (.int (nI 138)), none, none, none, none] [] N2) : ∀ (d j : Nat) (N : nw_M), j + d = 138 → CPI 4 0 j (M 3) M N → RJ G LM m_Model_exchange 6 P 70 [some (.ref (G.2.2 0)), some (.int (nI k)), some (.int (nI j)), none, none, none, none] [] N := by
  intro d
  induction d with
  | zero =>
    intro j N hd hI
    simp only [Nat.add_zero] at hd
    subst hd
    refine r_iload_n (i := 2) d_Model_exchange_70 rfl rfl ?_
    refine r_sipush 138 d_Model_exchange_71 sp_138 ?_
    refine r_icmp_ge 95 d_Model_exchange_74 (by decide) (fun _ => ?_) (fun h9 => absurd (show (138 : Int32) ≤ nI 138 by decide) h9)
    exact hP N hI
  | succ d ih =>
    intro j N hd hI
    refine r_iload_n (i := 2) d_Model_exchange_70 rfl rfl ?_
    refine r_sipush 138 d_Model_exchange_71 sp_138 ?_
    refine r_icmp_ge 95 d_Model_exchange_74 (by decide) (fun h_74 => ?_) (fun h_74 => ?_)
    · skip
      exact absurd h_74 (nI_ge (b := 138) (by omega) (by omega))
    · skip
      refine r_aload_n (i := 0) d_Model_exchange_77 rfl rfl ?_
      refine r_getr nf_Model_19 lm_0 rfl d_Model_exchange_78 ?_
      refine r_iload_n (i := 2) d_Model_exchange_81 rfl rfl ?_
      refine r_aload_n (i := 0) d_Model_exchange_82 rfl rfl ?_
      refine r_getr nf_Model_16 lm_0 rfl d_Model_exchange_83 ?_
      refine r_iload_n (i := 2) d_Model_exchange_86 rfl rfl ?_
      refine r_ia (q := j) lm_3 rfl (by omega) (by decide) (congrFun (hI.1 3 (by decide)) j) d_Model_exchange_87 ?_
      refine r_ias (q := j) lm_4 rfl (by omega) (by decide) d_Model_exchange_88 ?_
      refine r_iinc d_Model_exchange_89 rfl (nI_inc _) (Nat.le_of_ble_eq_true rfl) rfl ?_
      dsimp only [List.set]
      refine r_goto 70 d_Model_exchange_92 (by decide) ?_
      have := hI.put (x := M 3 j) rfl
      rw [Nat.zero_add] at this
      exact ih (j + 1) _ (by omega) this

theorem lx1_Model_exchange {k L f0 zl zr : Nat} (eL : L + 1 = f0 + zl) (hb : f0 + zl + zr ≤ 31) (h4 : ∀ q, q < 138 → M 4 q = M 3 q) {P : Option Value → nw_M → Prop} (hP : ∀ N2, XI f0 zl zr zr 0 M N2 → RJ G LM m_Model_exchange 6 P 164 [some (.ref (G.2.2 0)), some (.int (nI k)), some (.int (nI L)), some (.int (nI zl)), some (.int (nI zr)), some (.int (nI f0)), some (.int (nI zr))] [] N2) : ∀ (d i : Nat) (N : nw_M), i + d = zr → XI f0 zl zr i 0 M N → RJ G LM m_Model_exchange 6 P 136 [some (.ref (G.2.2 0)), some (.int (nI k)), some (.int (nI L)), some (.int (nI zl)), some (.int (nI zr)), some (.int (nI f0)), some (.int (nI i))] [] N := by
  intro d
  induction d with
  | zero =>
    intro i N hd hI
    simp only [Nat.add_zero] at hd
    subst hd
    refine r_iload d_Model_exchange_136 rfl ?_
    refine r_iload d_Model_exchange_138 rfl ?_
    refine r_icmp_ge 164 d_Model_exchange_140 (by decide) (fun _ => ?_) (fun h9 => absurd (Int32.le_refl _) h9)
    exact hP N hI
  | succ d ih =>
    intro i N hd hI
    refine r_iload d_Model_exchange_136 rfl ?_
    refine r_iload d_Model_exchange_138 rfl ?_
    refine r_icmp_ge 164 d_Model_exchange_140 (by decide) (fun h_140 => ?_) (fun h_140 => ?_)
    · skip
      exact absurd h_140 (nI_ge (by omega) (by omega))
    · skip
      refine r_aload_n (i := 0) d_Model_exchange_143 rfl rfl ?_
      refine r_iload_n (i := 2) d_Model_exchange_144 rfl rfl ?_
      refine r_iconst 1 d_Model_exchange_145 ic_1 ?_
      refine r_iaddN (a := L) (b := 1) d_Model_exchange_146 rfl rfl ?_
      refine r_iload d_Model_exchange_147 rfl ?_
      refine r_iaddN (a := (L + 1)) (b := i) d_Model_exchange_149 rfl rfl ?_
      refine r_iload d_Model_exchange_150 rfl ?_
      refine r_iload d_Model_exchange_152 rfl ?_
      refine r_iaddN (a := f0) (b := i) d_Model_exchange_154 rfl rfl ?_
      refine r_V2 v_Model_moves w_1151 lm_0 (c_Model_moves (f := L + 1 + i) (g := f0 + i) (by omega) (by omega)) (Nat.le_of_ble_eq_true rfl) (Nat.le_of_ble_eq_true rfl) d_Model_exchange_155 ?_
      refine r_iinc d_Model_exchange_158 rfl (nI_inc _) (Nat.le_of_ble_eq_true rfl) rfl ?_
      dsimp only [List.set]
      refine r_goto 136 d_Model_exchange_161 (by decide) ?_
      exact ih (i + 1) _ (by omega) (hI.s1 eL (by omega) hb h4)

theorem lx2_Model_exchange {k L f0 zl zr : Nat} (eL : L + 1 = f0 + zl) (hb : f0 + zl + zr ≤ 31) (h4 : ∀ q, q < 138 → M 4 q = M 3 q) {P : Option Value → nw_M → Prop} (hP : ∀ N2, XI f0 zl zr zr zl M N2 → RJ G LM m_Model_exchange 6 P 196 [some (.ref (G.2.2 0)), some (.int (nI k)), some (.int (nI L)), some (.int (nI zl)), some (.int (nI zr)), some (.int (nI f0)), some (.int (nI zl))] [] N2) : ∀ (d i : Nat) (N : nw_M), i + d = zl → XI f0 zl zr zr i M N → RJ G LM m_Model_exchange 6 P 167 [some (.ref (G.2.2 0)), some (.int (nI k)), some (.int (nI L)), some (.int (nI zl)), some (.int (nI zr)), some (.int (nI f0)), some (.int (nI i))] [] N := by
  intro d
  induction d with
  | zero =>
    intro i N hd hI
    simp only [Nat.add_zero] at hd
    subst hd
    refine r_iload d_Model_exchange_167 rfl ?_
    refine r_iload_n (i := 3) d_Model_exchange_169 rfl rfl ?_
    refine r_icmp_ge 196 d_Model_exchange_170 (by decide) (fun _ => ?_) (fun h9 => absurd (Int32.le_refl _) h9)
    exact hP N hI
  | succ d ih =>
    intro i N hd hI
    refine r_iload d_Model_exchange_167 rfl ?_
    refine r_iload_n (i := 3) d_Model_exchange_169 rfl rfl ?_
    refine r_icmp_ge 196 d_Model_exchange_170 (by decide) (fun h_170 => ?_) (fun h_170 => ?_)
    · skip
      exact absurd h_170 (nI_ge (by omega) (by omega))
    · skip
      refine r_aload_n (i := 0) d_Model_exchange_173 rfl rfl ?_
      refine r_iload d_Model_exchange_174 rfl ?_
      refine r_iload d_Model_exchange_176 rfl ?_
      refine r_iaddN (a := f0) (b := i) d_Model_exchange_178 rfl rfl ?_
      refine r_iload d_Model_exchange_179 rfl ?_
      refine r_iload d_Model_exchange_181 rfl ?_
      refine r_iaddN (a := f0) (b := zr) d_Model_exchange_183 rfl rfl ?_
      refine r_iload d_Model_exchange_184 rfl ?_
      refine r_iaddN (a := (f0 + zr)) (b := i) d_Model_exchange_186 rfl rfl ?_
      refine r_V2 v_Model_moves w_1151 lm_0 (c_Model_moves (f := f0 + i) (g := f0 + zr + i) (by omega) (by omega)) (Nat.le_of_ble_eq_true rfl) (Nat.le_of_ble_eq_true rfl) d_Model_exchange_187 ?_
      refine r_iinc d_Model_exchange_190 rfl (nI_inc _) (Nat.le_of_ble_eq_true rfl) rfl ?_
      dsimp only [List.set]
      refine r_goto 167 d_Model_exchange_193 (by decide) ?_
      exact ih (i + 1) _ (by omega) (hI.s2 eL (by omega) hb h4)

theorem comm_pair (hw : WF n le nu lf rt z) {k : Nat} (hk : k < n) (h : o_comm (le k) = true) : rt k ≠ -9 := by
  intro hr
  have hq : le k = 43 ∨ le k = 42 ∨ le k = 35 := by
    simp only [o_comm, Bool.or_eq_true, beq_iff_eq] at h
    rcases h with (h | h) | h
    · exact Or.inl h
    · exact Or.inr (Or.inl h)
    · exact Or.inr (Or.inr h)
  rcases hw.2 k hk with ⟨-, -, -, h1⟩ | ⟨h1, -⟩ | ⟨-, -, -, h1, -⟩
  · rcases h1 with ⟨h1, -⟩ | ⟨c, hc, h1, -⟩
    · rw [h1] at hq; exact absurd hq (by decide)
    · have q : ∀ c, c < 8 → ¬ (nI (97 + c) = 43 ∨ nI (97 + c) = 42 ∨ nI (97 + c) = 35) := by decide
      rw [h1] at hq; exact q c hc hq
  · rw [h1] at hq; exact absurd hq (by decide)
  · exact nI_ne9 (by have := hw.1; omega) (h1.symm.trans hr)
/-- whether the operands of NODE k may change places -/
def xOK (le : Nat → Int32) (z : Nat → Nat) (tp : Nat → Bool) (k : Nat) : Bool := o_comm (le k) && !(tp (k - 1 - z (k - 1)) && tp (k - 1))
theorem c0_Model_exchange (hP : MP len tx s l K ask trp M) (hs : MS n le nu lf rt nm mc s) (hn : n ≤ 31) {k : Int32} (hk : isN n k = false) : CJ G LM m_Model_exchange 6 [.ref (G.2.2 0), .int k] M (fun v N => v = some (.int (-1)) ∧ MP len tx s l K ask trp N) := by
  have hS : MS n le nu lf rt nm mc (m0 M 3) := hP.ms hs hn
  refine CJ_of2 (n0 := 5) (by decide) rfl rfl ?_
  simp only [List.map_cons, List.map_nil, List.cons_append, List.nil_append, List.reduceReplicate]
  refine r_aload_n (i := 0) d_Model_exchange_0 rfl rfl ?_
  refine r_iconst 0 d_Model_exchange_1 ic_0 ?_
  refine r_puti nf_Model_75 nfin_Model_0 lm_0 rfl d_Model_exchange_2 ?_
  refine r_aload_n (i := 0) d_Model_exchange_5 rfl rfl ?_
  refine r_iload_n (i := 1) d_Model_exchange_6 rfl rfl ?_
  refine r_V1 v_Model_isNode w_1007 lm_0 (c_Model_isNode (M := m0 M) hS hn k) (Nat.le_of_ble_eq_true rfl) (Nat.le_of_ble_eq_true rfl) d_Model_exchange_7 ?_
  refine r_if_ne 15 d_Model_exchange_10 (by decide) (fun h_10 => ?_) (fun h_10 => ?_)
  · skip
    exact absurd hk (by rw [(bI_t _).mp h_10]; decide)
  · skip
    refine r_iconst (-1) d_Model_exchange_13 ic_m1 ?_
    refine r_iret rfl d_Model_exchange_14 ?_
    exact ⟨rfl, hP.th⟩

theorem c1_Model_exchange (hP : MP len tx s l K ask trp M) (hs : MS n le nu lf rt nm mc s) (hw : WF n le nu lf rt z) (ht : ∀ k, k < n → TPk le lf rt z tp k) {k : Nat} (hk : k < n) (hx : xOK le z tp k = false) : CJ G LM m_Model_exchange 6 [.ref (G.2.2 0), .int (nI k)] M (fun v N => v = some (.int (-2)) ∧ MP len tx s l K ask trp N) := by
  have hn := hw.1
  have hS : MS n le nu lf rt nm mc (m0 M 3) := hP.ms hs hn
  refine CJ_of2 (n0 := 5) (by decide) rfl rfl ?_
  simp only [List.map_cons, List.map_nil, List.cons_append, List.nil_append, List.reduceReplicate]
  refine r_aload_n (i := 0) d_Model_exchange_0 rfl rfl ?_
  refine r_iconst 0 d_Model_exchange_1 ic_0 ?_
  refine r_puti nf_Model_75 nfin_Model_0 lm_0 rfl d_Model_exchange_2 ?_
  refine r_aload_n (i := 0) d_Model_exchange_5 rfl rfl ?_
  refine r_iload_n (i := 1) d_Model_exchange_6 rfl rfl ?_
  refine r_V1 v_Model_isNode w_1007 lm_0 (c_Model_isNode (M := m0 M) hS hn (nI k)) (Nat.le_of_ble_eq_true rfl) (Nat.le_of_ble_eq_true rfl) d_Model_exchange_7 ?_
  refine r_if_ne 15 d_Model_exchange_10 (by decide) (fun h_10 => ?_) (fun h_10 => ?_)
  · skip
    refine r_aload_n (i := 0) d_Model_exchange_15 rfl rfl ?_
    refine r_getr nf_Model_16 lm_0 rfl d_Model_exchange_16 ?_
    refine r_iconst 1 d_Model_exchange_19 ic_1 ?_
    refine r_iload_n (i := 1) d_Model_exchange_20 rfl rfl ?_
    refine r_iaddN (a := 1) (b := k) d_Model_exchange_21 rfl rfl ?_
    refine r_ia (q := (1 + k)) lm_3 rfl (by omega) (by decide) ((hS.gle (j := k) (by omega))) d_Model_exchange_22 ?_
    refine r_S1 f_Model_commutes w_1029 (c_Model_commutes _ _ ) (Nat.le_of_ble_eq_true rfl) (Nat.le_of_ble_eq_true rfl) d_Model_exchange_23 ?_
    refine r_if_eq 61 d_Model_exchange_26 (by decide) (fun h_26 => ?_) (fun h_26 => ?_)
    · skip
      refine r_bipush (-2) d_Model_exchange_61 bp_m2 ?_
      refine r_iret rfl d_Model_exchange_63 ?_
      exact ⟨rfl, hP.th⟩
    · skip
      have hr := comm_pair hw hk ((bI_t _).mp h_26)
      have sp := hw.pair hk hr
      refine r_aload_n (i := 0) d_Model_exchange_29 rfl rfl ?_
      refine r_aload_n (i := 0) d_Model_exchange_30 rfl rfl ?_
      refine r_getr nf_Model_16 lm_0 rfl d_Model_exchange_31 ?_
      refine r_bipush 63 d_Model_exchange_34 bp_63 ?_
      refine r_iload_n (i := 1) d_Model_exchange_36 rfl rfl ?_
      refine r_iaddN (a := 63) (b := k) d_Model_exchange_37 rfl rfl ?_
      refine r_ia (q := (63 + k)) lm_3 rfl (by omega) (by decide) ((hS.glf (j := k) (by omega)).trans sp.2.2.2.2.2.1) d_Model_exchange_38 ?_
      refine r_V1 v_Model_mayTrap w_1036 lm_0 (c_Model_mayTrap hS hw ht (k := k - 1 - z (k - 1)) (by omega)) (Nat.le_of_ble_eq_true rfl) (Nat.le_of_ble_eq_true rfl) d_Model_exchange_39 ?_
      refine r_if_eq 64 d_Model_exchange_42 (by decide) (fun h_42 => ?_) (fun h_42 => ?_)
      · skip
        have q0 := (bI_t _).mp h_26
        first
          | (have q1 := (bI_f _).mp h_42
             exact absurd hx (by unfold xOK; rw [q0, q1]; simp))
          | (have q1 := (bI_f _).mp h_58
             exact absurd hx (by unfold xOK; rw [q0, q1, Bool.and_false]; decide))
      · skip
        refine r_aload_n (i := 0) d_Model_exchange_45 rfl rfl ?_
        refine r_aload_n (i := 0) d_Model_exchange_46 rfl rfl ?_
        refine r_getr nf_Model_16 lm_0 rfl d_Model_exchange_47 ?_
        refine r_bipush 94 d_Model_exchange_50 bp_94 ?_
        refine r_iload_n (i := 1) d_Model_exchange_52 rfl rfl ?_
        refine r_iaddN (a := 94) (b := k) d_Model_exchange_53 rfl rfl ?_
        refine r_ia (q := (94 + k)) lm_3 rfl (by omega) (by decide) ((hS.grt (j := k) (by omega)).trans sp.2.2.2.1) d_Model_exchange_54 ?_
        refine r_V1 v_Model_mayTrap w_1036 lm_0 (c_Model_mayTrap hS hw ht (k := k - 1) (by omega)) (Nat.le_of_ble_eq_true rfl) (Nat.le_of_ble_eq_true rfl) d_Model_exchange_55 ?_
        refine r_if_eq 64 d_Model_exchange_58 (by decide) (fun h_58 => ?_) (fun h_58 => ?_)
        · skip
          have q0 := (bI_t _).mp h_26
          first
            | (have q1 := (bI_f _).mp h_42
               exact absurd hx (by unfold xOK; rw [q0, q1]; simp))
            | (have q1 := (bI_f _).mp h_58
               exact absurd hx (by unfold xOK; rw [q0, q1, Bool.and_false]; decide))
        · skip
          refine r_bipush (-2) d_Model_exchange_61 bp_m2 ?_
          refine r_iret rfl d_Model_exchange_63 ?_
          exact ⟨rfl, hP.th⟩
  · skip
    refine r_iconst (-1) d_Model_exchange_13 ic_m1 ?_
    refine r_iret rfl d_Model_exchange_14 ?_
    exact absurd h_10 (by rw [isN_nI hk (by omega)]; decide)

theorem xf_xa {f0 zl zr q : Nat} {a b : Nat → Int32} (h : ∀ q, q < n → b q = a q) (hb : f0 + zl + zr ≤ n) (hq : q < n) : xf f0 zl zr zr zl b id id q = xa f0 zl zr a q := by
  unfold xf
  by_cases e1 : f0 ≤ q ∧ q < f0 + zr
  · rw [if_pos e1, xa_B e1.1 e1.2]; exact h _ (by omega)
  · rw [if_neg e1]
    by_cases e2 : f0 + zr ≤ q ∧ q < f0 + zr + zl
    · rw [if_pos e2, xa_C e2.1 e2.2]; exact h _ (by omega)
    · rw [if_neg e2, xa_O (by omega)]; exact h _ hq
theorem xf_xb {f0 zl zr q : Nat} {a b : Nat → Int32} (h : ∀ q, q < n → b q = a q) (hb : f0 + zl + zr ≤ n) (hq : q < n) : xf f0 zl zr zr zl b (fun x => sh9 x (-nI zl)) (fun x => sh9 x (nI zr)) q = xb f0 zl zr a q := by
  unfold xf
  by_cases e1 : f0 ≤ q ∧ q < f0 + zr
  · rw [if_pos e1, xb_B e1.1 e1.2]; show sh9 _ _ = _; rw [h _ (by omega)]
  · rw [if_neg e1]
    by_cases e2 : f0 + zr ≤ q ∧ q < f0 + zr + zl
    · rw [if_pos e2, xb_C e2.1 e2.2]; show sh9 _ _ = _; rw [h _ (by omega)]
    · rw [if_neg e2, xb_O (by omega)]; exact h _ hq
theorem XI.ms {k L f0 zl zr : Nat} (h : XI f0 zl zr zr zl M N) (hS : MS n le nu lf rt nm mc (M 3)) (hn : n ≤ 31) (hk : k < n) (eL : L + 1 = f0 + zl) (ek : k = L + zr + 1) (h1z : 1 ≤ zr) : MS n (xa f0 zl zr le) (xa f0 zl zr nu) (upd (xb f0 zl zr lf) k (nI (k - 1 - zl))) (upd (xb f0 zl zr rt) k (nI (k - 1))) nm mc (upd (upd (N 3) (63 + k) (nI (f0 + zr - 1))) (94 + k) (nI (k - 1))) := by
  obtain ⟨h0, h1, h2, h3⟩ := h
  have ee : f0 + zr - 1 = k - 1 - zl := by omega
  refine ⟨?_, fun j hj => ?_, fun j hj => ?_, fun j hj => ?_⟩
  · simp (disch := omega) only [upd_ne]; rw [h1]; exact hS.1
  · obtain ⟨a1, a2, a3, a4⟩ := h3 j (by omega)
    rw [xf_xa (fun q hq => hS.gle hq) (by omega) hj] at a1
    rw [xf_xa (fun q hq => hS.gnu hq) (by omega) hj] at a2
    rw [xf_xb (fun q hq => hS.glf hq) (by omega) hj] at a3
    rw [xf_xb (fun q hq => hS.grt hq) (by omega) hj] at a4
    by_cases e : j = k
    · subst e
      simp (disch := omega) only [upd_ne, upd_at]
      refine ⟨a1, a2, by rw [ee], ?_⟩
      first | trivial | rfl
    · rw [upd_ne _ _ e, upd_ne _ _ e]
      simp (disch := omega) only [upd_ne]
      exact ⟨a1, a2, a3, a4⟩
  · simp (disch := omega) only [upd_ne]; rw [h2 _ (by omega)]; exact hS.gnm hj
  · simp (disch := omega) only [upd_ne]; rw [h2 _ (by omega)]; exact hS.gmc hj
set_option maxHeartbeats 1000000 in
theorem c_Model_exchange (hP : MP len tx s l K ask trp M) (hs : MS n le nu lf rt nm mc s) (hw : WF n le nu lf rt z) (ht : ∀ k, k < n → TPk le lf rt z tp k) (hl : l.length ≤ 10) (hmk : MOK mc) {k L f0 zl zr : Nat} (hk : k < n) (hx : xOK le z tp k = true) (hN : XN k L f0 zl zr z) {z2 : Nat → Nat} {tp2 : Nat → Bool} {C2 : Nat → Nat → Nat} (hw2 : WF n (xa f0 zl zr le) (xa f0 zl zr nu) (upd (xb f0 zl zr lf) k (nI (k - 1 - zl))) (upd (xb f0 zl zr rt) k (nI (k - 1))) z2) (ht2 : ∀ j, j < n → TPk (xa f0 zl zr le) (upd (xb f0 zl zr lf) k (nI (k - 1 - zl))) (upd (xb f0 zl zr rt) k (nI (k - 1))) z2 tp2 j) (hC2 : CTb n mc (xa f0 zl zr le) (upd (xb f0 zl zr lf) k (nI (k - 1 - zl))) (upd (xb f0 zl zr rt) k (nI (k - 1))) z2 tp2 (fun j => decide (upd (xb f0 zl zr lf) k (nI (k - 1 - zl)) j = -9)) (fun _ => false) C2) : CJ G LM m_Model_exchange 6 [.ref (G.2.2 0), .int (nI k)] M (fun v N => v = some (.int (nI (rootC n mc C2))) ∧ ∃ s2, MS n (xa f0 zl zr le) (xa f0 zl zr nu) (upd (xb f0 zl zr lf) k (nI (k - 1 - zl))) (upd (xb f0 zl zr rt) k (nI (k - 1))) nm mc s2 ∧ MP len tx s2 (pushU s l) K ask trp N) := by
  have hn := hw.1
  have hS : MS n le nu lf rt nm mc (m0 M 3) := hP.ms hs hn
  have hcm : o_comm (le k) = true := by unfold xOK at hx; simp only [Bool.and_eq_true] at hx; exact hx.1
  have hr := comm_pair hw hk hcm
  have sp := hw.pair hk hr
  obtain ⟨x1, x2, x3, x4, x5, x6, x7⟩ := hN
  have eLk : k - 1 - z (k - 1) = L := by omega
  rw [eLk] at sp
  refine CJ_of2 (n0 := 5) (by decide) rfl rfl ?_
  simp only [List.map_cons, List.map_nil, List.cons_append, List.nil_append, List.reduceReplicate]
  refine r_aload_n (i := 0) d_Model_exchange_0 rfl rfl ?_
  refine r_iconst 0 d_Model_exchange_1 ic_0 ?_
  refine r_puti nf_Model_75 nfin_Model_0 lm_0 rfl d_Model_exchange_2 ?_
  refine r_aload_n (i := 0) d_Model_exchange_5 rfl rfl ?_
  refine r_iload_n (i := 1) d_Model_exchange_6 rfl rfl ?_
  refine r_V1 v_Model_isNode w_1007 lm_0 (c_Model_isNode (M := m0 M) hS hn (nI k)) (Nat.le_of_ble_eq_true rfl) (Nat.le_of_ble_eq_true rfl) d_Model_exchange_7 ?_
  refine r_if_ne 15 d_Model_exchange_10 (by decide) (fun h_10 => ?_) (fun h_10 => ?_)
  · skip
    refine r_aload_n (i := 0) d_Model_exchange_15 rfl rfl ?_
    refine r_getr nf_Model_16 lm_0 rfl d_Model_exchange_16 ?_
    refine r_iconst 1 d_Model_exchange_19 ic_1 ?_
    refine r_iload_n (i := 1) d_Model_exchange_20 rfl rfl ?_
    refine r_iaddN (a := 1) (b := k) d_Model_exchange_21 rfl rfl ?_
    refine r_ia (q := (1 + k)) lm_3 rfl (by omega) (by decide) ((hS.gle (j := k) (by omega))) d_Model_exchange_22 ?_
    refine r_S1 f_Model_commutes w_1029 (c_Model_commutes _ _ ) (Nat.le_of_ble_eq_true rfl) (Nat.le_of_ble_eq_true rfl) d_Model_exchange_23 ?_
    refine r_if_eq 61 d_Model_exchange_26 (by decide) (fun h_26 => ?_) (fun h_26 => ?_)
    · skip
      first
        | (have q := (bI_f _).mp h_26
           rw [hcm] at q
           exact absurd q (by decide))
        | (have q1 := (bI_t _).mp h_42
           have q2 := (bI_t _).mp h_58
           exact absurd hx (by unfold xOK; rw [eLk, q1, q2, Bool.and_self, Bool.not_true, Bool.and_false]; decide))
    · skip
      refine r_aload_n (i := 0) d_Model_exchange_29 rfl rfl ?_
      refine r_aload_n (i := 0) d_Model_exchange_30 rfl rfl ?_
      refine r_getr nf_Model_16 lm_0 rfl d_Model_exchange_31 ?_
      refine r_bipush 63 d_Model_exchange_34 bp_63 ?_
      refine r_iload_n (i := 1) d_Model_exchange_36 rfl rfl ?_
      refine r_iaddN (a := 63) (b := k) d_Model_exchange_37 rfl rfl ?_
      refine r_ia (q := (63 + k)) lm_3 rfl (by omega) (by decide) ((hS.glf (j := k) (by omega)).trans sp.2.2.2.2.2.1) d_Model_exchange_38 ?_
      refine r_V1 v_Model_mayTrap w_1036 lm_0 (c_Model_mayTrap hS hw ht (k := L) (by omega)) (Nat.le_of_ble_eq_true rfl) (Nat.le_of_ble_eq_true rfl) d_Model_exchange_39 ?_
      refine r_if_eq 64 d_Model_exchange_42 (by decide) (fun h_42 => ?_) (fun h_42 => ?_)
      · skip
        refine r_aload_n (i := 0) d_Model_exchange_64 rfl rfl ?_
        refine r_W0 v_Model_notes w_1147 lm_0 (c_Model_notes hP.th hl) (Nat.le_of_ble_eq_true rfl) (Nat.le_of_ble_eq_true rfl) d_Model_exchange_65 (fun v N1 hv => ?_)
        obtain ⟨rfl, h1, h2, h3, h4⟩ := hv
        refine r_iconst 0 d_Model_exchange_68 ic_0 ?_
        refine r_istore_n (i := 2) d_Model_exchange_69 rfl (Nat.le_of_ble_eq_true rfl) rfl ?_
        dsimp only [List.set]
        refine lx0_Model_exchange (M := N1) (fun N2 g2 => ?_) 138 0 N1 (by omega) (CPI.nil _ _ _ _)
        have e3 : N2 3 = M 3 := (g2.1 3 (by decide)).trans (h1 3 (by decide) (by decide))
        have e4 : ∀ q, q < 138 → N2 4 q = N2 3 q := fun q hq => by
          have := g2.at hq
          rw [Nat.zero_add] at this
          rw [this, g2.1 3 (by decide)]
        have hS2 : MS n le nu lf rt nm mc (N2 3) := by rw [e3]; exact hS
        refine r_aload_n (i := 0) d_Model_exchange_95 rfl rfl ?_
        refine r_getr nf_Model_16 lm_0 rfl d_Model_exchange_96 ?_
        refine r_bipush 63 d_Model_exchange_99 bp_63 ?_
        refine r_iload_n (i := 1) d_Model_exchange_101 rfl rfl ?_
        refine r_iaddN (a := 63) (b := k) d_Model_exchange_102 rfl rfl ?_
        refine r_ia (q := (63 + k)) lm_3 rfl (by omega) (by decide) ((hS2.glf (j := k) (by omega)).trans sp.2.2.2.2.2.1) d_Model_exchange_103 ?_
        refine r_istore_n (i := 2) d_Model_exchange_104 rfl (Nat.le_of_ble_eq_true rfl) rfl ?_
        dsimp only [List.set]
        refine r_aload_n (i := 0) d_Model_exchange_105 rfl rfl ?_
        refine r_iload_n (i := 2) d_Model_exchange_106 rfl rfl ?_
        refine r_V1 v_Model_sizeOf w_1040 lm_0 (CF_eq (c_Model_sizeOf hS2 hw (k := L) (by omega)) (show _ = some (Value.int (nI zl)) by rw [x5]) rfl) (Nat.le_of_ble_eq_true rfl) (Nat.le_of_ble_eq_true rfl) d_Model_exchange_107 ?_
        refine r_istore_n (i := 3) d_Model_exchange_110 rfl (Nat.le_of_ble_eq_true rfl) rfl ?_
        dsimp only [List.set]
        refine r_aload_n (i := 0) d_Model_exchange_111 rfl rfl ?_
        refine r_aload_n (i := 0) d_Model_exchange_112 rfl rfl ?_
        refine r_getr nf_Model_16 lm_0 rfl d_Model_exchange_113 ?_
        refine r_bipush 94 d_Model_exchange_116 bp_94 ?_
        refine r_iload_n (i := 1) d_Model_exchange_118 rfl rfl ?_
        refine r_iaddN (a := 94) (b := k) d_Model_exchange_119 rfl rfl ?_
        refine r_ia (q := (94 + k)) lm_3 rfl (by omega) (by decide) ((hS2.grt (j := k) (by omega)).trans sp.2.2.2.1) d_Model_exchange_120 ?_
        refine r_V1 v_Model_sizeOf w_1040 lm_0 (CF_eq (c_Model_sizeOf hS2 hw (k := k - 1) (by omega)) (show _ = some (Value.int (nI zr)) by rw [x6]) rfl) (Nat.le_of_ble_eq_true rfl) (Nat.le_of_ble_eq_true rfl) d_Model_exchange_121 ?_
        refine r_istore d_Model_exchange_124 (Nat.le_of_ble_eq_true rfl) rfl ?_
        dsimp only [List.set]
        refine r_iload_n (i := 2) d_Model_exchange_126 rfl rfl ?_
        refine r_iload_n (i := 3) d_Model_exchange_127 rfl rfl ?_
        refine r_isub d_Model_exchange_128 ?_
        refine r_iconst 1 d_Model_exchange_129 ic_1 ?_
        refine r_iadd d_Model_exchange_130 ?_
        refine r_nrm (show nI L - nI zl + 1 = nI f0 by rw [nI_sub1 (by omega)]; congr 1; omega) ?_
        refine r_istore d_Model_exchange_131 (Nat.le_of_ble_eq_true rfl) rfl ?_
        dsimp only [List.set]
        refine r_iconst 0 d_Model_exchange_133 ic_0 ?_
        refine r_istore d_Model_exchange_134 (Nat.le_of_ble_eq_true rfl) rfl ?_
        dsimp only [List.set]
        refine lx1_Model_exchange (M := N2) x1 (by omega) e4 (fun N3 g3 => ?_) zr 0 N2 (by omega) (XI.nil _ _ _ _)
        refine r_iconst 0 d_Model_exchange_164 ic_0 ?_
        refine r_istore d_Model_exchange_165 (Nat.le_of_ble_eq_true rfl) rfl ?_
        dsimp only [List.set]
        refine lx2_Model_exchange (M := N2) x1 (by omega) e4 (fun N4 g4 => ?_) zl 0 N3 (by omega) g3
        have hMs := g4.ms hS2 hn hk x1 x2 x3
        refine r_aload_n (i := 0) d_Model_exchange_196 rfl rfl ?_
        refine r_getr nf_Model_16 lm_0 rfl d_Model_exchange_197 ?_
        refine r_bipush 63 d_Model_exchange_200 bp_63 ?_
        refine r_iload_n (i := 1) d_Model_exchange_202 rfl rfl ?_
        refine r_iaddN (a := 63) (b := k) d_Model_exchange_203 rfl rfl ?_
        refine r_iload d_Model_exchange_204 rfl ?_
        refine r_iload d_Model_exchange_206 rfl ?_
        refine r_iaddN (a := f0) (b := zr) d_Model_exchange_208 rfl rfl ?_
        refine r_iconst 1 d_Model_exchange_209 ic_1 ?_
        refine r_isubN (a := (f0 + zr)) (b := 1) d_Model_exchange_210 rfl rfl (by omega) ?_
        refine r_ias (q := (63 + k)) lm_3 rfl (by omega) (by decide) d_Model_exchange_211 ?_
        refine r_aload_n (i := 0) d_Model_exchange_212 rfl rfl ?_
        refine r_getr nf_Model_16 lm_0 rfl d_Model_exchange_213 ?_
        refine r_bipush 94 d_Model_exchange_216 bp_94 ?_
        refine r_iload_n (i := 1) d_Model_exchange_218 rfl rfl ?_
        refine r_iaddN (a := 94) (b := k) d_Model_exchange_219 rfl rfl ?_
        refine r_iload_n (i := 1) d_Model_exchange_220 rfl rfl ?_
        refine r_iconst 1 d_Model_exchange_221 ic_1 ?_
        refine r_isubN (a := k) (b := 1) d_Model_exchange_222 rfl rfl (by omega) ?_
        refine r_ias (q := (94 + k)) lm_3 rfl (by omega) (by decide) d_Model_exchange_223 ?_
        obtain ⟨B, hB⟩ : ∃ B, B = ms N4 3 (upd (upd (N4 3) (63 + k) (nI (f0 + zr - 1))) (94 + k) (nI (k - 1))) := ⟨_, rfl⟩
        simp only [ms_same, ms_ms]
        rw [← hB]
        have hB3 : B 3 = upd (upd (N4 3) (63 + k) (nI (f0 + zr - 1))) (94 + k) (nI (k - 1)) := by rw [hB, ms_same]
        have hBo : ∀ e, e ≠ 3 → e ≠ 4 → B e = N1 e := fun e a1 a2 => by rw [hB, ms_ne _ _ a1, g4.1 e a1, g2.1 e a2]
        have hMB : MS n (xa f0 zl zr le) (xa f0 zl zr nu) (upd (xb f0 zl zr lf) k (nI (k - 1 - zl))) (upd (xb f0 zl zr rt) k (nI (k - 1))) nm mc (B 3) := by rw [hB3]; exact hMs
        have hP2 : MP len tx (B 3) (pushU s l) K ask trp B := by
          refine ⟨?_, fun i hi => ?_, fun _ _ => rfl, ?_, ?_, ?_, ?_, ?_⟩
          · rw [hBo 0 (by decide) (by decide)]; exact (h2 2 (by decide)).trans hP.1
          · rw [hBo 1 (by decide) (by decide)]; exact (congrFun (h1 1 (by decide) (by decide)) i).trans (hP.2.1 i hi)
          · rw [hBo 0 (by decide) (by decide)]; exact h3
          · rw [hBo 5 (by decide) (by decide)]; exact h4
          · exact hP.2.2.2.2.2.1.of ((hBo 6 (by decide) (by decide)).trans (h1 6 (by decide) (by decide))) ((hBo 7 (by decide) (by decide)).trans (h1 7 (by decide) (by decide)))
          · rw [hBo 0 (by decide) (by decide)]; exact (h2 12 (by decide)).trans hP.2.2.2.2.2.2.1
          · rw [hBo 0 (by decide) (by decide)]; exact (h2 13 (by decide)).trans hP.2.2.2.2.2.2.2
        refine r_aload_n (i := 0) d_Model_exchange_224 rfl rfl ?_
        refine r_W0 v_Model_rootCost w_1155 lm_0 (c_Model_rootCost hMB hw2 ht2 hmk hC2) (Nat.le_of_ble_eq_true rfl) (Nat.le_of_ble_eq_true rfl) d_Model_exchange_225 (fun v N5 hv => ?_)
        obtain ⟨rfl, hF⟩ := hv
        refine r_iret rfl d_Model_exchange_228 ?_
        refine ⟨rfl, B 3, hMB, ?_⟩
        have := hP2.mf hF
        rw [hP2.2.2.2.2.2.2.1, hP2.2.2.2.2.2.2.2] at this
        exact this
      · skip
        refine r_aload_n (i := 0) d_Model_exchange_45 rfl rfl ?_
        refine r_aload_n (i := 0) d_Model_exchange_46 rfl rfl ?_
        refine r_getr nf_Model_16 lm_0 rfl d_Model_exchange_47 ?_
        refine r_bipush 94 d_Model_exchange_50 bp_94 ?_
        refine r_iload_n (i := 1) d_Model_exchange_52 rfl rfl ?_
        refine r_iaddN (a := 94) (b := k) d_Model_exchange_53 rfl rfl ?_
        refine r_ia (q := (94 + k)) lm_3 rfl (by omega) (by decide) ((hS.grt (j := k) (by omega)).trans sp.2.2.2.1) d_Model_exchange_54 ?_
        refine r_V1 v_Model_mayTrap w_1036 lm_0 (c_Model_mayTrap hS hw ht (k := k - 1) (by omega)) (Nat.le_of_ble_eq_true rfl) (Nat.le_of_ble_eq_true rfl) d_Model_exchange_55 ?_
        refine r_if_eq 64 d_Model_exchange_58 (by decide) (fun h_58 => ?_) (fun h_58 => ?_)
        · skip
          refine r_aload_n (i := 0) d_Model_exchange_64 rfl rfl ?_
          refine r_W0 v_Model_notes w_1147 lm_0 (c_Model_notes hP.th hl) (Nat.le_of_ble_eq_true rfl) (Nat.le_of_ble_eq_true rfl) d_Model_exchange_65 (fun v N1 hv => ?_)
          obtain ⟨rfl, h1, h2, h3, h4⟩ := hv
          refine r_iconst 0 d_Model_exchange_68 ic_0 ?_
          refine r_istore_n (i := 2) d_Model_exchange_69 rfl (Nat.le_of_ble_eq_true rfl) rfl ?_
          dsimp only [List.set]
          refine lx0_Model_exchange (M := N1) (fun N2 g2 => ?_) 138 0 N1 (by omega) (CPI.nil _ _ _ _)
          have e3 : N2 3 = M 3 := (g2.1 3 (by decide)).trans (h1 3 (by decide) (by decide))
          have e4 : ∀ q, q < 138 → N2 4 q = N2 3 q := fun q hq => by
            have := g2.at hq
            rw [Nat.zero_add] at this
            rw [this, g2.1 3 (by decide)]
          have hS2 : MS n le nu lf rt nm mc (N2 3) := by rw [e3]; exact hS
          refine r_aload_n (i := 0) d_Model_exchange_95 rfl rfl ?_
          refine r_getr nf_Model_16 lm_0 rfl d_Model_exchange_96 ?_
          refine r_bipush 63 d_Model_exchange_99 bp_63 ?_
          refine r_iload_n (i := 1) d_Model_exchange_101 rfl rfl ?_
          refine r_iaddN (a := 63) (b := k) d_Model_exchange_102 rfl rfl ?_
          refine r_ia (q := (63 + k)) lm_3 rfl (by omega) (by decide) ((hS2.glf (j := k) (by omega)).trans sp.2.2.2.2.2.1) d_Model_exchange_103 ?_
          refine r_istore_n (i := 2) d_Model_exchange_104 rfl (Nat.le_of_ble_eq_true rfl) rfl ?_
          dsimp only [List.set]
          refine r_aload_n (i := 0) d_Model_exchange_105 rfl rfl ?_
          refine r_iload_n (i := 2) d_Model_exchange_106 rfl rfl ?_
          refine r_V1 v_Model_sizeOf w_1040 lm_0 (CF_eq (c_Model_sizeOf hS2 hw (k := L) (by omega)) (show _ = some (Value.int (nI zl)) by rw [x5]) rfl) (Nat.le_of_ble_eq_true rfl) (Nat.le_of_ble_eq_true rfl) d_Model_exchange_107 ?_
          refine r_istore_n (i := 3) d_Model_exchange_110 rfl (Nat.le_of_ble_eq_true rfl) rfl ?_
          dsimp only [List.set]
          refine r_aload_n (i := 0) d_Model_exchange_111 rfl rfl ?_
          refine r_aload_n (i := 0) d_Model_exchange_112 rfl rfl ?_
          refine r_getr nf_Model_16 lm_0 rfl d_Model_exchange_113 ?_
          refine r_bipush 94 d_Model_exchange_116 bp_94 ?_
          refine r_iload_n (i := 1) d_Model_exchange_118 rfl rfl ?_
          refine r_iaddN (a := 94) (b := k) d_Model_exchange_119 rfl rfl ?_
          refine r_ia (q := (94 + k)) lm_3 rfl (by omega) (by decide) ((hS2.grt (j := k) (by omega)).trans sp.2.2.2.1) d_Model_exchange_120 ?_
          refine r_V1 v_Model_sizeOf w_1040 lm_0 (CF_eq (c_Model_sizeOf hS2 hw (k := k - 1) (by omega)) (show _ = some (Value.int (nI zr)) by rw [x6]) rfl) (Nat.le_of_ble_eq_true rfl) (Nat.le_of_ble_eq_true rfl) d_Model_exchange_121 ?_
          refine r_istore d_Model_exchange_124 (Nat.le_of_ble_eq_true rfl) rfl ?_
          dsimp only [List.set]
          refine r_iload_n (i := 2) d_Model_exchange_126 rfl rfl ?_
          refine r_iload_n (i := 3) d_Model_exchange_127 rfl rfl ?_
          refine r_isub d_Model_exchange_128 ?_
          refine r_iconst 1 d_Model_exchange_129 ic_1 ?_
          refine r_iadd d_Model_exchange_130 ?_
          refine r_nrm (show nI L - nI zl + 1 = nI f0 by rw [nI_sub1 (by omega)]; congr 1; omega) ?_
          refine r_istore d_Model_exchange_131 (Nat.le_of_ble_eq_true rfl) rfl ?_
          dsimp only [List.set]
          refine r_iconst 0 d_Model_exchange_133 ic_0 ?_
          refine r_istore d_Model_exchange_134 (Nat.le_of_ble_eq_true rfl) rfl ?_
          dsimp only [List.set]
          refine lx1_Model_exchange (M := N2) x1 (by omega) e4 (fun N3 g3 => ?_) zr 0 N2 (by omega) (XI.nil _ _ _ _)
          refine r_iconst 0 d_Model_exchange_164 ic_0 ?_
          refine r_istore d_Model_exchange_165 (Nat.le_of_ble_eq_true rfl) rfl ?_
          dsimp only [List.set]
          refine lx2_Model_exchange (M := N2) x1 (by omega) e4 (fun N4 g4 => ?_) zl 0 N3 (by omega) g3
          have hMs := g4.ms hS2 hn hk x1 x2 x3
          refine r_aload_n (i := 0) d_Model_exchange_196 rfl rfl ?_
          refine r_getr nf_Model_16 lm_0 rfl d_Model_exchange_197 ?_
          refine r_bipush 63 d_Model_exchange_200 bp_63 ?_
          refine r_iload_n (i := 1) d_Model_exchange_202 rfl rfl ?_
          refine r_iaddN (a := 63) (b := k) d_Model_exchange_203 rfl rfl ?_
          refine r_iload d_Model_exchange_204 rfl ?_
          refine r_iload d_Model_exchange_206 rfl ?_
          refine r_iaddN (a := f0) (b := zr) d_Model_exchange_208 rfl rfl ?_
          refine r_iconst 1 d_Model_exchange_209 ic_1 ?_
          refine r_isubN (a := (f0 + zr)) (b := 1) d_Model_exchange_210 rfl rfl (by omega) ?_
          refine r_ias (q := (63 + k)) lm_3 rfl (by omega) (by decide) d_Model_exchange_211 ?_
          refine r_aload_n (i := 0) d_Model_exchange_212 rfl rfl ?_
          refine r_getr nf_Model_16 lm_0 rfl d_Model_exchange_213 ?_
          refine r_bipush 94 d_Model_exchange_216 bp_94 ?_
          refine r_iload_n (i := 1) d_Model_exchange_218 rfl rfl ?_
          refine r_iaddN (a := 94) (b := k) d_Model_exchange_219 rfl rfl ?_
          refine r_iload_n (i := 1) d_Model_exchange_220 rfl rfl ?_
          refine r_iconst 1 d_Model_exchange_221 ic_1 ?_
          refine r_isubN (a := k) (b := 1) d_Model_exchange_222 rfl rfl (by omega) ?_
          refine r_ias (q := (94 + k)) lm_3 rfl (by omega) (by decide) d_Model_exchange_223 ?_
          obtain ⟨B, hB⟩ : ∃ B, B = ms N4 3 (upd (upd (N4 3) (63 + k) (nI (f0 + zr - 1))) (94 + k) (nI (k - 1))) := ⟨_, rfl⟩
          simp only [ms_same, ms_ms]
          rw [← hB]
          have hB3 : B 3 = upd (upd (N4 3) (63 + k) (nI (f0 + zr - 1))) (94 + k) (nI (k - 1)) := by rw [hB, ms_same]
          have hBo : ∀ e, e ≠ 3 → e ≠ 4 → B e = N1 e := fun e a1 a2 => by rw [hB, ms_ne _ _ a1, g4.1 e a1, g2.1 e a2]
          have hMB : MS n (xa f0 zl zr le) (xa f0 zl zr nu) (upd (xb f0 zl zr lf) k (nI (k - 1 - zl))) (upd (xb f0 zl zr rt) k (nI (k - 1))) nm mc (B 3) := by rw [hB3]; exact hMs
          have hP2 : MP len tx (B 3) (pushU s l) K ask trp B := by
            refine ⟨?_, fun i hi => ?_, fun _ _ => rfl, ?_, ?_, ?_, ?_, ?_⟩
            · rw [hBo 0 (by decide) (by decide)]; exact (h2 2 (by decide)).trans hP.1
            · rw [hBo 1 (by decide) (by decide)]; exact (congrFun (h1 1 (by decide) (by decide)) i).trans (hP.2.1 i hi)
            · rw [hBo 0 (by decide) (by decide)]; exact h3
            · rw [hBo 5 (by decide) (by decide)]; exact h4
            · exact hP.2.2.2.2.2.1.of ((hBo 6 (by decide) (by decide)).trans (h1 6 (by decide) (by decide))) ((hBo 7 (by decide) (by decide)).trans (h1 7 (by decide) (by decide)))
            · rw [hBo 0 (by decide) (by decide)]; exact (h2 12 (by decide)).trans hP.2.2.2.2.2.2.1
            · rw [hBo 0 (by decide) (by decide)]; exact (h2 13 (by decide)).trans hP.2.2.2.2.2.2.2
          refine r_aload_n (i := 0) d_Model_exchange_224 rfl rfl ?_
          refine r_W0 v_Model_rootCost w_1155 lm_0 (c_Model_rootCost hMB hw2 ht2 hmk hC2) (Nat.le_of_ble_eq_true rfl) (Nat.le_of_ble_eq_true rfl) d_Model_exchange_225 (fun v N5 hv => ?_)
          obtain ⟨rfl, hF⟩ := hv
          refine r_iret rfl d_Model_exchange_228 ?_
          refine ⟨rfl, B 3, hMB, ?_⟩
          have := hP2.mf hF
          rw [hP2.2.2.2.2.2.2.1, hP2.2.2.2.2.2.2.2] at this
          exact this
        · skip
          first
            | (have q := (bI_f _).mp h_26
               rw [hcm] at q
               exact absurd q (by decide))
            | (have q1 := (bI_t _).mp h_42
               have q2 := (bI_t _).mp h_58
               exact absurd hx (by unfold xOK; rw [eLk, q1, q2, Bool.and_self, Bool.not_true, Bool.and_false]; decide))
  · skip
    refine r_iconst (-1) d_Model_exchange_13 ic_m1 ?_
    refine r_iret rfl d_Model_exchange_14 ?_
    exact absurd h_10 (by rw [isN_nI hk (by omega)]; decide)

end MMx
