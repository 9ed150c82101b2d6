-- the model: run
section MMb
variable {G : nw_G} {n : Nat} {le nu lf rt nm : Nat → Int32} {z nd ld ak mc : Nat → Nat} {tp : Nat → Bool} {C : Nat → Nat → Nat} {Q : nP} {M : nw_M}
/-- a LINE that operates has an operator -/
def LOP (n : Nat) (lf : Nat → Int32) (x : Ln) : Prop := x.1 = 0 ∨ x.1 = 3 ∨ ∃ k, k < n ∧ x.2.2.1 = nI k ∧ lf k ≠ -9
theorem lop_all (hw : WF n le nu lf rt z) {Wy : Nat → Nat → Nat} (hQ : ∀ k b i c, k < n → Q k b i c = pX le nu lf rt z Wy Q k b i c) : ∀ k, k < n → ∀ b i c, ∀ x ∈ (Q k b i c).1, LOP n lf x := by
  intro k
  induction k using Nat.strongRecOn with
  | _ k ih =>
    intro hk b i c x hx
    have zb := hw.zb k hk
    rw [hQ k b i c hk] at hx
    unfold pX at hx
    by_cases hl : lf k = -9
    · rw [if_pos hl] at hx
      rw [List.mem_singleton] at hx
      subst hx
      exact Or.inl rfl
    · rw [if_neg hl] at hx
      have self : ∀ {y : Ln}, y.2.2.1 = nI k → LOP n lf y := fun e => Or.inr (Or.inr ⟨k, hk, e, hl⟩)
      by_cases hr : rt k = -9
      · rw [if_pos hr] at hx
        have s := hw.single hk hl hr
        rcases List.mem_append.mp hx with h | h
        · exact ih (k - 1) (by omega) (by omega) b i c x h
        · rw [List.mem_singleton] at h
          subst h
          exact self rfl
      · rw [if_neg hr] at hx
        have s := hw.pair hk hr
        have ihR := ih (k - 1) (by omega) (by omega)
        have ihL := ih (k - 1 - z (k - 1)) (by omega) (by omega)
        generalize k - 1 - z (k - 1) = l at *
        generalize k - 1 = r at *
        have kp : ∀ y, (∀ b i c, ∀ x ∈ (Q y b i c).1, LOP n lf x) → ∀ b i c, ∀ x ∈ kpL lf Q y b i c, LOP n lf x := by
          intro y hi2 b i c x hx
          unfold kpL at hx
          by_cases q : lf y = -9
          · rw [if_pos q] at hx; cases hx
          · rw [if_neg q] at hx
            rcases List.mem_append.mp hx with h | h
            · exact hi2 b i c x h
            · rw [List.mem_singleton] at h
              subst h
              exact Or.inr (Or.inl rfl)
        unfold pW at hx
        by_cases w1 : Wy k i = 1
        · rw [if_pos w1] at hx
          simp only [List.mem_append, List.mem_singleton] at hx
          rcases hx with (h | h) | rfl
          · exact ihL _ _ _ x h
          · exact ihR _ _ _ x h
          · exact self rfl
        rw [if_neg w1] at hx
        by_cases w2 : Wy k i = 2
        · rw [if_pos w2] at hx
          simp only [List.mem_append, List.mem_singleton] at hx
          rcases hx with (h | h) | rfl
          · exact ihR _ _ _ x h
          · exact ihL _ _ _ x h
          · exact self rfl
        rw [if_neg w2] at hx
        by_cases w3 : Wy k i = 3
        · rw [if_pos w3] at hx
          simp only [List.mem_append, List.mem_singleton] at hx
          rcases hx with (h | h) | rfl
          · exact kp r ihR _ _ _ x h
          · exact ihL _ _ _ x h
          · exact self rfl
        rw [if_neg w3] at hx
        by_cases w4 : Wy k i = 4
        · rw [if_pos w4] at hx
          simp only [List.mem_append, List.mem_singleton] at hx
          rcases hx with (h | h) | rfl
          · exact kp l ihL _ _ _ x h
          · exact ihR _ _ _ x h
          · exact self rfl
        rw [if_neg w4] at hx
        by_cases w5 : Wy k i = 5
        · rw [if_pos w5] at hx
          simp only [List.mem_append, List.mem_singleton] at hx
          rcases hx with ((h | h) | rfl) | rfl
          · exact kp l ihL _ _ _ x h
          · exact ihR _ _ _ x h
          · exact Or.inl rfl
          · exact self rfl
        rw [if_neg w5] at hx
        simp only [List.mem_append, List.mem_singleton] at hx
        rcases hx with ((h | h) | rfl) | rfl
        · exact kp l ihL _ _ _ x h
        · exact kp r ihR _ _ _ x h
        · exact Or.inl rfl
        · exact self rfl
def RAm (N : nw_M) (s : RS) : Prop := (∀ r, r < 6 → N 18 r = s.1 r) ∧ ∀ c, c < 31 → N 19 c = s.2 c
def RBm (B N : nw_M) : Prop := ∀ e, e ≠ 18 → e ≠ 19 → N e = B e
theorem RAm.reg {N : nw_M} {s : RS} {r : Nat} {x : Int32} (h : RAm N s) : RAm (ms N 18 (upd (N 18) r x)) (upd s.1 r x, s.2) := by
  refine ⟨fun q hq => ?_, fun c hc => by rw [ms_ne _ _ (by decide)]; exact h.2 c hc⟩
  rw [ms_same]
  dsimp only
  by_cases e : q = r
  · subst e; rw [upd_at, upd_at]
  · rw [upd_ne _ _ e, upd_ne _ _ e]; exact h.1 q hq
theorem RAm.cel {N : nw_M} {s : RS} {r : Nat} {x : Int32} (h : RAm N s) : RAm (ms N 19 (upd (N 19) r x)) (s.1, upd s.2 r x) := by
  refine ⟨fun c hc => by rw [ms_ne _ _ (by decide)]; exact h.1 c hc, fun q hq => ?_⟩
  rw [ms_same]
  dsimp only
  by_cases e : q = r
  · subst e; rw [upd_at, upd_at]
  · rw [upd_ne _ _ e, upd_ne _ _ e]; exact h.2 q hq
theorem RBm.reg {B N : nw_M} {f : Nat → Int32} (h : RBm B N) : RBm B (ms N 18 f) := fun e h1 h2 => by rw [ms_ne _ _ h1]; exact h e h1 h2
theorem RBm.cel {B N : nw_M} {f : Nat → Int32} (h : RBm B N) : RBm B (ms N 19 f) := fun e h1 h2 => by rw [ms_ne _ _ h2]; exact h e h1 h2
def HR (G : nw_G) (P : Option Value → nw_M → Prop) (nn m : Nat) (N : nw_M) : Prop := ∀ (o3 o4 o5 o6 o7 o8 o9 : Option Value), RJ G LM m_Model_run 6 P 87 [some (.ref (G.2.2 0)), some (.int (nI nn)), some (.int (nI m)), o3, o4, o5, o6, o7, o8, o9] [] N
variable {P : Option Value → nw_M → Prop} {nn m : Nat} {B N : nw_M} {s : RS} {ls : List Ln}
set_option maxHeartbeats 1000000 in
theorem rs0 {r k : Nat} {t f : Int32} (hS : MS n le nu lf rt nm mc (B 3)) (hn : n ≤ 31) (hB : RBm B N) (hls : lsIn (B 16) ls) (hm : m < nn) (hnn : nn ≤ 91) (hA : RAm N s) (hx : ls[m]? = some (0, nI r, nI k, t, f)) (hr : r < 6) (hs : sOK t f) (hk : ∀ N2, RBm B N2 → RAm N2 (upd s.1 r (rsrc nm s.2 t f), s.2) → HR G P nn (m + 1) N2) : HR G P nn m N := by
  have hSx : MS n le nu lf rt nm mc (N 3) := by rw [hB 3 (by decide) (by decide)]; exact hS
  have hl := hls m _ hx
  rw [← hB 16 (by decide) (by decide)] at hl
  intro o3 o4 o5 o6 o7 o8 o9
  refine r_iload_n (i := 2) d_Model_run_87 rfl rfl ?_
  refine r_iload_n (i := 1) d_Model_run_88 rfl rfl ?_
  refine r_icmp_ge 299 d_Model_run_89 (by decide) (fun h_89 => ?_) (fun h_89 => ?_)
  · skip
    exact absurd h_89 (nI_ge (by omega) (by omega))
  · skip
    refine r_aload_n (i := 0) d_Model_run_92 rfl rfl ?_
    refine r_getr nf_Model_56 lm_0 rfl d_Model_run_93 ?_
    refine r_iconst 5 d_Model_run_96 ic_5 ?_
    refine r_iload_n (i := 2) d_Model_run_97 rfl rfl ?_
    refine r_imulN (a := 5) (b := m) d_Model_run_98 rfl rfl ?_
    refine r_ia (q := (5 * m)) lm_16 rfl (by omega) (by decide) (hl.1) d_Model_run_99 ?_
    refine r_istore_n (i := 3) d_Model_run_100 rfl (Nat.le_of_ble_eq_true rfl) rfl ?_
    dsimp only [List.set]
    refine r_aload_n (i := 0) d_Model_run_101 rfl rfl ?_
    refine r_getr nf_Model_56 lm_0 rfl d_Model_run_102 ?_
    refine r_iconst 5 d_Model_run_105 ic_5 ?_
    refine r_iload_n (i := 2) d_Model_run_106 rfl rfl ?_
    refine r_imulN (a := 5) (b := m) d_Model_run_107 rfl rfl ?_
    refine r_iconst 1 d_Model_run_108 ic_1 ?_
    refine r_iaddN (a := (5 * m)) (b := 1) d_Model_run_109 rfl rfl ?_
    refine r_ia (q := ((5 * m) + 1)) lm_16 rfl (by omega) (by decide) (hl.2.1) d_Model_run_110 ?_
    refine r_istore d_Model_run_111 (Nat.le_of_ble_eq_true rfl) rfl ?_
    dsimp only [List.set]
    refine r_aload_n (i := 0) d_Model_run_113 rfl rfl ?_
    refine r_getr nf_Model_56 lm_0 rfl d_Model_run_114 ?_
    refine r_iconst 5 d_Model_run_117 ic_5 ?_
    refine r_iload_n (i := 2) d_Model_run_118 rfl rfl ?_
    refine r_imulN (a := 5) (b := m) d_Model_run_119 rfl rfl ?_
    refine r_iconst 2 d_Model_run_120 ic_2 ?_
    refine r_iaddN (a := (5 * m)) (b := 2) d_Model_run_121 rfl rfl ?_
    refine r_ia (q := ((5 * m) + 2)) lm_16 rfl (by omega) (by decide) (hl.2.2.1) d_Model_run_122 ?_
    refine r_istore d_Model_run_123 (Nat.le_of_ble_eq_true rfl) rfl ?_
    dsimp only [List.set]
    refine r_aload_n (i := 0) d_Model_run_125 rfl rfl ?_
    refine r_getr nf_Model_56 lm_0 rfl d_Model_run_126 ?_
    refine r_iconst 5 d_Model_run_129 ic_5 ?_
    refine r_iload_n (i := 2) d_Model_run_130 rfl rfl ?_
    refine r_imulN (a := 5) (b := m) d_Model_run_131 rfl rfl ?_
    refine r_iconst 3 d_Model_run_132 ic_3 ?_
    refine r_iaddN (a := (5 * m)) (b := 3) d_Model_run_133 rfl rfl ?_
    refine r_ia (q := ((5 * m) + 3)) lm_16 rfl (by omega) (by decide) (hl.2.2.2.1) d_Model_run_134 ?_
    refine r_istore d_Model_run_135 (Nat.le_of_ble_eq_true rfl) rfl ?_
    dsimp only [List.set]
    refine r_aload_n (i := 0) d_Model_run_137 rfl rfl ?_
    refine r_getr nf_Model_56 lm_0 rfl d_Model_run_138 ?_
    refine r_iconst 5 d_Model_run_141 ic_5 ?_
    refine r_iload_n (i := 2) d_Model_run_142 rfl rfl ?_
    refine r_imulN (a := 5) (b := m) d_Model_run_143 rfl rfl ?_
    refine r_iconst 4 d_Model_run_144 ic_4 ?_
    refine r_iaddN (a := (5 * m)) (b := 4) d_Model_run_145 rfl rfl ?_
    refine r_ia (q := ((5 * m) + 4)) lm_16 rfl (by omega) (by decide) (hl.2.2.2.2) d_Model_run_146 ?_
    refine r_istore d_Model_run_147 (Nat.le_of_ble_eq_true rfl) rfl ?_
    dsimp only [List.set]
    refine r_iload_n (i := 3) d_Model_run_149 rfl rfl ?_
    refine r_if_ne 171 d_Model_run_150 (by decide) (fun h_150 => ?_) (fun h_150 => ?_)
    · exact absurd h_150 (by decide)
    · skip
      refine r_aload_n (i := 0) d_Model_run_153 rfl rfl ?_
      refine r_getr nf_Model_62 lm_0 rfl d_Model_run_154 ?_
      refine r_iload d_Model_run_157 rfl ?_
      refine r_aload_n (i := 0) d_Model_run_159 rfl rfl ?_
      refine r_iload d_Model_run_160 rfl ?_
      refine r_iload d_Model_run_162 rfl ?_
      refine r_V2 v_Model_from w_1135 lm_0 (c_Model_from hSx hA.2 hs) (Nat.le_of_ble_eq_true rfl) (Nat.le_of_ble_eq_true rfl) d_Model_run_164 ?_
      refine r_ias (q := r) lm_18 rfl (by omega) (by decide) d_Model_run_167 ?_
      refine r_goto 293 d_Model_run_168 (by decide) ?_
      refine r_iinc d_Model_run_293 rfl (nI_inc _) (Nat.le_of_ble_eq_true rfl) rfl ?_
      dsimp only [List.set]
      refine r_goto 87 d_Model_run_296 (by decide) ?_
      exact hk _ hB.reg hA.reg _ _ _ _ _ _ _

set_option maxHeartbeats 1000000 in
theorem rs3 {r k c : Nat} {t : Int32} (hS : MS n le nu lf rt nm mc (B 3)) (hn : n ≤ 31) (hB : RBm B N) (hls : lsIn (B 16) ls) (hm : m < nn) (hnn : nn ≤ 91) (hA : RAm N s) (hx : ls[m]? = some (3, nI r, nI k, t, nI c)) (hr : r < 6) (hc : c < 31) (hk : ∀ N2, RBm B N2 → RAm N2 (s.1, upd s.2 c (s.1 r)) → HR G P nn (m + 1) N2) : HR G P nn m N := by
  have hSx : MS n le nu lf rt nm mc (N 3) := by rw [hB 3 (by decide) (by decide)]; exact hS
  have hl := hls m _ hx
  rw [← hB 16 (by decide) (by decide)] at hl
  intro o3 o4 o5 o6 o7 o8 o9
  refine r_iload_n (i := 2) d_Model_run_87 rfl rfl ?_
  refine r_iload_n (i := 1) d_Model_run_88 rfl rfl ?_
  refine r_icmp_ge 299 d_Model_run_89 (by decide) (fun h_89 => ?_) (fun h_89 => ?_)
  · skip
    exact absurd h_89 (nI_ge (by omega) (by omega))
  · skip
    refine r_aload_n (i := 0) d_Model_run_92 rfl rfl ?_
    refine r_getr nf_Model_56 lm_0 rfl d_Model_run_93 ?_
    refine r_iconst 5 d_Model_run_96 ic_5 ?_
    refine r_iload_n (i := 2) d_Model_run_97 rfl rfl ?_
    refine r_imulN (a := 5) (b := m) d_Model_run_98 rfl rfl ?_
    refine r_ia (q := (5 * m)) lm_16 rfl (by omega) (by decide) (hl.1) d_Model_run_99 ?_
    refine r_istore_n (i := 3) d_Model_run_100 rfl (Nat.le_of_ble_eq_true rfl) rfl ?_
    dsimp only [List.set]
    refine r_aload_n (i := 0) d_Model_run_101 rfl rfl ?_
    refine r_getr nf_Model_56 lm_0 rfl d_Model_run_102 ?_
    refine r_iconst 5 d_Model_run_105 ic_5 ?_
    refine r_iload_n (i := 2) d_Model_run_106 rfl rfl ?_
    refine r_imulN (a := 5) (b := m) d_Model_run_107 rfl rfl ?_
    refine r_iconst 1 d_Model_run_108 ic_1 ?_
    refine r_iaddN (a := (5 * m)) (b := 1) d_Model_run_109 rfl rfl ?_
    refine r_ia (q := ((5 * m) + 1)) lm_16 rfl (by omega) (by decide) (hl.2.1) d_Model_run_110 ?_
    refine r_istore d_Model_run_111 (Nat.le_of_ble_eq_true rfl) rfl ?_
    dsimp only [List.set]
    refine r_aload_n (i := 0) d_Model_run_113 rfl rfl ?_
    refine r_getr nf_Model_56 lm_0 rfl d_Model_run_114 ?_
    refine r_iconst 5 d_Model_run_117 ic_5 ?_
    refine r_iload_n (i := 2) d_Model_run_118 rfl rfl ?_
    refine r_imulN (a := 5) (b := m) d_Model_run_119 rfl rfl ?_
    refine r_iconst 2 d_Model_run_120 ic_2 ?_
    refine r_iaddN (a := (5 * m)) (b := 2) d_Model_run_121 rfl rfl ?_
    refine r_ia (q := ((5 * m) + 2)) lm_16 rfl (by omega) (by decide) (hl.2.2.1) d_Model_run_122 ?_
    refine r_istore d_Model_run_123 (Nat.le_of_ble_eq_true rfl) rfl ?_
    dsimp only [List.set]
    refine r_aload_n (i := 0) d_Model_run_125 rfl rfl ?_
    refine r_getr nf_Model_56 lm_0 rfl d_Model_run_126 ?_
    refine r_iconst 5 d_Model_run_129 ic_5 ?_
    refine r_iload_n (i := 2) d_Model_run_130 rfl rfl ?_
    refine r_imulN (a := 5) (b := m) d_Model_run_131 rfl rfl ?_
    refine r_iconst 3 d_Model_run_132 ic_3 ?_
    refine r_iaddN (a := (5 * m)) (b := 3) d_Model_run_133 rfl rfl ?_
    refine r_ia (q := ((5 * m) + 3)) lm_16 rfl (by omega) (by decide) (hl.2.2.2.1) d_Model_run_134 ?_
    refine r_istore d_Model_run_135 (Nat.le_of_ble_eq_true rfl) rfl ?_
    dsimp only [List.set]
    refine r_aload_n (i := 0) d_Model_run_137 rfl rfl ?_
    refine r_getr nf_Model_56 lm_0 rfl d_Model_run_138 ?_
    refine r_iconst 5 d_Model_run_141 ic_5 ?_
    refine r_iload_n (i := 2) d_Model_run_142 rfl rfl ?_
    refine r_imulN (a := 5) (b := m) d_Model_run_143 rfl rfl ?_
    refine r_iconst 4 d_Model_run_144 ic_4 ?_
    refine r_iaddN (a := (5 * m)) (b := 4) d_Model_run_145 rfl rfl ?_
    refine r_ia (q := ((5 * m) + 4)) lm_16 rfl (by omega) (by decide) (hl.2.2.2.2) d_Model_run_146 ?_
    refine r_istore d_Model_run_147 (Nat.le_of_ble_eq_true rfl) rfl ?_
    dsimp only [List.set]
    refine r_iload_n (i := 3) d_Model_run_149 rfl rfl ?_
    refine r_if_ne 171 d_Model_run_150 (by decide) (fun h_150 => ?_) (fun h_150 => ?_)
    · skip
      refine r_iload_n (i := 3) d_Model_run_171 rfl rfl ?_
      refine r_iconst 3 d_Model_run_172 ic_3 ?_
      refine r_icmp_ne 193 d_Model_run_173 (by decide) (fun h_173 => ?_) (fun h_173 => ?_)
      · exact absurd h_173 (by decide)
      · skip
        refine r_aload_n (i := 0) d_Model_run_176 rfl rfl ?_
        refine r_getr nf_Model_65 lm_0 rfl d_Model_run_177 ?_
        refine r_iload d_Model_run_180 rfl ?_
        refine r_aload_n (i := 0) d_Model_run_182 rfl rfl ?_
        refine r_getr nf_Model_62 lm_0 rfl d_Model_run_183 ?_
        refine r_iload d_Model_run_186 rfl ?_
        refine r_ia (q := r) lm_18 rfl (by omega) (by decide) (hA.1 r hr) d_Model_run_188 ?_
        refine r_ias (q := c) lm_19 rfl (by omega) (by decide) d_Model_run_189 ?_
        refine r_goto 293 d_Model_run_190 (by decide) ?_
        refine r_iinc d_Model_run_293 rfl (nI_inc _) (Nat.le_of_ble_eq_true rfl) rfl ?_
        dsimp only [List.set]
        refine r_goto 87 d_Model_run_296 (by decide) ?_
        exact hk _ hB.cel hA.cel _ _ _ _ _ _ _
    · exact absurd h_150 (by decide)

set_option maxHeartbeats 1000000 in
theorem rs1 {r k a b : Nat} (hS : MS n le nu lf rt nm mc (B 3)) (hn : n ≤ 31) (hB : RBm B N) (hls : lsIn (B 16) ls) (hm : m < nn) (hnn : nn ≤ 91) (hA : RAm N s) (hx : ls[m]? = some (1, nI r, nI k, nI a, nI b)) (hr : r < 6) (hk0 : k < n) (hop : o_op (le k) = true) (ha : a < 6) (hb : b < 6) (hT : o_tb (le k) (s.1 a) (s.1 b) = true → ∀ N2, (∀ e, e ≠ 0 → e ≠ 18 → e ≠ 19 → N2 e = B e) → (∀ j, j ≠ 13 → N2 0 j = B 0 j) → N2 0 13 = nI k → P (some (.int (-4))) N2) (hk : o_tb (le k) (s.1 a) (s.1 b) = false → ∀ N2, RBm B N2 → RAm N2 (upd s.1 r (o_out (le k) (s.1 a) (s.1 b)), s.2) → HR G P nn (m + 1) N2) : HR G P nn m N := by
  have hSx : MS n le nu lf rt nm mc (N 3) := by rw [hB 3 (by decide) (by decide)]; exact hS
  have hl := hls m _ hx
  rw [← hB 16 (by decide) (by decide)] at hl
  intro o3 o4 o5 o6 o7 o8 o9
  refine r_iload_n (i := 2) d_Model_run_87 rfl rfl ?_
  refine r_iload_n (i := 1) d_Model_run_88 rfl rfl ?_
  refine r_icmp_ge 299 d_Model_run_89 (by decide) (fun h_89 => ?_) (fun h_89 => ?_)
  · skip
    exact absurd h_89 (nI_ge (by omega) (by omega))
  · skip
    refine r_aload_n (i := 0) d_Model_run_92 rfl rfl ?_
    refine r_getr nf_Model_56 lm_0 rfl d_Model_run_93 ?_
    refine r_iconst 5 d_Model_run_96 ic_5 ?_
    refine r_iload_n (i := 2) d_Model_run_97 rfl rfl ?_
    refine r_imulN (a := 5) (b := m) d_Model_run_98 rfl rfl ?_
    refine r_ia (q := (5 * m)) lm_16 rfl (by omega) (by decide) (hl.1) d_Model_run_99 ?_
    refine r_istore_n (i := 3) d_Model_run_100 rfl (Nat.le_of_ble_eq_true rfl) rfl ?_
    dsimp only [List.set]
    refine r_aload_n (i := 0) d_Model_run_101 rfl rfl ?_
    refine r_getr nf_Model_56 lm_0 rfl d_Model_run_102 ?_
    refine r_iconst 5 d_Model_run_105 ic_5 ?_
    refine r_iload_n (i := 2) d_Model_run_106 rfl rfl ?_
    refine r_imulN (a := 5) (b := m) d_Model_run_107 rfl rfl ?_
    refine r_iconst 1 d_Model_run_108 ic_1 ?_
    refine r_iaddN (a := (5 * m)) (b := 1) d_Model_run_109 rfl rfl ?_
    refine r_ia (q := ((5 * m) + 1)) lm_16 rfl (by omega) (by decide) (hl.2.1) d_Model_run_110 ?_
    refine r_istore d_Model_run_111 (Nat.le_of_ble_eq_true rfl) rfl ?_
    dsimp only [List.set]
    refine r_aload_n (i := 0) d_Model_run_113 rfl rfl ?_
    refine r_getr nf_Model_56 lm_0 rfl d_Model_run_114 ?_
    refine r_iconst 5 d_Model_run_117 ic_5 ?_
    refine r_iload_n (i := 2) d_Model_run_118 rfl rfl ?_
    refine r_imulN (a := 5) (b := m) d_Model_run_119 rfl rfl ?_
    refine r_iconst 2 d_Model_run_120 ic_2 ?_
    refine r_iaddN (a := (5 * m)) (b := 2) d_Model_run_121 rfl rfl ?_
    refine r_ia (q := ((5 * m) + 2)) lm_16 rfl (by omega) (by decide) (hl.2.2.1) d_Model_run_122 ?_
    refine r_istore d_Model_run_123 (Nat.le_of_ble_eq_true rfl) rfl ?_
    dsimp only [List.set]
    refine r_aload_n (i := 0) d_Model_run_125 rfl rfl ?_
    refine r_getr nf_Model_56 lm_0 rfl d_Model_run_126 ?_
    refine r_iconst 5 d_Model_run_129 ic_5 ?_
    refine r_iload_n (i := 2) d_Model_run_130 rfl rfl ?_
    refine r_imulN (a := 5) (b := m) d_Model_run_131 rfl rfl ?_
    refine r_iconst 3 d_Model_run_132 ic_3 ?_
    refine r_iaddN (a := (5 * m)) (b := 3) d_Model_run_133 rfl rfl ?_
    refine r_ia (q := ((5 * m) + 3)) lm_16 rfl (by omega) (by decide) (hl.2.2.2.1) d_Model_run_134 ?_
    refine r_istore d_Model_run_135 (Nat.le_of_ble_eq_true rfl) rfl ?_
    dsimp only [List.set]
    refine r_aload_n (i := 0) d_Model_run_137 rfl rfl ?_
    refine r_getr nf_Model_56 lm_0 rfl d_Model_run_138 ?_
    refine r_iconst 5 d_Model_run_141 ic_5 ?_
    refine r_iload_n (i := 2) d_Model_run_142 rfl rfl ?_
    refine r_imulN (a := 5) (b := m) d_Model_run_143 rfl rfl ?_
    refine r_iconst 4 d_Model_run_144 ic_4 ?_
    refine r_iaddN (a := (5 * m)) (b := 4) d_Model_run_145 rfl rfl ?_
    refine r_ia (q := ((5 * m) + 4)) lm_16 rfl (by omega) (by decide) (hl.2.2.2.2) d_Model_run_146 ?_
    refine r_istore d_Model_run_147 (Nat.le_of_ble_eq_true rfl) rfl ?_
    dsimp only [List.set]
    refine r_iload_n (i := 3) d_Model_run_149 rfl rfl ?_
    refine r_if_ne 171 d_Model_run_150 (by decide) (fun h_150 => ?_) (fun h_150 => ?_)
    · skip
      refine r_iload_n (i := 3) d_Model_run_171 rfl rfl ?_
      refine r_iconst 3 d_Model_run_172 ic_3 ?_
      refine r_icmp_ne 193 d_Model_run_173 (by decide) (fun h_173 => ?_) (fun h_173 => ?_)
      · skip
        refine r_iload_n (i := 3) d_Model_run_193 rfl rfl ?_
        refine r_iconst 1 d_Model_run_194 ic_1 ?_
        refine r_icmp_ne 208 d_Model_run_195 (by decide) (fun h_195 => ?_) (fun h_195 => ?_)
        · exact absurd h_195 (by decide)
        · skip
          refine r_aload_n (i := 0) d_Model_run_198 rfl rfl ?_
          refine r_getr nf_Model_62 lm_0 rfl d_Model_run_199 ?_
          refine r_iload d_Model_run_202 rfl ?_
          refine r_ia (q := a) lm_18 rfl (by omega) (by decide) (hA.1 a ha) d_Model_run_204 ?_
          refine r_goto 215 d_Model_run_205 (by decide) ?_
          refine r_istore d_Model_run_215 (Nat.le_of_ble_eq_true rfl) rfl ?_
          dsimp only [List.set]
          refine r_iload_n (i := 3) d_Model_run_217 rfl rfl ?_
          refine r_iconst 1 d_Model_run_218 ic_1 ?_
          refine r_icmp_ne 232 d_Model_run_219 (by decide) (fun h_219 => ?_) (fun h_219 => ?_)
          · exact absurd h_219 (by decide)
          · skip
            refine r_aload_n (i := 0) d_Model_run_222 rfl rfl ?_
            refine r_getr nf_Model_62 lm_0 rfl d_Model_run_223 ?_
            refine r_iload d_Model_run_226 rfl ?_
            refine r_ia (q := b) lm_18 rfl (by omega) (by decide) (hA.1 b hb) d_Model_run_228 ?_
            refine r_goto 240 d_Model_run_229 (by decide) ?_
            refine r_istore d_Model_run_240 (Nat.le_of_ble_eq_true rfl) rfl ?_
            dsimp only [List.set]
            refine r_aload_n (i := 0) d_Model_run_242 rfl rfl ?_
            refine r_getr nf_Model_16 lm_0 rfl d_Model_run_243 ?_
            refine r_iconst 1 d_Model_run_246 ic_1 ?_
            refine r_iload d_Model_run_247 rfl ?_
            refine r_iaddN (a := 1) (b := k) d_Model_run_249 rfl rfl ?_
            refine r_ia (q := (1 + k)) lm_3 rfl (by omega) (by decide) ((hSx.gle (j := k) (by omega))) d_Model_run_250 ?_
            refine r_iload d_Model_run_251 rfl ?_
            refine r_iload d_Model_run_253 rfl ?_
            refine r_S3 f_Model_traps w_1060 (c_Model_traps _ _ _ _) (Nat.le_of_ble_eq_true rfl) (Nat.le_of_ble_eq_true rfl) d_Model_run_255 ?_
            refine r_if_eq 270 d_Model_run_258 (by decide) (fun h_258 => ?_) (fun h_258 => ?_)
            · skip
              refine r_aload_n (i := 0) d_Model_run_270 rfl rfl ?_
              refine r_getr nf_Model_62 lm_0 rfl d_Model_run_271 ?_
              refine r_iload d_Model_run_274 rfl ?_
              refine r_aload_n (i := 0) d_Model_run_276 rfl rfl ?_
              refine r_getr nf_Model_16 lm_0 rfl d_Model_run_277 ?_
              refine r_iconst 1 d_Model_run_280 ic_1 ?_
              refine r_iload d_Model_run_281 rfl ?_
              refine r_iaddN (a := 1) (b := k) d_Model_run_283 rfl rfl ?_
              refine r_ia (q := (1 + k)) lm_3 rfl (by omega) (by decide) ((hSx.gle (j := k) (by omega))) d_Model_run_284 ?_
              refine r_iload d_Model_run_285 rfl ?_
              refine r_iload d_Model_run_287 rfl ?_
              refine r_S3 f_Model_makesOf w_1063 (c_Model_makesOf _ _ _ _ hop ((bI_f _).mp h_258)) (Nat.le_of_ble_eq_true rfl) (Nat.le_of_ble_eq_true rfl) d_Model_run_289 ?_
              refine r_ias (q := r) lm_18 rfl (by omega) (by decide) d_Model_run_292 ?_
              refine r_iinc d_Model_run_293 rfl (nI_inc _) (Nat.le_of_ble_eq_true rfl) rfl ?_
              dsimp only [List.set]
              refine r_goto 87 d_Model_run_296 (by decide) ?_
              exact hk ((bI_f _).mp h_258) _ hB.reg hA.reg _ _ _ _ _ _ _
            · skip
              refine r_aload_n (i := 0) d_Model_run_261 rfl rfl ?_
              refine r_iload d_Model_run_262 rfl ?_
              refine r_puti nf_Model_71 nfin_Model_13 lm_0 rfl d_Model_run_264 ?_
              refine r_bipush (-4) d_Model_run_267 bp_m4 ?_
              refine r_iret rfl d_Model_run_269 ?_
              refine hT ((bI_t _).mp h_258) _ (fun e e0 e1 e2 => ?_) (fun j hj => ?_) ?_
              · rw [ms_ne _ _ e0]; exact hB e e1 e2
              · rw [ms_same, upd_ne _ _ hj]; exact congrFun (hB 0 (by decide) (by decide)) j
              · rw [ms_same, upd_at]
      · exact absurd h_173 (by decide)
    · exact absurd h_150 (by decide)

set_option maxHeartbeats 1000000 in
theorem rs2 {r k : Nat} {t f : Int32} (hS : MS n le nu lf rt nm mc (B 3)) (hn : n ≤ 31) (hB : RBm B N) (hls : lsIn (B 16) ls) (hm : m < nn) (hnn : nn ≤ 91) (hA : RAm N s) (hx : ls[m]? = some (2, nI r, nI k, t, f)) (hr : r < 6) (hk0 : k < n) (hop : o_op (le k) = true) (hs : sOK t f) (hT : o_tb (le k) (s.1 r) (rsrc nm s.2 t f) = true → ∀ N2, (∀ e, e ≠ 0 → e ≠ 18 → e ≠ 19 → N2 e = B e) → (∀ j, j ≠ 13 → N2 0 j = B 0 j) → N2 0 13 = nI k → P (some (.int (-4))) N2) (hk : o_tb (le k) (s.1 r) (rsrc nm s.2 t f) = false → ∀ N2, RBm B N2 → RAm N2 (upd s.1 r (o_out (le k) (s.1 r) (rsrc nm s.2 t f)), s.2) → HR G P nn (m + 1) N2) : HR G P nn m N := by
  have hSx : MS n le nu lf rt nm mc (N 3) := by rw [hB 3 (by decide) (by decide)]; exact hS
  have hl := hls m _ hx
  rw [← hB 16 (by decide) (by decide)] at hl
  intro o3 o4 o5 o6 o7 o8 o9
  refine r_iload_n (i := 2) d_Model_run_87 rfl rfl ?_
  refine r_iload_n (i := 1) d_Model_run_88 rfl rfl ?_
  refine r_icmp_ge 299 d_Model_run_89 (by decide) (fun h_89 => ?_) (fun h_89 => ?_)
  · skip
    exact absurd h_89 (nI_ge (by omega) (by omega))
  · skip
    refine r_aload_n (i := 0) d_Model_run_92 rfl rfl ?_
    refine r_getr nf_Model_56 lm_0 rfl d_Model_run_93 ?_
    refine r_iconst 5 d_Model_run_96 ic_5 ?_
    refine r_iload_n (i := 2) d_Model_run_97 rfl rfl ?_
    refine r_imulN (a := 5) (b := m) d_Model_run_98 rfl rfl ?_
    refine r_ia (q := (5 * m)) lm_16 rfl (by omega) (by decide) (hl.1) d_Model_run_99 ?_
    refine r_istore_n (i := 3) d_Model_run_100 rfl (Nat.le_of_ble_eq_true rfl) rfl ?_
    dsimp only [List.set]
    refine r_aload_n (i := 0) d_Model_run_101 rfl rfl ?_
    refine r_getr nf_Model_56 lm_0 rfl d_Model_run_102 ?_
    refine r_iconst 5 d_Model_run_105 ic_5 ?_
    refine r_iload_n (i := 2) d_Model_run_106 rfl rfl ?_
    refine r_imulN (a := 5) (b := m) d_Model_run_107 rfl rfl ?_
    refine r_iconst 1 d_Model_run_108 ic_1 ?_
    refine r_iaddN (a := (5 * m)) (b := 1) d_Model_run_109 rfl rfl ?_
    refine r_ia (q := ((5 * m) + 1)) lm_16 rfl (by omega) (by decide) (hl.2.1) d_Model_run_110 ?_
    refine r_istore d_Model_run_111 (Nat.le_of_ble_eq_true rfl) rfl ?_
    dsimp only [List.set]
    refine r_aload_n (i := 0) d_Model_run_113 rfl rfl ?_
    refine r_getr nf_Model_56 lm_0 rfl d_Model_run_114 ?_
    refine r_iconst 5 d_Model_run_117 ic_5 ?_
    refine r_iload_n (i := 2) d_Model_run_118 rfl rfl ?_
    refine r_imulN (a := 5) (b := m) d_Model_run_119 rfl rfl ?_
    refine r_iconst 2 d_Model_run_120 ic_2 ?_
    refine r_iaddN (a := (5 * m)) (b := 2) d_Model_run_121 rfl rfl ?_
    refine r_ia (q := ((5 * m) + 2)) lm_16 rfl (by omega) (by decide) (hl.2.2.1) d_Model_run_122 ?_
    refine r_istore d_Model_run_123 (Nat.le_of_ble_eq_true rfl) rfl ?_
    dsimp only [List.set]
    refine r_aload_n (i := 0) d_Model_run_125 rfl rfl ?_
    refine r_getr nf_Model_56 lm_0 rfl d_Model_run_126 ?_
    refine r_iconst 5 d_Model_run_129 ic_5 ?_
    refine r_iload_n (i := 2) d_Model_run_130 rfl rfl ?_
    refine r_imulN (a := 5) (b := m) d_Model_run_131 rfl rfl ?_
    refine r_iconst 3 d_Model_run_132 ic_3 ?_
    refine r_iaddN (a := (5 * m)) (b := 3) d_Model_run_133 rfl rfl ?_
    refine r_ia (q := ((5 * m) + 3)) lm_16 rfl (by omega) (by decide) (hl.2.2.2.1) d_Model_run_134 ?_
    refine r_istore d_Model_run_135 (Nat.le_of_ble_eq_true rfl) rfl ?_
    dsimp only [List.set]
    refine r_aload_n (i := 0) d_Model_run_137 rfl rfl ?_
    refine r_getr nf_Model_56 lm_0 rfl d_Model_run_138 ?_
    refine r_iconst 5 d_Model_run_141 ic_5 ?_
    refine r_iload_n (i := 2) d_Model_run_142 rfl rfl ?_
    refine r_imulN (a := 5) (b := m) d_Model_run_143 rfl rfl ?_
    refine r_iconst 4 d_Model_run_144 ic_4 ?_
    refine r_iaddN (a := (5 * m)) (b := 4) d_Model_run_145 rfl rfl ?_
    refine r_ia (q := ((5 * m) + 4)) lm_16 rfl (by omega) (by decide) (hl.2.2.2.2) d_Model_run_146 ?_
    refine r_istore d_Model_run_147 (Nat.le_of_ble_eq_true rfl) rfl ?_
    dsimp only [List.set]
    refine r_iload_n (i := 3) d_Model_run_149 rfl rfl ?_
    refine r_if_ne 171 d_Model_run_150 (by decide) (fun h_150 => ?_) (fun h_150 => ?_)
    · skip
      refine r_iload_n (i := 3) d_Model_run_171 rfl rfl ?_
      refine r_iconst 3 d_Model_run_172 ic_3 ?_
      refine r_icmp_ne 193 d_Model_run_173 (by decide) (fun h_173 => ?_) (fun h_173 => ?_)
      · skip
        refine r_iload_n (i := 3) d_Model_run_193 rfl rfl ?_
        refine r_iconst 1 d_Model_run_194 ic_1 ?_
        refine r_icmp_ne 208 d_Model_run_195 (by decide) (fun h_195 => ?_) (fun h_195 => ?_)
        · skip
          refine r_aload_n (i := 0) d_Model_run_208 rfl rfl ?_
          refine r_getr nf_Model_62 lm_0 rfl d_Model_run_209 ?_
          refine r_iload d_Model_run_212 rfl ?_
          refine r_ia (q := r) lm_18 rfl (by omega) (by decide) (hA.1 r hr) d_Model_run_214 ?_
          refine r_istore d_Model_run_215 (Nat.le_of_ble_eq_true rfl) rfl ?_
          dsimp only [List.set]
          refine r_iload_n (i := 3) d_Model_run_217 rfl rfl ?_
          refine r_iconst 1 d_Model_run_218 ic_1 ?_
          refine r_icmp_ne 232 d_Model_run_219 (by decide) (fun h_219 => ?_) (fun h_219 => ?_)
          · skip
            refine r_aload_n (i := 0) d_Model_run_232 rfl rfl ?_
            refine r_iload d_Model_run_233 rfl ?_
            refine r_iload d_Model_run_235 rfl ?_
            refine r_V2 v_Model_from w_1135 lm_0 (c_Model_from hSx hA.2 hs) (Nat.le_of_ble_eq_true rfl) (Nat.le_of_ble_eq_true rfl) d_Model_run_237 ?_
            refine r_istore d_Model_run_240 (Nat.le_of_ble_eq_true rfl) rfl ?_
            dsimp only [List.set]
            refine r_aload_n (i := 0) d_Model_run_242 rfl rfl ?_
            refine r_getr nf_Model_16 lm_0 rfl d_Model_run_243 ?_
            refine r_iconst 1 d_Model_run_246 ic_1 ?_
            refine r_iload d_Model_run_247 rfl ?_
            refine r_iaddN (a := 1) (b := k) d_Model_run_249 rfl rfl ?_
            refine r_ia (q := (1 + k)) lm_3 rfl (by omega) (by decide) ((hSx.gle (j := k) (by omega))) d_Model_run_250 ?_
            refine r_iload d_Model_run_251 rfl ?_
            refine r_iload d_Model_run_253 rfl ?_
            refine r_S3 f_Model_traps w_1060 (c_Model_traps _ _ _ _) (Nat.le_of_ble_eq_true rfl) (Nat.le_of_ble_eq_true rfl) d_Model_run_255 ?_
            refine r_if_eq 270 d_Model_run_258 (by decide) (fun h_258 => ?_) (fun h_258 => ?_)
            · skip
              refine r_aload_n (i := 0) d_Model_run_270 rfl rfl ?_
              refine r_getr nf_Model_62 lm_0 rfl d_Model_run_271 ?_
              refine r_iload d_Model_run_274 rfl ?_
              refine r_aload_n (i := 0) d_Model_run_276 rfl rfl ?_
              refine r_getr nf_Model_16 lm_0 rfl d_Model_run_277 ?_
              refine r_iconst 1 d_Model_run_280 ic_1 ?_
              refine r_iload d_Model_run_281 rfl ?_
              refine r_iaddN (a := 1) (b := k) d_Model_run_283 rfl rfl ?_
              refine r_ia (q := (1 + k)) lm_3 rfl (by omega) (by decide) ((hSx.gle (j := k) (by omega))) d_Model_run_284 ?_
              refine r_iload d_Model_run_285 rfl ?_
              refine r_iload d_Model_run_287 rfl ?_
              refine r_S3 f_Model_makesOf w_1063 (c_Model_makesOf _ _ _ _ hop ((bI_f _).mp h_258)) (Nat.le_of_ble_eq_true rfl) (Nat.le_of_ble_eq_true rfl) d_Model_run_289 ?_
              refine r_ias (q := r) lm_18 rfl (by omega) (by decide) d_Model_run_292 ?_
              refine r_iinc d_Model_run_293 rfl (nI_inc _) (Nat.le_of_ble_eq_true rfl) rfl ?_
              dsimp only [List.set]
              refine r_goto 87 d_Model_run_296 (by decide) ?_
              exact hk ((bI_f _).mp h_258) _ hB.reg hA.reg _ _ _ _ _ _ _
            · skip
              refine r_aload_n (i := 0) d_Model_run_261 rfl rfl ?_
              refine r_iload d_Model_run_262 rfl ?_
              refine r_puti nf_Model_71 nfin_Model_13 lm_0 rfl d_Model_run_264 ?_
              refine r_bipush (-4) d_Model_run_267 bp_m4 ?_
              refine r_iret rfl d_Model_run_269 ?_
              refine hT ((bI_t _).mp h_258) _ (fun e e0 e1 e2 => ?_) (fun j hj => ?_) ?_
              · rw [ms_ne _ _ e0]; exact hB e e1 e2
              · rw [ms_same, upd_ne _ _ hj]; exact congrFun (hB 0 (by decide) (by decide)) j
              · rw [ms_same, upd_at]
          · exact absurd h_219 (by decide)
        · exact absurd h_195 (by decide)
      · exact absurd h_173 (by decide)
    · exact absurd h_150 (by decide)

/-- what run leaves -/
def RNP (le nm : Nat → Int32) (ls : List Ln) (nn : Nat) (B N : nw_M) (v : Option Value) : Prop := (∀ e, e ≠ 0 → e ≠ 18 → e ≠ 19 → N e = B e) ∧ (∀ j, j ≠ 12 → j ≠ 13 → N 0 j = B 0 j) ∧ ((∃ s, rns le nm ls (fun _ => 0, fun _ => 0) nn = .inl s ∧ v = some (.int 1) ∧ N 0 12 = s.1 0 ∧ N 0 13 = B 0 13) ∨ ∃ t, rns le nm ls (fun _ => 0, fun _ => 0) nn = .inr t ∧ v = some (.int (-4)) ∧ N 0 12 = B 0 12 ∧ N 0 13 = t)
set_option maxHeartbeats 1000000 in
theorem run_all (hS : MS n le nu lf rt nm mc (B 3)) (hw : WF n le nu lf rt z) (hls : lsIn (B 16) ls) (hnn : nn ≤ ls.length) (hl91 : ls.length ≤ 91) (hok : ∀ x ∈ ls, LOK n x) (hop : ∀ x ∈ ls, LOP n lf x) (hP : ∀ v N, RNP le nm ls nn B N v → P v N) : ∀ (d m : Nat) (N : nw_M) (s : RS), m + d = nn → RBm B N → RAm N s → rns le nm ls (fun _ => 0, fun _ => 0) m = .inl s → HR G P nn m N := by
  have hn := hw.1
  intro d
  induction d with
  | zero =>
    intro m N s hd hB hA hr
    simp only [Nat.add_zero] at hd
    subst hd
    intro o3 o4 o5 o6 o7 o8 o9
    refine r_iload_n (i := 2) d_Model_run_87 rfl rfl ?_
    refine r_iload_n (i := 1) d_Model_run_88 rfl rfl ?_
    refine r_icmp_ge 299 d_Model_run_89 (by decide) (fun _ => ?_) (fun h9 => absurd (nI_le (Nat.le_refl _) (by omega)) h9)
    refine r_aload_n (i := 0) d_Model_run_299 rfl rfl ?_
    refine r_aload_n (i := 0) d_Model_run_300 rfl rfl ?_
    refine r_getr nf_Model_62 lm_0 rfl d_Model_run_301 ?_
    refine r_iconst 0 d_Model_run_304 ic_0 ?_
    refine r_ia (q := 0) lm_18 rfl (by omega) (by decide) (hA.1 0 (by omega)) d_Model_run_305 ?_
    refine r_puti nf_Model_194 nfin_Model_12 lm_0 rfl d_Model_run_306 ?_
    refine r_iconst 1 d_Model_run_309 ic_1 ?_
    refine r_iret rfl d_Model_run_310 ?_
    refine hP _ _ ⟨fun e e0 e1 e2 => by rw [ms_ne _ _ e0]; exact hB e e1 e2, fun j j1 j2 => by rw [ms_same, upd_ne _ _ j1]; exact congrFun (hB 0 (by decide) (by decide)) j, Or.inl ⟨s, hr, rfl, by rw [ms_same, upd_at], ?_⟩⟩
    rw [ms_same, upd_ne _ _ (by decide)]; exact congrFun (hB 0 (by decide) (by decide)) 13
  | succ d ih =>
    intro m N s hd hB hA hr
    have hmm : m < nn := by omega
    obtain ⟨x, hx⟩ : ∃ x, ls[m]? = some x := ⟨_, List.getElem?_eq_getElem (by omega)⟩
    have hmem := List.mem_of_getElem? hx
    have trap : ∀ {k : Nat}, rst le nm s x = none → x.2.2.1 = nI k → ∀ N2, (∀ e, e ≠ 0 → e ≠ 18 → e ≠ 19 → N2 e = B e) → (∀ j, j ≠ 13 → N2 0 j = B 0 j) → N2 0 13 = nI k → P (some (.int (-4))) N2 := by
      intro k h1 hk N2 a1 a2 a3
      refine hP _ _ ⟨a1, fun j j1 j2 => a2 j j2, Or.inr ⟨nI k, ?_, rfl, a2 12 (by decide), a3⟩⟩
      have := rns_stuck (le := le) (nm := nm) (ls := ls) (s0 := (fun _ => 0, fun _ => 0)) (m := m + 1) (t := nI k) (by simp only [rns, hr, hx, h1, hk]) d
      rwa [show m + 1 + d = nn by omega] at this
    have go : ∀ {s2 : RS}, rst le nm s x = some s2 → rns le nm ls (fun _ => 0, fun _ => 0) (m + 1) = .inl s2 := by
      intro s2 h1
      simp only [rns, hr, hx, h1]
    obtain ⟨x0, x1, x2, x3, x4⟩ := x
    obtain ⟨⟨r, hr6, e1⟩, ⟨k, hk, e2⟩, hh⟩ := hok _ hmem
    simp only at e1 e2
    subst e1; subst e2
    have cr : (nI r).toNatClampNeg = r := nI_clamp (by omega)
    have ck : (nI k).toNatClampNeg = k := nI_clamp (by omega)
    have hopk : x0 ≠ 0 → x0 ≠ 3 → o_op (le k) = true := by
      intro q1 q2
      rcases hop _ hmem with h | h | ⟨k2, hk2, h, h2⟩
      · exact absurd h q1
      · exact absurd h q2
      · have := (nI_eq (by omega) (by omega)).mp h
        subst this
        rw [o_op_lf hw hk2]; exact decide_eq_true h2
    rcases hh with ⟨e0, hs⟩ | ⟨e0, ⟨a, ha, e3⟩, b, hb, e4⟩ | ⟨e0, hs⟩ | ⟨e0, c, hc, e4⟩
    · simp only at e0
      subst e0
      refine rs0 hS hn hB hls hmm (by omega) hA hx hr6 hs (fun N2 b1 b2 => ih (m + 1) N2 _ (by omega) b1 b2 (go ?_))
      unfold rst
      simp only [if_true, cr]
    · simp only at e0 e3 e4
      subst e0; subst e3; subst e4
      have ca : (nI a).toNatClampNeg = a := nI_clamp (by omega)
      have cb : (nI b).toNatClampNeg = b := nI_clamp (by omega)
      have ex : rst le nm s (1, nI r, nI k, nI a, nI b) = if o_tb (le k) (s.1 a) (s.1 b) then none else some (upd s.1 r (o_out (le k) (s.1 a) (s.1 b)), s.2) := by
        unfold rst rl rr
        simp only [cr, ck, ca, cb]
        rfl
      refine rs1 hS hn hB hls hmm (by omega) hA hx hr6 hk (hopk (by decide) (by decide)) ha hb (fun ht => trap (by rw [ex, if_pos ht]) rfl) (fun ht N2 b1 b2 => ih (m + 1) N2 _ (by omega) b1 b2 (go ?_))
      rw [ex, if_neg (by simp [ht])]
    · simp only at e0
      subst e0
      have ex : rst le nm s (2, nI r, nI k, x3, x4) = if o_tb (le k) (s.1 r) (rsrc nm s.2 x3 x4) then none else some (upd s.1 r (o_out (le k) (s.1 r) (rsrc nm s.2 x3 x4)), s.2) := by
        unfold rst rl rr
        simp only [cr, ck]
        rfl
      refine rs2 hS hn hB hls hmm (by omega) hA hx hr6 hk (hopk (by decide) (by decide)) hs (fun ht => trap (by rw [ex, if_pos ht]) rfl) (fun ht N2 b1 b2 => ih (m + 1) N2 _ (by omega) b1 b2 (go ?_))
      rw [ex, if_neg (by simp [ht])]
    · simp only at e0 e4
      subst e0; subst e4
      have cc : (nI c).toNatClampNeg = c := nI_clamp (by omega)
      refine rs3 hS hn hB hls hmm (by omega) hA hx hr6 hc (fun N2 b1 b2 => ih (m + 1) N2 _ (by omega) b1 b2 (go ?_))
      unfold rst
      simp only [cr, cc]
      rfl
theorem lz1_Model_run (hP : ∀ N2, (∀ e, e ≠ 18 → N2 e = N e) → (∀ r, r < 8 → N2 18 r = 0) → RJ G LM m_Model_run 6 P 64 [some (.ref (G.2.2 0)), some (.int (nI nn)), some (.int (nI 8)), none, none, none, none, none, none, none] [] N2) : ∀ (d j : Nat) (N2 : nw_M), j + d = 8 → (∀ e, e ≠ 18 → N2 e = N e) → (∀ r, r < j → N2 18 r = 0) → RJ G LM m_Model_run 6 P 45 [some (.ref (G.2.2 0)), some (.int (nI nn)), some (.int (nI j)), none, none, none, none, none, none, none] [] N2 := by
  intro d
  induction d with
  | zero =>
    intro j N2 hd hF hz
    simp only [Nat.add_zero] at hd
    subst hd
    refine r_iload_n (i := 2) d_Model_run_45 rfl rfl ?_
    refine r_bipush 8 d_Model_run_46 bp_8 ?_
    refine r_icmp_ge 64 d_Model_run_48 (by decide) (fun _ => ?_) (fun h9 => absurd (show (8 : Int32) ≤ nI 8 by decide) h9)
    exact hP N2 hF hz
  | succ d ih =>
    intro j N2 hd hF hz
    refine r_iload_n (i := 2) d_Model_run_45 rfl rfl ?_
    refine r_bipush 8 d_Model_run_46 bp_8 ?_
    refine r_icmp_ge 64 d_Model_run_48 (by decide) (fun h_48 => ?_) (fun h_48 => ?_)
    · skip
      exact absurd h_48 (nI_ge (b := 8) (by omega) (by omega))
    · skip
      refine r_aload_n (i := 0) d_Model_run_51 rfl rfl ?_
      refine r_getr nf_Model_62 lm_0 rfl d_Model_run_52 ?_
      refine r_iload_n (i := 2) d_Model_run_55 rfl rfl ?_
      refine r_iconst 0 d_Model_run_56 ic_0 ?_
      refine r_ias (q := j) lm_18 rfl (by omega) (by decide) d_Model_run_57 ?_
      refine r_iinc d_Model_run_58 rfl (nI_inc _) (Nat.le_of_ble_eq_true rfl) rfl ?_
      dsimp only [List.set]
      refine r_goto 45 d_Model_run_61 (by decide) ?_
      refine ih (j + 1) _ (by omega) (fun e he => by rw [ms_ne _ _ he]; exact hF e he) (fun r hr => ?_)
      rw [ms_same]
      by_cases q : r = j
      · subst q; rw [upd_at]
      · rw [upd_ne _ _ q]; exact hz r (by omega)

theorem lz2_Model_run (hP : ∀ N2, (∀ e, e ≠ 19 → N2 e = N e) → (∀ r, r < 32 → N2 19 r = 0) → RJ G LM m_Model_run 6 P 85 [some (.ref (G.2.2 0)), some (.int (nI nn)), some (.int (nI 32)), none, none, none, none, none, none, none] [] N2) : ∀ (d j : Nat) (N2 : nw_M), j + d = 32 → (∀ e, e ≠ 19 → N2 e = N e) → (∀ r, r < j → N2 19 r = 0) → RJ G LM m_Model_run 6 P 66 [some (.ref (G.2.2 0)), some (.int (nI nn)), some (.int (nI j)), none, none, none, none, none, none, none] [] N2 := by
  intro d
  induction d with
  | zero =>
    intro j N2 hd hF hz
    simp only [Nat.add_zero] at hd
    subst hd
    refine r_iload_n (i := 2) d_Model_run_66 rfl rfl ?_
    refine r_bipush 32 d_Model_run_67 bp_32 ?_
    refine r_icmp_ge 85 d_Model_run_69 (by decide) (fun _ => ?_) (fun h9 => absurd (show (32 : Int32) ≤ nI 32 by decide) h9)
    exact hP N2 hF hz
  | succ d ih =>
    intro j N2 hd hF hz
    refine r_iload_n (i := 2) d_Model_run_66 rfl rfl ?_
    refine r_bipush 32 d_Model_run_67 bp_32 ?_
    refine r_icmp_ge 85 d_Model_run_69 (by decide) (fun h_69 => ?_) (fun h_69 => ?_)
    · skip
      exact absurd h_69 (nI_ge (b := 32) (by omega) (by omega))
    · skip
      refine r_aload_n (i := 0) d_Model_run_72 rfl rfl ?_
      refine r_getr nf_Model_65 lm_0 rfl d_Model_run_73 ?_
      refine r_iload_n (i := 2) d_Model_run_76 rfl rfl ?_
      refine r_iconst 0 d_Model_run_77 ic_0 ?_
      refine r_ias (q := j) lm_19 rfl (by omega) (by decide) d_Model_run_78 ?_
      refine r_iinc d_Model_run_79 rfl (nI_inc _) (Nat.le_of_ble_eq_true rfl) rfl ?_
      dsimp only [List.set]
      refine r_goto 66 d_Model_run_82 (by decide) ?_
      refine ih (j + 1) _ (by omega) (fun e he => by rw [ms_ne _ _ he]; exact hF e he) (fun r hr => ?_)
      rw [ms_same]
      by_cases q : r = j
      · subst q; rw [upd_at]
      · rw [upd_ne _ _ q]; exact hz r (by omega)

/-- what run answers, keeps -/
def RNA (n : Nat) (le nm : Nat → Int32) (mc : Nat → Nat) (Q : nP) (k : Int32) (M N : nw_M) (v : Option Value) : Prop := (n = 0 ∧ v = some (.int (-2)) ∧ MF M N (M 0 12) (M 0 13)) ∨ (0 < n ∧ isN ((prg n Q (mc 0)).length + 1) k = false ∧ v = some (.int (-1)) ∧ MF M N (M 0 12) (M 0 13)) ∨ ∃ nn, 0 < n ∧ nn ≤ (prg n Q (mc 0)).length ∧ k = nI nn ∧ ((∃ s, rns le nm (prg n Q (mc 0)) (fun _ => 0, fun _ => 0) nn = .inl s ∧ v = some (.int 1) ∧ MF M N (s.1 0) (M 0 13)) ∨ ∃ t, rns le nm (prg n Q (mc 0)) (fun _ => 0, fun _ => 0) nn = .inr t ∧ v = some (.int (-4)) ∧ MF M N (M 0 12) t)
set_option maxHeartbeats 1000000 in
theorem c_Model_run (hS : MS n le nu lf rt nm mc (M 3)) (hg : GS n le nu lf rt z tp nd ld ak mc C Q) (k : Int32) : CJ G LM m_Model_run 6 [.ref (G.2.2 0), .int k] M (fun v N => RNA n le nm mc Q k M N v) := by
  have hw := hg.1.1
  have hn := hw.1
  have h6 := hg.2.1.2.1
  refine CJ_of2 (n0 := 8) (by decide) rfl rfl ?_
  simp only [List.map_cons, List.map_nil, List.cons_append, List.nil_append, List.reduceReplicate]
  refine r_aload_n (i := 0) d_Model_run_0 rfl rfl ?_
  refine r_iconst 0 d_Model_run_1 ic_0 ?_
  refine r_puti nf_Model_75 nfin_Model_0 lm_0 rfl d_Model_run_2 ?_
  refine r_aload_n (i := 0) d_Model_run_5 rfl rfl ?_
  refine r_getr nf_Model_16 lm_0 rfl d_Model_run_6 ?_
  refine r_iconst 0 d_Model_run_9 ic_0 ?_
  refine r_ia (q := 0) lm_3 rfl (by omega) (by decide) (hS.1) d_Model_run_10 ?_
  refine r_if_ne 17 d_Model_run_11 (by decide) (fun h_11 => ?_) (fun h_11 => ?_)
  · skip
    have h0 : 0 < n := Nat.pos_of_ne_zero (fun q => h_11 (by rw [q]; rfl))
    refine r_aload_n (i := 0) d_Model_run_17 rfl rfl ?_
    refine r_aload_n (i := 0) d_Model_run_18 rfl rfl ?_
    refine r_getr nf_Model_16 lm_0 rfl d_Model_run_19 ?_
    refine r_sipush 133 d_Model_run_22 sp_133 ?_
    refine r_ia (q := 133) lm_3 rfl (by omega) (by decide) ((hS.gmc (j := 0) (by omega))) d_Model_run_25 ?_
    refine r_W1 v_Model_programs w_1103 lm_0 (c_Model_programs (M := m0 M) hS hg h0 hg.2.1.1 (Nat.le_refl _)) (Nat.le_of_ble_eq_true rfl) (Nat.le_of_ble_eq_true rfl) d_Model_run_26 (fun v N1 hv => ?_)
    obtain ⟨rfl, hv⟩ := hv
    have hSx : MS n le nu lf rt nm mc (N1 3) := by rw [hv.1 3 (by decide) (by decide)]; exact hS
    have pk := prg_ok hg h0 hg.2.1.1 (Nat.le_refl _)
    refine r_iload_n (i := 1) d_Model_run_29 rfl rfl ?_
    refine r_iconst 0 d_Model_run_30 ic_0 ?_
    refine r_aload_n (i := 0) d_Model_run_31 rfl rfl ?_
    refine r_gx nf_Model_222 lm_0 rfl (hv.2.2.2.1) d_Model_run_32 ?_
    refine r_S3 f_Model_in w_942 (c_Model_in _ _ _ _ ) (Nat.le_of_ble_eq_true rfl) (Nat.le_of_ble_eq_true rfl) d_Model_run_35 ?_
    rw [in_isN _ (by omega)]
    refine r_if_ne 43 d_Model_run_38 (by decide) (fun h_38 => ?_) (fun h_38 => ?_)
    · skip
      refine r_iconst 0 d_Model_run_43 ic_0 ?_
      refine r_istore_n (i := 2) d_Model_run_44 rfl (Nat.le_of_ble_eq_true rfl) rfl ?_
      dsimp only [List.set]
      obtain ⟨nn, hnn, rfl⟩ := isN_ex ((bI_t _).mp h_38) (by omega)
      refine lz1_Model_run (N := N1) (fun N2 f2 z2 => ?_) 8 0 N1 (by omega) (fun _ _ => rfl) (fun r hr => absurd hr (Nat.not_lt_zero r))
      refine r_iconst 0 d_Model_run_64 ic_0 ?_
      refine r_istore_n (i := 2) d_Model_run_65 rfl (Nat.le_of_ble_eq_true rfl) rfl ?_
      dsimp only [List.set]
      refine lz2_Model_run (N := N2) (fun N3 f3 z3 => ?_) 32 0 N2 (by omega) (fun _ _ => rfl) (fun r hr => absurd hr (Nat.not_lt_zero r))
      refine r_iconst 0 d_Model_run_85 ic_0 ?_
      refine r_istore_n (i := 2) d_Model_run_86 rfl (Nat.le_of_ble_eq_true rfl) rfl ?_
      dsimp only [List.set]
      refine run_all (ls := prg n Q (mc 0)) (nn := nn) (s := (fun _ => 0, fun _ => 0)) hSx hw hv.2.2.2.2.1 (by omega) pk.2.1 pk.1 (lop_all hw hg.2.2.2 (n - 1) (by omega) 0 (mc 0) 0) (fun v N hN => ?_) nn 0 N3 (by omega) (fun e e1 e2 => (f3 e e2).trans (f2 e e1)) ⟨fun r hr => by rw [f3 18 (by decide)]; exact z2 r (by omega), fun c hc => z3 c (by omega)⟩ rfl _ _ _ _ _ _ _
      obtain ⟨a1, a2, a3⟩ := hN
      have mfb : ∀ a t, N 0 12 = a → N 0 13 = t → MF N1 N a t := fun a t b1 b2 => ⟨a1 1 (by decide) (by decide) (by decide), a1 3 (by decide) (by decide) (by decide), a1 5 (by decide) (by decide) (by decide), a1 6 (by decide) (by decide) (by decide), a1 7 (by decide) (by decide) (by decide), a2 2 (by decide) (by decide), a2 9 (by decide) (by decide), b1, b2⟩
      have m12 : N1 0 12 = M 0 12 := ((MF.th M).tr hv.mf).2.2.2.2.2.2.2.1
      have m13 : N1 0 13 = M 0 13 := ((MF.th M).tr hv.mf).2.2.2.2.2.2.2.2
      refine Or.inr (Or.inr ⟨nn, h0, by omega, rfl, ?_⟩)
      rcases a3 with ⟨s, b1, b2, b3, b4⟩ | ⟨t, b1, b2, b3, b4⟩
      · exact Or.inl ⟨s, b1, b2, ((MF.th M).tr hv.mf).tr (mfb _ _ b3 (b4.trans m13))⟩
      · exact Or.inr ⟨t, b1, b2, ((MF.th M).tr hv.mf).tr (mfb _ _ (b3.trans m12) b4)⟩
    · skip
      refine r_iconst (-1) d_Model_run_41 ic_m1 ?_
      refine r_iret rfl d_Model_run_42 ?_
      exact Or.inr (Or.inl ⟨h0, (bI_f _).mp h_38, rfl, (MF.th M).tr hv.mf⟩)
  · skip
    refine r_bipush (-2) d_Model_run_14 bp_m2 ?_
    refine r_iret rfl d_Model_run_16 ?_
    exact Or.inl ⟨n0_of hn h_11, rfl, MF.th M⟩

end MMb
