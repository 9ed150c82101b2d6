-- the model: tree
section MMt
variable {G : nw_G} {M N B : nw_M} {len p : Nat} {tx : Nat → Int32} {mk : MK} {pr : List Nat} {T : AT}
theorem stl_stl {g : Int32} (hg : ∀ x, ¬ o_grip x < 2 → ¬ o_grip x < g) : ∀ (mk : MK) (pr : List Nat) (T : AT), stl g mk pr T = match stl 2 mk pr T with | .inl f => .inl f | .inr w => stl g w.1 w.2.1 w.2.2
  | [], pr, T => rfl
  | m :: r, pr, T => by
    by_cases h : o_grip m.1 < 2
    · have e : stl 2 (m :: r) pr T = .inr (m :: r, pr, T) := by rw [stl, if_pos h]
      rw [e]
    · cases hd : doit m.1 m.2 pr T with
      | inl f => rw [stl_f h hd, stl_f (hg _ h) hd]
      | inr w =>
        rw [stl_s h hd, stl_s (hg _ h) hd]
        exact stl_stl hg r w.1 w.2
theorem g_le2 (c : Int32) : ∀ x, ¬ o_grip x < 2 → ¬ o_grip x < (if o_bin c then o_grip c else 1) := by
  intro x hx
  by_cases hb : o_bin c = true
  · rw [if_pos hb]
    cases hp : o_prod c with
    | true => rw [grip_prod hp]; exact hx
    | false =>
      rw [o_bin, hp, Bool.or_false] at hb
      rw [grip_sum hb hp]
      exact grip_12 hx
  · rw [if_neg hb]
    exact grip_12 hx
theorem cstO_nrm (p : Nat) (b : Bool) (mk : MK) (pr : List Nat) (T : AT) (c : Int32) : cstO (p, b, mk, pr, T) c = match stl 2 mk pr T with | .inl f => .inl f | .inr w => cstO (p, b, w.1, w.2.1, w.2.2) c := by
  have h := stl_stl (g_le2 c) mk pr T
  cases hs : stl 2 mk pr T with
  | inl f =>
    rw [hs] at h
    exact cstO_f h
  | inr w =>
    rw [hs] at h
    unfold cstO
    simp only [h]
theorem runp_s {f : Nat} {a : AS} : runp tx len (f + 1) a = match cst tx len a with | .inl e => .inl e | .inr (.inl T) => .inr T | .inr (.inr b) => runp tx len f b := rfl
theorem runp_nrm : ∀ (f p : Nat) (mk : MK) (pr : List Nat) (T : AT), p ≤ len → len + 1 ≤ p + f → runp tx len f (p, false, mk, pr, T) = match stl 2 mk pr T with | .inl e => .inl e | .inr w => runp tx len f (p, false, w.1, w.2.1, w.2.2)
  | 0, p, ma, pr, T, h1, h2 => by omega
  | f + 1, p, ma, pr, T, h1, h2 => by
    by_cases hb : ltr tx len p = 32
    · have hlt : p < len := ltr_lt (tx := tx) (by rw [hb]; decide)
      have e : ∀ r : MK × List Nat × AT, cst tx len (p, false, r.1, r.2.1, r.2.2) = .inr (.inr (p + 1, false, r.1, r.2.1, r.2.2)) := fun r => by unfold cst; rw [if_pos hb]
      have ih := runp_nrm f (p + 1) ma pr T (by omega) (by omega)
      rw [runp_s, e (ma, pr, T)]
      simp only
      rw [ih]
      cases hs : stl 2 ma pr T with
      | inl q => rfl
      | inr w =>
        simp only
        rw [runp_s, e w]
    · have e : ∀ r : MK × List Nat × AT, cst tx len (p, false, r.1, r.2.1, r.2.2) = cstO (p, false, r.1, r.2.1, r.2.2) (ltr tx len p) := fun r => by unfold cst; rw [if_neg hb]; rfl
      rw [runp_s, e (ma, pr, T)]
      simp only
      rw [cstO_nrm]
      cases hs : stl 2 ma pr T with
      | inl q => rfl
      | inr w =>
        simp only
        rw [runp_s, e w]
theorem runp_bl {R : Nat ⊕ AT} (x : Bool × MK × List Nat × AT) : ∀ (n p f : Nat), n + p = len → len + 1 ≤ p + f → runp tx len f (p, x) = R → ∃ f2, f2 ≤ f ∧ len + 1 ≤ bl tx len n p + f2 ∧ runp tx len f2 (bl tx len n p, x) = R
  | 0, p, f, h1, h2, h3 => ⟨f, Nat.le_refl _, h2, h3⟩
  | n + 1, p, f, h1, h2, h3 => by
    rw [bl]
    by_cases hb : ltr tx len p = 32
    · rw [if_pos hb]
      cases f with
      | zero => omega
      | succ f =>
        have e : cst tx len (p, x) = .inr (.inr (p + 1, x)) := by unfold cst; rw [if_pos hb]
        rw [runp_s, e] at h3
        obtain ⟨f2, a1, a2, a3⟩ := runp_bl x n (p + 1) f (by omega) (by omega) h3
        exact ⟨f2, by omega, a2, a3⟩
    · rw [if_neg hb]
      exact ⟨f, Nat.le_refl _, h2, h3⟩
theorem bl_aok {x : Bool × MK × List Nat × AT} {q : Nat} (h : AOK len (p, x)) (hpq : p ≤ q) (hq : q ≤ len) : AOK len (q, x) := ⟨hq, Nat.le_trans h.2.1 hpq, h.2.2.1, h.2.2.2.1, h.2.2.2.2⟩
theorem bl_ge : ∀ (n p : Nat), p ≤ bl tx len n p
  | 0, p => Nat.le_refl _
  | n + 1, p => by
    rw [bl]
    by_cases hb : ltr tx len p = 32
    · rw [if_pos hb]
      have := bl_ge n (p + 1)
      omega
    · rw [if_neg hb]; exact Nat.le_refl _
theorem stl_suf {g : Int32} : ∀ (mk : MK) (pr : List Nat) (T : AT) (w : MK × List Nat × AT), stl g mk pr T = .inr w → mord mk → mord w.1
  | [], pr, T, w, h, ho => by
    rw [stl] at h
    cases h
    exact ho
  | m :: r, pr, T, w, h, ho => by
    by_cases q : o_grip m.1 < g
    · rw [stl, if_pos q] at h
      cases h
      exact ho
    · cases hd : doit m.1 m.2 pr T with
      | inl f => rw [stl_f q hd] at h; cases h
      | inr v =>
        rw [stl_s q hd] at h
        exact stl_suf r v.1 v.2 w h ho.2
/-- what stands all the time in the model's reading -/
def INVm (len : Nat) (a : AS) : Prop := AOK len a ∧ mord a.2.2.1 ∧ (a.2.1 = false → ¬ (lw a.2.2.1 = 126 ∨ o_prod (lw a.2.2.1) = true))
theorem inv_nrm {b : Nat × MK × List Nat × AT} {w : MK × List Nat × AT} (hA : AOK len (b.1, false, b.2)) (ho : mord b.2.1) (h : stl 2 b.2.1 b.2.2.1 b.2.2.2 = .inr w) : INVm len (b.1, false, w.1, w.2.1, w.2.2) := by
  obtain ⟨h1, h2, h3, h4, h5⟩ := hA
  obtain ⟨a1, a2, a3, a4, a5⟩ := stl_ok b.2.1 b.2.2.1 b.2.2.2 h3 (by decide) h4 h5 w h
  refine ⟨⟨h1, Nat.le_trans a2 h2, a1, a3, a4⟩, stl_suf _ _ _ _ h ho, fun _ => ?_⟩
  show ¬ (lw w.1 = 126 ∨ o_prod (lw w.1) = true)
  cases hw : w.1 with
  | nil => decide
  | cons m r =>
    have := a5 m r hw
    rw [grip2] at this
    rw [lw, wc_126, wc_prod]
    exact this
theorem cstD_lf {a b : AS} {c : Int32} (h : ¬ (c = 40 ∨ c = 126)) (hc : cstD tx len a c = .inr (.inr b)) : b.2.1 = false ∧ b.2.2.1 = a.2.2.1 := by
  have key : ∀ {x y : Int32} {w : Nat}, lfS a x y w = .inr (.inr b) → b.2.1 = false ∧ b.2.2.1 = a.2.2.1 := by
    intro x y w hq
    unfold lfS at hq
    cases hd : adn a.2.2.2.1 a.2.2.2.2 x y (-9) (-9) 1 a.1 with
    | inl f => rw [hd] at hq; cases hq
    | inr v => rw [hd] at hq; cases hq; exact ⟨rfl, rfl⟩
  unfold cstD at hc
  rw [if_neg h] at hc
  by_cases h1 : ¬ c < 97 ∧ ¬ (104 : Int32) < c
  · rw [if_pos h1] at hc; exact key hc
  · rw [if_neg h1] at hc
    by_cases h2 : dgs tx a.1 (len - a.1) = 1
    · rw [if_pos h2] at hc; exact key hc
    · rw [if_neg h2] at hc
      by_cases h3 : dgs tx a.1 (len - a.1) = 2 ∧ c ≠ 48
      · rw [if_pos h3] at hc; exact key hc
      · rw [if_neg h3] at hc; cases hc
theorem part_cases {Q : Prop} {a : AS} {c : Int32} (h : PRD (cstD tx len a c) len N) (h1 : (c = 40 ∨ c = 126) → N 0 4 = -1 → N 0 3 = nI (a.1 + 1) → RQ ((c, a.1) :: a.2.2.1) a.2.2.2.1 a.2.2.2.2 N → Q) (h2 : ¬ (c = 40 ∨ c = 126) → ∀ f, cstD tx len a c = .inl f → N 0 4 = nI f → f ≤ len → Q) (h3 : ¬ (c = 40 ∨ c = 126) → ∀ b, cstD tx len a c = .inr (.inr b) → N 0 4 = -1 → N 0 3 = nI b.1 → RQ b.2.2.1 b.2.2.2.1 b.2.2.2.2 N → Q) : Q := by
  by_cases q : c = 40 ∨ c = 126
  · rw [cstD_open q] at h
    exact h1 q h.1 h.2.1 h.2.2
  · cases hc : cstD tx len a c with
    | inl f => rw [hc] at h; exact h2 q f hc h.1 h.2
    | inr r =>
      cases r with
      | inl T => rw [hc] at h; exact h.elim
      | inr b => rw [hc] at h; exact h3 q b hc h.1 h.2.1 h.2.2
theorem beh_cases {Q : Prop} {r : Nat ⊕ (AT ⊕ AS)} {v : Option Value} (h : PRB r p len v N) (h1 : ∀ f, r = .inl f → v = some (.int 0) → N 0 4 = nI f → f ≤ len → Q) (h2 : ∀ T, r = .inr (.inl T) → v = some (.int 0) → N 0 4 = -1 → N 0 3 = nI p → DR T N → Q) (h3 : ∀ q mk pr T, r = .inr (.inr (q, true, mk, pr, T)) → v = some (.int 1) → N 0 4 = -1 → N 0 3 = nI q → RQ mk pr T N → Q) (h4 : ∀ q mk pr T, r = .inr (.inr (q, false, mk, pr, T)) → v = some (.int 0) → N 0 3 = nI q → SO (stl 2 mk pr T) len N → Q) : Q := by
  rcases r with f | T | ⟨q, d, mk, pr, T⟩
  · exact h1 f rfl h.1 h.2.1 h.2.2
  · exact h2 T rfl h.1 h.2.1 h.2.2.1 h.2.2.2
  · cases d with
    | true => exact h3 q mk pr T rfl h.1 h.2.1 h.2.2.1 h.2.2.2
    | false => exact h4 q mk pr T rfl h.1 h.2.1 h.2.2
theorem x0_Model_tree {P : Option Value → nw_M → Prop} {f : Nat} {o1 o2 o3 : Option Value} (hf : f ≤ 60) (h4 : N 0 4 = nI f) (hp : P (some (.int (-10 - nI f))) N) : RJ G LM m_Model_tree 4 P 36 [some (.ref (G.2.2 0)), o1, o2, o3] [] N := by
  refine r_aload_n (i := 0) d_Model_tree_36 rfl rfl ?_
  refine r_V0 v_Model_isWell w_953 lm_0 (c0_Model_isWell (f := f) hf h4) (Nat.le_of_ble_eq_true rfl) (Nat.le_of_ble_eq_true rfl) d_Model_tree_37 ?_
  refine r_if_eq 117 d_Model_tree_40 (by decide) (fun _ => ?_) (fun h9 => absurd rfl h9)
  refine r_aload_n (i := 0) d_Model_tree_117 rfl rfl ?_
  refine r_V0 v_Model_isWell w_953 lm_0 (c0_Model_isWell (f := f) hf h4) (Nat.le_of_ble_eq_true rfl) (Nat.le_of_ble_eq_true rfl) d_Model_tree_118 ?_
  refine r_if_ne 132 d_Model_tree_121 (by decide) (fun h9 => absurd rfl h9) (fun _ => ?_)
  refine r_bipush (-10) d_Model_tree_124 bp_m10 ?_
  refine r_aload_n (i := 0) d_Model_tree_126 rfl rfl ?_
  refine r_gx nf_Model_92 lm_0 rfl h4 d_Model_tree_127 ?_
  refine r_isub d_Model_tree_130 ?_
  exact r_iret rfl d_Model_tree_131 hp
theorem x1_Model_tree {P : Option Value → nw_M → Prop} {o1 o3 : Option Value} (h4 : N 0 4 = -1) (hp : RJ G LM m_Model_tree 4 P 132 [some (.ref (G.2.2 0)), o1, some (.int 0), o3] [] N) : RJ G LM m_Model_tree 4 P 36 [some (.ref (G.2.2 0)), o1, some (.int 0), o3] [] N := by
  refine r_aload_n (i := 0) d_Model_tree_36 rfl rfl ?_
  refine r_V0 v_Model_isWell w_953 lm_0 (c_Model_isWell h4) (Nat.le_of_ble_eq_true rfl) (Nat.le_of_ble_eq_true rfl) d_Model_tree_37 ?_
  refine r_if_eq 117 d_Model_tree_40 (by decide) (fun h9 => absurd h9 (by decide)) (fun _ => ?_)
  refine r_iload_n (i := 2) d_Model_tree_43 rfl rfl ?_
  refine r_if_eq 117 d_Model_tree_44 (by decide) (fun _ => ?_) (fun h9 => absurd rfl h9)
  refine r_aload_n (i := 0) d_Model_tree_117 rfl rfl ?_
  refine r_V0 v_Model_isWell w_953 lm_0 (c_Model_isWell h4) (Nat.le_of_ble_eq_true rfl) (Nat.le_of_ble_eq_true rfl) d_Model_tree_118 ?_
  exact r_if_ne 132 d_Model_tree_121 (by decide) (fun _ => hp) (fun h9 => absurd h9 (by decide))
set_option maxHeartbeats 1000000 in
theorem l1_Model_tree {R : Nat ⊕ AT} {P : Option Value → nw_M → Prop} (hX : TXT len tx M) (hl : len ≤ 60) (hf : ∀ f N, RFm M N → R = .inl f → f ≤ len → N 0 4 = nI f → P (some (.int (-10 - nI f))) N) (he : ∀ T N o1 o3, RFm M N → R = .inr T → DR T N → RJ G LM m_Model_tree 4 P 132 [some (.ref (G.2.2 0)), o1, some (.int 0), o3] [] N) {f : Nat} (ih : ∀ f2, f2 < f → ∀ (a : AS) (N : nw_M) (o3 : Option Value), len + 1 ≤ a.1 + f2 → runp tx len f2 a = R → INVm len a → RFm M N → N 0 4 = -1 → N 0 3 = nI a.1 → RQ a.2.2.1 a.2.2.2.1 a.2.2.2.2 N → RJ G LM m_Model_tree 4 P 36 [some (.ref (G.2.2 0)), some (.int (bI a.2.1)), some (.int 1), o3] [] N) {p : Nat} {mk : MK} {pr : List Nat} {T : AT} {o3 : Option Value} (hfu : len + 1 ≤ p + f) (hrun : runp tx len f (p, true, mk, pr, T) = R) (hI : INVm len (p, true, mk, pr, T)) (hF : RFm M N) (h4 : N 0 4 = -1) (h3 : N 0 3 = nI p) (hR : RQ mk pr T N) : RJ G LM m_Model_tree 4 P 36 [some (.ref (G.2.2 0)), some (.int 1), some (.int 1), o3] [] N := by
  have hXn : TXT len tx N := hX.of hF
  have hp0 : p ≤ len := hI.1.1
  refine r_aload_n (i := 0) d_Model_tree_36 rfl rfl ?_
  refine r_V0 v_Model_isWell w_953 lm_0 (c_Model_isWell h4) (Nat.le_of_ble_eq_true rfl) (Nat.le_of_ble_eq_true rfl) d_Model_tree_37 ?_
  refine r_if_eq 117 d_Model_tree_40 (by decide) (fun h_40 => ?_) (fun h_40 => ?_)
  · exact absurd h_40 (by decide)
  · skip
    refine r_iload_n (i := 2) d_Model_tree_43 rfl rfl ?_
    refine r_if_eq 117 d_Model_tree_44 (by decide) (fun h_44 => ?_) (fun h_44 => ?_)
    · exact absurd h_44 (by decide)
    · skip
      refine r_aload_n (i := 0) d_Model_tree_47 rfl rfl ?_
      refine r_W0 v_Model_blanks w_957 lm_0 (c_Model_blanks hXn hl hp0 h3) (Nat.le_of_ble_eq_true rfl) (Nat.le_of_ble_eq_true rfl) d_Model_tree_48 (fun vb Nb hvb => ?_)
      obtain ⟨rfl, b1, b2, b3, b4, b5⟩ := hvb
      have hpq := bl_ge (tx := tx) (len := len) (len - p) p
      obtain ⟨f2, g1, g2, g3⟩ := runp_bl (tx := tx) (len := len) (true, mk, pr, T) (len - p) p f (by have := hI.1.1; simp only at this; omega) hfu hrun
      generalize bl tx len (len - p) p = q at *
      have hXb : TXT len tx Nb := ⟨(b2 2 (by decide)).trans hXn.1, fun j hj => by rw [b1 1 (by decide)]; exact hXn.2 j hj⟩
      have hRb : RQ mk pr T Nb := hR.cong (b1 2 (by decide)) (b1 8 (by decide)) (b1 9 (by decide)) (b1 10 (by decide)) (b2 18 (by decide)) (b2 15 (by decide))
      have hFb : RFm M Nb := hF.tr ⟨fun e e0 _ _ _ _ => b1 e e0, fun j e3 _ _ _ => b2 j e3⟩
      have hAb : AOK len (q, true, mk, pr, T) := bl_aok hI.1 hpq b5
      have h4b : Nb 0 4 = -1 := (b2 4 (by decide)).trans h4
      obtain ⟨f3, rfl⟩ : ∃ f3, f2 = f3 + 1 := ⟨f2 - 1, by have := b5; omega⟩
      refine r_iload_n (i := 1) d_Model_tree_51 rfl rfl ?_
      refine r_if_eq 86 d_Model_tree_52 (by decide) (fun h_52 => ?_) (fun h_52 => ?_)
      · exact absurd h_52 (by decide)
      · skip
        refine r_aload_n (i := 0) d_Model_tree_55 rfl rfl ?_
        refine r_W0 v_Model_readsPart w_965 lm_0 (c_Model_readsPart (b := true) hXb hl b5 b3 h4b hRb hAb.2.2.2.2.1.1 (tok_len hAb.2.2.2.2) hAb.2.1) (Nat.le_of_ble_eq_true rfl) (Nat.le_of_ble_eq_true rfl) d_Model_tree_56 (fun vp Np hvp => ?_)
        obtain ⟨rfl, p1, p2⟩ := hvp
        have hFp := hFb.tr p1
        have hcst : cst tx len (q, true, mk, pr, T) = cstD tx len (q, true, mk, pr, T) (ltr tx len q) := by
          unfold cst
          rw [if_neg b4]
          rfl
        refine part_cases p2 (fun hop k1 k2 k3 => ?_) (fun hop e hcs k1 k2 => ?_) (fun hop b hcs k1 k2 k3 => ?_)
        · skip
          simp only [if_pos hop]
          refine r_if_ne 66 d_Model_tree_59 (by decide) (fun h_59 => ?_) (fun h_59 => ?_)
          · exact absurd h_59 (by decide)
          · skip
            refine r_iconst 1 d_Model_tree_62 ic_1 ?_
            refine r_goto 67 d_Model_tree_63 (by decide) ?_
            refine r_istore_n (i := 1) d_Model_tree_67 rfl (Nat.le_of_ble_eq_true rfl) rfl ?_
            dsimp only [List.set]
            refine r_iload_n (i := 1) d_Model_tree_68 rfl rfl ?_
            refine r_if_ne 36 d_Model_tree_69 (by decide) (fun h_69 => ?_) (fun h_69 => ?_)
            · skip
              have hns : ¬ o_sum (ltr tx len q) = true := by rcases hop with r | r <;> (rw [r]; decide)
              have hcst2 := hcst.trans (cstD_open hop)
              obtain ⟨hA2, hlt2⟩ := cst_ok hAb hcst2
              rw [runp_s, hcst2] at g3
              exact ih f3 (by omega) _ Np _ (by show len + 1 ≤ q + 1 + f3; omega) g3 ⟨hA2, ⟨fun hs => absurd hs hns, hI.2.1⟩, fun h => absurd (show true = false from h) (by decide)⟩ hFp k1 k2 k3
            · exact absurd h_69 (by decide)
        · skip
          simp only [if_neg hop]
          refine r_if_ne 66 d_Model_tree_59 (by decide) (fun h_59 => ?_) (fun h_59 => ?_)
          · skip
            refine r_iconst 0 d_Model_tree_66 ic_0 ?_
            refine r_istore_n (i := 1) d_Model_tree_67 rfl (Nat.le_of_ble_eq_true rfl) rfl ?_
            dsimp only [List.set]
            refine r_iload_n (i := 1) d_Model_tree_68 rfl rfl ?_
            refine r_if_ne 36 d_Model_tree_69 (by decide) (fun h_69 => ?_) (fun h_69 => ?_)
            · exact absurd h_69 (by decide)
            · skip
              refine r_aload_n (i := 0) d_Model_tree_72 rfl rfl ?_
              refine r_V0 v_Model_isWell w_953 lm_0 (c0_Model_isWell (f := e) (by omega) k1) (Nat.le_of_ble_eq_true rfl) (Nat.le_of_ble_eq_true rfl) d_Model_tree_73 ?_
              refine r_if_eq 36 d_Model_tree_76 (by decide) (fun h_76 => ?_) (fun h_76 => ?_)
              · skip
                have hcst2 := hcst.trans hcs
                rw [runp_s, hcst2] at g3
                exact x0_Model_tree (f := e) (by omega) k1 (hf e Np hFp g3.symm k2 k1)
              · exact absurd h_76 (by decide)
          · exact absurd h_59 (by decide)
        · skip
          obtain ⟨q2, d2, mk2, pr2, T2⟩ := b
          obtain ⟨e1, e2⟩ := cstD_lf hop hcs
          simp only at e1 e2
          subst e1
          subst e2
          have hcst2 := hcst.trans hcs
          obtain ⟨hA2, hlt2⟩ := cst_ok hAb hcst2
          simp only at hlt2
          simp only [if_neg hop]
          refine r_if_ne 66 d_Model_tree_59 (by decide) (fun h_59 => ?_) (fun h_59 => ?_)
          · skip
            refine r_iconst 0 d_Model_tree_66 ic_0 ?_
            refine r_istore_n (i := 1) d_Model_tree_67 rfl (Nat.le_of_ble_eq_true rfl) rfl ?_
            dsimp only [List.set]
            refine r_iload_n (i := 1) d_Model_tree_68 rfl rfl ?_
            refine r_if_ne 36 d_Model_tree_69 (by decide) (fun h_69 => ?_) (fun h_69 => ?_)
            · exact absurd h_69 (by decide)
            · skip
              refine r_aload_n (i := 0) d_Model_tree_72 rfl rfl ?_
              refine r_V0 v_Model_isWell w_953 lm_0 (c_Model_isWell k1) (Nat.le_of_ble_eq_true rfl) (Nat.le_of_ble_eq_true rfl) d_Model_tree_73 ?_
              refine r_if_eq 36 d_Model_tree_76 (by decide) (fun h_76 => ?_) (fun h_76 => ?_)
              · exact absurd h_76 (by decide)
              · skip
                refine r_aload_n (i := 0) d_Model_tree_79 rfl rfl ?_
                refine r_W0 v_Model_partDone w_981 lm_0 (c_Model_partDone hl hA2.2.2.1 (Nat.le_trans hA2.2.1 (Nat.le_trans hA2.1 hl)) hA2.2.2.2.1 hA2.2.2.2.2 k3 k1) (Nat.le_of_ble_eq_true rfl) (Nat.le_of_ble_eq_true rfl) d_Model_tree_80 (fun vd Nd hvd => ?_)
                obtain ⟨rfl, d1, d2, d3⟩ := hvd
                refine r_goto 36 d_Model_tree_83 (by decide) ?_
                rw [runp_s, hcst2] at g3
                have hrun2 : runp tx len f3 (q2, false, mk2, pr2, T2) = R := g3
                have hq2 : q2 ≤ len := hA2.1
                have hrn := runp_nrm (tx := tx) (len := len) f3 q2 mk2 pr2 T2 (by omega) (by omega)
                have hFd := hFp.tr d1
                rw [hrn] at hrun2
                cases hs : stl 2 mk2 pr2 T2 with
                | inl e =>
                  rw [hs] at d3 hrun2
                  have hlt : e < len := d3.2
                  exact x0_Model_tree (f := e) (by omega) d3.1 (hf e _ hFd hrun2.symm (by omega) d3.1)
                | inr w =>
                  rw [hs] at d3 hrun2
                  exact ih f3 (by omega) (q2, false, w.1, w.2.1, w.2.2) _ _ (by show len + 1 ≤ q2 + f3; omega) hrun2 (inv_nrm (b := (q2, mk2, pr2, T2)) hA2 hI.2.1 hs) hFd d3.1 (d2.trans k2) d3.2
          · exact absurd h_59 (by decide)

theorem cstO_ord {q q2 : Nat} {d : Bool} {mk2 : MK} {pr2 : List Nat} {T2 : AT} {c : Int32} (ho : mord mk) (hA : AOK len (q, false, mk, pr, T)) (h : cstO (q, false, mk, pr, T) c = .inr (.inr (q2, d, mk2, pr2, T2))) : mord mk2 := by
  cases hs : stl (if o_bin c then o_grip c else 1) mk pr T with
  | inl f => rw [cstO_f hs] at h; cases h
  | inr w =>
    have ho2 := stl_suf _ _ _ _ hs ho
    rw [cstO_of hs, cstE] at h
    by_cases hb : o_bin c = true
    · rw [if_pos hb] at h
      cases h
      rw [if_pos hb] at hs
      refine ⟨fun hsum m2 r2 e => ?_, ho2⟩
      have hsum2 : o_sum c = true := hsum
      have hp : o_prod c = false := by
        cases q : o_prod c with
        | false => rfl
        | true =>
          have : o_grip c = 2 := grip_prod q
          unfold o_sum at hsum2
          unfold o_prod at q
          exfalso
          have h1 : (c = 43 ∨ c = 45) ∨ c = 35 := by simpa using hsum2
          have h2 : c = 42 ∨ c = 47 := by simpa using q
          rcases h1 with (r | r) | r <;> rcases h2 with s | s <;> (rw [r] at s; exact absurd s (by decide))
      rw [grip_sum hsum2 hp] at hs
      exact (stl_ok mk pr T hA.2.2.1 (by decide) hA.2.2.2.1 hA.2.2.2.2 w hs).2.2.2.2 m2 r2 e
    · rw [if_neg hb] at h
      by_cases h41 : c = 41 ∧ w.1 ≠ []
      · rw [if_pos h41] at h
        cases h
        cases hw : w.1 with
        | nil => exact trivial
        | cons m r => rw [hw] at ho2; exact ho2.2
      · rw [if_neg h41] at h
        by_cases h1 : c = -1 ∧ w.1 = []
        · rw [if_pos h1] at h; cases h
        · rw [if_neg h1] at h; cases h
set_option maxHeartbeats 1000000 in
theorem l0_Model_tree {R : Nat ⊕ AT} {P : Option Value → nw_M → Prop} (hX : TXT len tx M) (hl : len ≤ 60) (hf : ∀ f N, RFm M N → R = .inl f → f ≤ len → N 0 4 = nI f → P (some (.int (-10 - nI f))) N) (he : ∀ T N o1 o3, RFm M N → R = .inr T → DR T N → RJ G LM m_Model_tree 4 P 132 [some (.ref (G.2.2 0)), o1, some (.int 0), o3] [] N) {f : Nat} (ih : ∀ f2, f2 < f → ∀ (a : AS) (N : nw_M) (o3 : Option Value), len + 1 ≤ a.1 + f2 → runp tx len f2 a = R → INVm len a → RFm M N → N 0 4 = -1 → N 0 3 = nI a.1 → RQ a.2.2.1 a.2.2.2.1 a.2.2.2.2 N → RJ G LM m_Model_tree 4 P 36 [some (.ref (G.2.2 0)), some (.int (bI a.2.1)), some (.int 1), o3] [] N) {p : Nat} {mk : MK} {pr : List Nat} {T : AT} {o3 : Option Value} (hfu : len + 1 ≤ p + f) (hrun : runp tx len f (p, false, mk, pr, T) = R) (hI : INVm len (p, false, mk, pr, T)) (hF : RFm M N) (h4 : N 0 4 = -1) (h3 : N 0 3 = nI p) (hR : RQ mk pr T N) : RJ G LM m_Model_tree 4 P 36 [some (.ref (G.2.2 0)), some (.int 0), some (.int 1), o3] [] N := by
  have hXn : TXT len tx N := hX.of hF
  have hp0 : p ≤ len := hI.1.1
  refine r_aload_n (i := 0) d_Model_tree_36 rfl rfl ?_
  refine r_V0 v_Model_isWell w_953 lm_0 (c_Model_isWell h4) (Nat.le_of_ble_eq_true rfl) (Nat.le_of_ble_eq_true rfl) d_Model_tree_37 ?_
  refine r_if_eq 117 d_Model_tree_40 (by decide) (fun h_40 => ?_) (fun h_40 => ?_)
  · exact absurd h_40 (by decide)
  · skip
    refine r_iload_n (i := 2) d_Model_tree_43 rfl rfl ?_
    refine r_if_eq 117 d_Model_tree_44 (by decide) (fun h_44 => ?_) (fun h_44 => ?_)
    · exact absurd h_44 (by decide)
    · skip
      refine r_aload_n (i := 0) d_Model_tree_47 rfl rfl ?_
      refine r_W0 v_Model_blanks w_957 lm_0 (c_Model_blanks hXn hl hp0 h3) (Nat.le_of_ble_eq_true rfl) (Nat.le_of_ble_eq_true rfl) d_Model_tree_48 (fun vb Nb hvb => ?_)
      obtain ⟨rfl, b1, b2, b3, b4, b5⟩ := hvb
      have hpq := bl_ge (tx := tx) (len := len) (len - p) p
      obtain ⟨f2, g1, g2, g3⟩ := runp_bl (tx := tx) (len := len) (false, mk, pr, T) (len - p) p f (by have := hI.1.1; simp only at this; omega) hfu hrun
      generalize bl tx len (len - p) p = q at *
      have hXb : TXT len tx Nb := ⟨(b2 2 (by decide)).trans hXn.1, fun j hj => by rw [b1 1 (by decide)]; exact hXn.2 j hj⟩
      have hRb : RQ mk pr T Nb := hR.cong (b1 2 (by decide)) (b1 8 (by decide)) (b1 9 (by decide)) (b1 10 (by decide)) (b2 18 (by decide)) (b2 15 (by decide))
      have hFb : RFm M Nb := hF.tr ⟨fun e e0 _ _ _ _ => b1 e e0, fun j e3 _ _ _ => b2 j e3⟩
      have hAb : AOK len (q, false, mk, pr, T) := bl_aok hI.1 hpq b5
      have h4b : Nb 0 4 = -1 := (b2 4 (by decide)).trans h4
      obtain ⟨f3, rfl⟩ : ∃ f3, f2 = f3 + 1 := ⟨f2 - 1, by have := b5; omega⟩
      refine r_iload_n (i := 1) d_Model_tree_51 rfl rfl ?_
      refine r_if_eq 86 d_Model_tree_52 (by decide) (fun h_52 => ?_) (fun h_52 => ?_)
      · skip
        refine r_aload_n (i := 0) d_Model_tree_86 rfl rfl ?_
        refine r_gx nf_Model_85 lm_0 rfl (b3) d_Model_tree_87 ?_
        refine r_istore_n (i := 3) d_Model_tree_90 rfl (Nat.le_of_ble_eq_true rfl) rfl ?_
        dsimp only [List.set]
        refine r_aload_n (i := 0) d_Model_tree_91 rfl rfl ?_
        refine r_W0 v_Model_readsBehind w_996 lm_0 (c_Model_readsBehind (b := false) hXb hl b5 b3 h4b hRb hAb.2.2.1 hAb.2.1 hAb.2.2.2.1 hAb.2.2.2.2 (hI.2.2 rfl) hI.2.1) (Nat.le_of_ble_eq_true rfl) (Nat.le_of_ble_eq_true rfl) d_Model_tree_92 (fun vp Np hvp => ?_)
        obtain ⟨p1, p2⟩ := hvp
        have hFp := hFb.tr p1
        have hcst : cst tx len (q, false, mk, pr, T) = cstO (q, false, mk, pr, T) (ltr tx len q) := by
          unfold cst
          rw [if_neg b4]
          rfl
        refine beh_cases p2 (fun e hcs ev k1 k2 => ?_) (fun T2 hcs ev k1 k2 k3 => ?_) (fun q2 mk2 pr2 T2 hcs ev k1 k2 k3 => ?_) (fun q2 mk2 pr2 T2 hcs ev k2 k3 => ?_)
        · skip
          subst ev
          refine r_istore_n (i := 1) d_Model_tree_95 rfl (Nat.le_of_ble_eq_true rfl) rfl ?_
          dsimp only [List.set]
          refine r_iload_n (i := 1) d_Model_tree_96 rfl rfl ?_
          refine r_if_ne 108 d_Model_tree_97 (by decide) (fun h_97 => ?_) (fun h_97 => ?_)
          · exact absurd h_97 (by decide)
          · skip
            refine r_aload_n (i := 0) d_Model_tree_100 rfl rfl ?_
            refine r_geti nf_Model_85 lm_0 rfl d_Model_tree_101 ?_
            refine r_iload_n (i := 3) d_Model_tree_104 rfl rfl ?_
            refine r_icmp_le 112 d_Model_tree_105 (by decide) (fun h_105 => ?_) (fun h_105 => ?_)
            · skip
              refine r_iconst 0 d_Model_tree_112 ic_0 ?_
              refine r_istore_n (i := 2) d_Model_tree_113 rfl (Nat.le_of_ble_eq_true rfl) rfl ?_
              dsimp only [List.set]
              refine r_goto 36 d_Model_tree_114 (by decide) ?_
              rw [runp_s, hcst.trans hcs] at g3
              exact x0_Model_tree (f := e) (by omega) k1 (hf e Np hFp g3.symm k2 k1)
            · skip
              refine r_iconst 1 d_Model_tree_108 ic_1 ?_
              refine r_goto 113 d_Model_tree_109 (by decide) ?_
              refine r_istore_n (i := 2) d_Model_tree_113 rfl (Nat.le_of_ble_eq_true rfl) rfl ?_
              dsimp only [List.set]
              refine r_goto 36 d_Model_tree_114 (by decide) ?_
              rw [runp_s, hcst.trans hcs] at g3
              exact x0_Model_tree (f := e) (by omega) k1 (hf e Np hFp g3.symm k2 k1)
        · skip
          subst ev
          refine r_istore_n (i := 1) d_Model_tree_95 rfl (Nat.le_of_ble_eq_true rfl) rfl ?_
          dsimp only [List.set]
          refine r_iload_n (i := 1) d_Model_tree_96 rfl rfl ?_
          refine r_if_ne 108 d_Model_tree_97 (by decide) (fun h_97 => ?_) (fun h_97 => ?_)
          · exact absurd h_97 (by decide)
          · skip
            refine r_aload_n (i := 0) d_Model_tree_100 rfl rfl ?_
            refine r_geti nf_Model_85 lm_0 rfl d_Model_tree_101 ?_
            refine r_iload_n (i := 3) d_Model_tree_104 rfl rfl ?_
            refine r_icmp_le 112 d_Model_tree_105 (by decide) (fun h_105 => ?_) (fun h_105 => ?_)
            · skip
              refine r_iconst 0 d_Model_tree_112 ic_0 ?_
              refine r_istore_n (i := 2) d_Model_tree_113 rfl (Nat.le_of_ble_eq_true rfl) rfl ?_
              dsimp only [List.set]
              refine r_goto 36 d_Model_tree_114 (by decide) ?_
              rw [runp_s, hcst.trans hcs] at g3
              exact x1_Model_tree k1 (he T2 Np _ _ hFp g3.symm k3)
            · skip
              rw [k2] at h_105
              exact absurd (nI_le (Nat.le_refl q) (by omega)) h_105
        · skip
          subst ev
          obtain ⟨hA2, hlt2⟩ := cst_ok hAb (hcst.trans hcs)
          simp only at hlt2
          refine r_istore_n (i := 1) d_Model_tree_95 rfl (Nat.le_of_ble_eq_true rfl) rfl ?_
          dsimp only [List.set]
          refine r_iload_n (i := 1) d_Model_tree_96 rfl rfl ?_
          refine r_if_ne 108 d_Model_tree_97 (by decide) (fun h_97 => ?_) (fun h_97 => ?_)
          · skip
            refine r_iconst 1 d_Model_tree_108 ic_1 ?_
            refine r_goto 113 d_Model_tree_109 (by decide) ?_
            refine r_istore_n (i := 2) d_Model_tree_113 rfl (Nat.le_of_ble_eq_true rfl) rfl ?_
            dsimp only [List.set]
            refine r_goto 36 d_Model_tree_114 (by decide) ?_
            rw [runp_s, hcst.trans hcs] at g3
            exact ih f3 (by omega) (q2, true, mk2, pr2, T2) Np _ (by show len + 1 ≤ q2 + f3; omega) g3 ⟨hA2, cstO_ord hI.2.1 hAb hcs, fun h => absurd (show true = false from h) (by decide)⟩ hFp k1 k2 k3
          · exact absurd h_97 (by decide)
        · skip
          subst ev
          obtain ⟨hA2, hlt2⟩ := cst_ok hAb (hcst.trans hcs)
          simp only at hlt2
          have hA2l : q2 ≤ len := hA2.1
          refine r_istore_n (i := 1) d_Model_tree_95 rfl (Nat.le_of_ble_eq_true rfl) rfl ?_
          dsimp only [List.set]
          refine r_iload_n (i := 1) d_Model_tree_96 rfl rfl ?_
          refine r_if_ne 108 d_Model_tree_97 (by decide) (fun h_97 => ?_) (fun h_97 => ?_)
          · exact absurd h_97 (by decide)
          · skip
            refine r_aload_n (i := 0) d_Model_tree_100 rfl rfl ?_
            refine r_geti nf_Model_85 lm_0 rfl d_Model_tree_101 ?_
            refine r_iload_n (i := 3) d_Model_tree_104 rfl rfl ?_
            refine r_icmp_le 112 d_Model_tree_105 (by decide) (fun h_105 => ?_) (fun h_105 => ?_)
            · skip
              rw [k2] at h_105
              exact absurd ((nI_leI (a := q2) (b := q) (by omega) (by omega)).mp h_105) (by omega)
            · skip
              refine r_iconst 1 d_Model_tree_108 ic_1 ?_
              refine r_goto 113 d_Model_tree_109 (by decide) ?_
              refine r_istore_n (i := 2) d_Model_tree_113 rfl (Nat.le_of_ble_eq_true rfl) rfl ?_
              dsimp only [List.set]
              refine r_goto 36 d_Model_tree_114 (by decide) ?_
              rw [runp_s, hcst.trans hcs] at g3
              have hrun2 : runp tx len f3 (q2, false, mk2, pr2, T2) = R := g3
              have hq2 : q2 ≤ len := hA2.1
              have hrn := runp_nrm (tx := tx) (len := len) f3 q2 mk2 pr2 T2 (by omega) (by omega)
              skip
              rw [hrn] at hrun2
              cases hs : stl 2 mk2 pr2 T2 with
              | inl e =>
                rw [hs] at k3 hrun2
                have hlt : e < len := k3.2
                exact x0_Model_tree (f := e) (by omega) k3.1 (hf e _ hFp hrun2.symm (by omega) k3.1)
              | inr w =>
                rw [hs] at k3 hrun2
                exact ih f3 (by omega) (q2, false, w.1, w.2.1, w.2.2) _ _ (by show len + 1 ≤ q2 + f3; omega) hrun2 (inv_nrm (b := (q2, mk2, pr2, T2)) hA2 (cstO_ord hI.2.1 hAb hcs) hs) hFp k3.1 k2 k3.2
      · exact absurd h_52 (by decide)

end MMt
