-- Reader: read
theorem dgs_le (tx : Nat → Int32) : ∀ (f p : Nat), dgs tx p f ≤ f
  | 0, p => Nat.le_refl _
  | f + 1, p => by
    rw [dgs]
    split
    · have := dgs_le tx f (p + 1); omega
    · omega
theorem dgs_1 {tx : Nat → Int32} {p f : Nat} (h : 1 ≤ dgs tx p f) : isDg (tx p) = true := by
  cases f with
  | zero => simp [dgs] at h
  | succ f =>
    rw [dgs] at h
    by_cases e : isDg (tx p) = true
    · exact e
    · rw [if_neg e] at h; omega
theorem dgs_2 {tx : Nat → Int32} {p f : Nat} (h : 2 ≤ dgs tx p f) : isDg (tx (p + 1)) = true := by
  cases f with
  | zero => simp [dgs] at h
  | succ f =>
    rw [dgs] at h
    by_cases e : isDg (tx p) = true
    · rw [if_pos e] at h
      exact dgs_1 (f := f) (by omega)
    · rw [if_neg e] at h; omega
theorem isDg_v {c : Int32} (h : isDg c = true) : ∃ d, d < 10 ∧ c = nI (48 + d) := by
  simp only [isDg, Bool.and_eq_true, decide_eq_true_eq] at h
  have h0 : ¬ c < 0 := fun q => h.1 (by rw [Int32.lt_iff_toInt_lt] at *; have : (48 : Int32).toInt = 48 := by decide
                                        have : (0 : Int32).toInt = 0 := by decide
                                        omega)
  obtain ⟨j, hj, rfl⟩ := nI_of h0
  have a : ¬ j < 48 := fun q => h.1 (show nI j < nI 48 from nI_lt q (by omega))
  have b : ¬ 57 < j := fun q => h.2 (show nI 57 < nI j from nI_lt q hj)
  exact ⟨j - 48, by omega, by rw [show 48 + (j - 48) = j by omega]⟩
theorem isNm_v {c : Int32} (h1 : ¬ c < 97) (h2 : ¬ 104 < c) : ∃ d, d < 8 ∧ c = nI (97 + d) := by
  have h0 : ¬ c < 0 := fun q => h1 (by rw [Int32.lt_iff_toInt_lt] at *; have : (97 : Int32).toInt = 97 := by decide
                                       have : (0 : Int32).toInt = 0 := by decide
                                       omega)
  obtain ⟨j, hj, rfl⟩ := nI_of h0
  have a : ¬ j < 97 := fun q => h1 (show nI j < nI 97 from nI_lt q (by omega))
  have b : ¬ 104 < j := fun q => h2 (show nI 104 < nI j from nI_lt q hj)
  exact ⟨j - 97, by omega, by rw [show 97 + (j - 97) = j by omega]⟩
theorem sub48 (d : Nat) : nI (48 + d) - 48 = nI d := by rw [show (48 : Int32) = nI 48 from rfl, pk_sub (by omega), show 48 + d - 48 = d by omega]
theorem sub97 (d : Nat) : nI (97 + d) - 97 = nI d := by rw [show (97 : Int32) = nI 97 from rfl, pk_sub (by omega), show 97 + d - 97 = d by omega]
theorem two48 (d e : Nat) : (nI (48 + d) - 48) * 10 + nI (48 + e) - 48 = nI (10 * d + e) := by
  rw [sub48, show (10 : Int32) = nI 10 from rfl, pk_mul, nI_add, show d * 10 + (48 + e) = 48 + (10 * d + e) by omega, sub48]
theorem lfS_ok {len : Nat} {a b : AS} {x y : Int32} {w : Nat} (hA : AOK len a) (hd : a.2.1 = true) (hw : a.1 + w ≤ len) (hl : (x = 48 ∧ ∃ v, v < 100 ∧ y = nI v) ∨ ∃ q, q < 8 ∧ x = nI (97 + q) ∧ y = nI q) (h : lfS a x y w = .inr (.inr b)) : AOK len b ∧ b.1 = a.1 + w := by
  unfold lfS adn at h
  by_cases e : a.2.2.2.2.1 = 31
  · rw [if_pos e] at h; cases h
  · rw [if_neg e] at h
    cases h
    have h31 := hA.2.2.2.2.1.1
    refine ⟨⟨hw, ?_, hA.2.2.1, ?_, tok_leaf (by omega) hA.2.2.2.2 hl⟩, rfl⟩
    · have := hA.2.1
      show a.2.2.1.length ≤ a.1 + w
      omega
    · have := hA.2.2.2.1
      rw [hd] at this
      show (a.2.2.2.2.1 :: a.2.2.2.1).length = nb a.2.2.1 + 1
      simp only [List.length_cons]
      simp only [if_true] at this
      omega
/-- a step keeps what must hold, and goes on in the text -/
theorem cst_ok {tx : Nat → Int32} {len : Nat} {a b : AS} (hA : AOK len a) (h : cst tx len a = .inr (.inr b)) : AOK len b ∧ a.1 < b.1 := by
  have hA1 := hA.1
  unfold cst at h
  by_cases hb : ltr tx len a.1 = 32
  · rw [if_pos hb] at h
    cases h
    have hlt : a.1 < len := by
      unfold ltr at hb
      by_cases q : a.1 < len
      · exact q
      · rw [if_neg q] at hb; exact absurd hb (by decide)
    refine ⟨⟨by show a.1 + 1 ≤ len; omega, ?_, hA.2.2⟩, by show a.1 < a.1 + 1; omega⟩
    have := hA.2.1
    show a.2.2.1.length ≤ a.1 + 1
    omega
  · rw [if_neg hb] at h
    cases hdue : a.2.1 with
    | true =>
      rw [hdue, if_pos rfl] at h
      unfold cstD at h
      by_cases c1 : ltr tx len a.1 = 40 ∨ ltr tx len a.1 = 126
      · rw [if_pos c1] at h
        cases h
        have hlt : a.1 < len := by
          unfold ltr at c1
          by_cases q : a.1 < len
          · exact q
          · rw [if_neg q] at c1; rcases c1 with c1 | c1 <;> exact absurd c1 (by decide)
        refine ⟨⟨by show a.1 + 1 ≤ len; omega, ?_, ?_, ?_, hA.2.2.2.2⟩, by show a.1 < a.1 + 1; omega⟩
        · have := hA.2.1
          show (_ :: a.2.2.1).length ≤ a.1 + 1
          simp only [List.length_cons]; omega
        · intro m hm
          rcases List.mem_cons.mp hm with rfl | hm
          · exact ⟨c1.elim Or.inl (fun e => Or.inr (Or.inl e)), hlt⟩
          · exact hA.2.2.1 m hm
        · have := hA.2.2.2.1
          rw [hdue] at this
          show a.2.2.2.1.length = nb (_ :: a.2.2.1) + 0
          rw [nb, if_pos c1]
          exact this
      · rw [if_neg c1] at h
        by_cases c2 : ¬ ltr tx len a.1 < 97 ∧ ¬ 104 < ltr tx len a.1
        · rw [if_pos c2] at h
          have hlt : a.1 < len := by
            by_cases q : a.1 < len
            · exact q
            · have : ltr tx len a.1 = -1 := by unfold ltr; rw [if_neg q]
              rw [this] at c2
              exact absurd c2.1 (by decide)
          obtain ⟨d, hd, e⟩ := isNm_v c2.1 c2.2
          obtain ⟨h1, h2⟩ := lfS_ok hA hdue (by omega) (Or.inr ⟨d, hd, e, by rw [e, sub97]⟩) h
          exact ⟨h1, by omega⟩
        · rw [if_neg c2] at h
          have hdl := dgs_le tx (len - a.1) a.1
          by_cases c3 : dgs tx a.1 (len - a.1) = 1
          · rw [if_pos c3] at h
            obtain ⟨d, hd, e⟩ := isDg_v (dgs_1 (tx := tx) (p := a.1) (f := len - a.1) (by omega))
            have el : ltr tx len a.1 = tx a.1 := by unfold ltr; rw [if_pos (by omega)]
            obtain ⟨h1, h2⟩ := lfS_ok hA hdue (by omega) (Or.inl ⟨rfl, d, by omega, by rw [el, e, sub48]⟩) h
            exact ⟨h1, by omega⟩
          · rw [if_neg c3] at h
            by_cases c4 : dgs tx a.1 (len - a.1) = 2 ∧ ltr tx len a.1 ≠ 48
            · rw [if_pos c4] at h
              obtain ⟨d, hd, e⟩ := isDg_v (dgs_1 (tx := tx) (p := a.1) (f := len - a.1) (by omega))
              obtain ⟨d2, hd2, e2⟩ := isDg_v (dgs_2 (tx := tx) (p := a.1) (f := len - a.1) (by omega))
              have el : ltr tx len a.1 = tx a.1 := by unfold ltr; rw [if_pos (by omega)]
              obtain ⟨h1, h2⟩ := lfS_ok hA hdue (by omega) (Or.inl ⟨rfl, 10 * d + d2, by omega, by rw [el, e, e2, two48]⟩) h
              exact ⟨h1, by omega⟩
            · rw [if_neg c4] at h; cases h
    | false =>
      rw [hdue, if_neg (by decide)] at h
      unfold cstO at h
      have hg : ∀ c : Int32, 0 < (if o_bin c then o_grip c else 1) := by
        intro c
        split
        · rename_i q
          unfold o_bin at q
          unfold o_grip
          split
          · decide
          · cases hp : o_prod c with
            | true => rw [if_pos rfl]; decide
            | false =>
              rw [if_neg (by decide)]
              rw [hp, Bool.or_false] at q
              rw [q, if_pos rfl]; decide
        · decide
      have hpl : a.2.2.2.1.length = nb a.2.2.1 + 1 := by rw [hA.2.2.2.1, hdue]; rfl
      cases hs : stl (if o_bin (ltr tx len a.1) then o_grip (ltr tx len a.1) else 1) a.2.2.1 a.2.2.2.1 a.2.2.2.2 with
      | inl f => rw [hs] at h; cases h
      | inr w =>
        rw [hs] at h
        obtain ⟨k1, k2, k3, k4, -⟩ := stl_ok a.2.2.1 a.2.2.2.1 a.2.2.2.2 hA.2.2.1 (hg _) hpl hA.2.2.2.2 w hs
        have hA2 := hA.2.1
        have hlt : ltr tx len a.1 ≠ -1 → a.1 < len := by
          intro q
          by_cases q2 : a.1 < len
          · exact q2
          · exact absurd (by unfold ltr; rw [if_neg q2]) q
        dsimp only at h
        by_cases c1 : o_bin (ltr tx len a.1) = true
        · rw [if_pos c1] at h
          cases h
          have hl := hlt (fun e => by rw [e] at c1; exact absurd c1 (by decide))
          refine ⟨⟨by show a.1 + 1 ≤ len; omega, ?_, ?_, ?_, k4⟩, by show a.1 < a.1 + 1; omega⟩
          · show (_ :: w.1).length ≤ a.1 + 1
            simp only [List.length_cons]; omega
          · intro m hm
            rcases List.mem_cons.mp hm with rfl | hm
            · exact ⟨Or.inr (Or.inr c1), hl⟩
            · exact k1 m hm
          · show w.2.1.length = nb (_ :: w.1) + 0
            rw [nb, if_neg, k3]
            intro e
            rcases e with e | e <;> (rw [show (ltr tx len a.1, a.1).1 = ltr tx len a.1 from rfl] at e; rw [e] at c1; exact absurd c1 (by decide))
        · rw [if_neg c1] at h
          by_cases c2 : ltr tx len a.1 = 41 ∧ w.1 ≠ []
          · rw [if_pos c2] at h
            cases h
            have hl := hlt (fun e => by rw [e] at c2; exact absurd c2.1 (by decide))
            cases hw : w.1 with
            | nil => exact absurd hw c2.2
            | cons m r =>
              refine ⟨⟨by show a.1 + 1 ≤ len; omega, ?_, ?_, ?_, k4⟩, by show a.1 < a.1 + 1; omega⟩
              · show r.length ≤ a.1 + 1
                rw [hw] at k2
                simp only [List.length_cons] at k2
                omega
              · intro m' hm
                exact k1 m' (by rw [hw]; exact List.mem_cons_of_mem _ hm)
              · show w.2.1.length = nb r + 1
                have hm1 := (k1 m (by rw [hw]; exact List.mem_cons_self)).1
                have hgr : o_grip m.1 < 1 := by
                  have := (stl_ok a.2.2.1 a.2.2.2.1 a.2.2.2.2 hA.2.2.1 (hg _) hpl hA.2.2.2.2 w hs).2.2.2.2 m r hw
                  rwa [if_neg c1] at this
                have hcond : m.1 = 40 ∨ m.1 = 126 := by
                  rcases hm1 with e | e | e
                  · exact Or.inl e
                  · exact Or.inr e
                  · exfalso
                    have : ¬ o_grip m.1 < 1 := by
                      unfold o_bin at e
                      unfold o_grip
                      split
                      · decide
                      · cases hp : o_prod m.1 with
                        | true => rw [if_pos rfl]; decide
                        | false =>
                          rw [if_neg (by decide)]
                          rw [hp, Bool.or_false] at e
                          rw [e, if_pos rfl]; decide
                    exact this hgr
                rw [k3, hw, nb, if_pos hcond]
          · rw [if_neg c2] at h
            by_cases c3 : ltr tx len a.1 = -1 ∧ w.1 = []
            · rw [if_pos c3] at h; cases h
            · rw [if_neg c3] at h; cases h
theorem cst_end {tx : Nat → Int32} {len : Nat} {a : AS} {T : AT} (hA : AOK len a) (h : cst tx len a = .inr (.inl T)) : WF T.1 T.2.1 T.2.2.1 T.2.2.2.1 T.2.2.2.2.1 T.2.2.2.2.2 ∧ 1 ≤ T.1 := by
  unfold cst at h
  by_cases hb : ltr tx len a.1 = 32
  · rw [if_pos hb] at h; cases h
  · rw [if_neg hb] at h
    cases hdue : a.2.1 with
    | true =>
      rw [hdue, if_pos rfl] at h
      unfold cstD lfS at h
      repeat' split at h
      all_goals (first | cases h | (split at h <;> cases h))
    | false =>
      rw [hdue, if_neg (by decide)] at h
      unfold cstO at h
      cases hs : stl (if o_bin (ltr tx len a.1) then o_grip (ltr tx len a.1) else 1) a.2.2.1 a.2.2.2.1 a.2.2.2.2 with
      | inl f => rw [hs] at h; cases h
      | inr w =>
        rw [hs] at h
        dsimp only at h
        by_cases c1 : o_bin (ltr tx len a.1) = true
        · rw [if_pos c1] at h; cases h
        · rw [if_neg c1] at h
          have hpl : a.2.2.2.1.length = nb a.2.2.1 + 1 := by rw [hA.2.2.2.1, hdue]; rfl
          have hk := stl_ok a.2.2.1 a.2.2.2.1 a.2.2.2.2 hA.2.2.1 (g := if o_bin (ltr tx len a.1) then o_grip (ltr tx len a.1) else 1) (by rw [if_neg c1]; decide) hpl hA.2.2.2.2 w hs
          by_cases c2 : ltr tx len a.1 = 41 ∧ w.1 ≠ []
          · rw [if_pos c2] at h; cases h
          · rw [if_neg c2] at h
            by_cases c3 : ltr tx len a.1 = -1 ∧ w.1 = []
            · rw [if_pos c3] at h
              cases h
              refine ⟨hk.2.2.2.1.1, ?_⟩
              have := tok_len hk.2.2.2.1
              omega
            · rw [if_neg c3] at h; cases h
section MRdr4
variable {G : nw_G}
theorem l_Reader_readS {len s : Nat} {N : nw_M} (hs : N 3 8 = 1 ∨ N 3 6 ≠ -9) {P : Option Value → nw_M → Prop} (hP : P (some (.int (N 3 6))) N) (o5 : Option Value) : RJ G LC m_Reader_read 5 P 38 [some (.ref (G.2.2 3)), some (.ref (G.2.2 1)), some (.int (nI len)), some (.ref (G.2.2 82)), some (.int (nI s)), o5] [] N := by
  refine r_iload d_Reader_read_38 rfl ?_
  refine r_iload_n (i := 2) d_Reader_read_40 rfl rfl ?_
  refine r_icmp_gt 134 d_Reader_read_41 (by decide) (fun h_41 => ?_) (fun h_41 => ?_)
  · skip
    refine r_aload_n (i := 0) d_Reader_read_134 rfl rfl ?_
    refine r_geti nf_Reader_36 lc_3 rfl d_Reader_read_135 ?_
    refine r_iret rfl d_Reader_read_138 ?_
    exact hP
  · skip
    refine r_aload_n (i := 0) d_Reader_read_44 rfl rfl ?_
    refine r_geti nf_Reader_43 lc_3 rfl d_Reader_read_45 ?_
    refine r_if_ne 134 d_Reader_read_48 (by decide) (fun h_48 => ?_) (fun h_48 => ?_)
    · skip
      refine r_aload_n (i := 0) d_Reader_read_134 rfl rfl ?_
      refine r_geti nf_Reader_36 lc_3 rfl d_Reader_read_135 ?_
      refine r_iret rfl d_Reader_read_138 ?_
      exact hP
    · skip
      refine r_aload_n (i := 0) d_Reader_read_51 rfl rfl ?_
      refine r_geti nf_Reader_36 lc_3 rfl d_Reader_read_52 ?_
      refine r_bipush (-9) d_Reader_read_55 bp_m9 ?_
      refine r_icmp_ne 134 d_Reader_read_57 (by decide) (fun h_57 => ?_) (fun h_57 => ?_)
      · skip
        refine r_aload_n (i := 0) d_Reader_read_134 rfl rfl ?_
        refine r_geti nf_Reader_36 lc_3 rfl d_Reader_read_135 ?_
        refine r_iret rfl d_Reader_read_138 ?_
        exact hP
      · skip
        rcases hs with q | q
        · exact absurd (h_48.symm.trans q) (by decide)
        · exact absurd h_57 q

set_option maxHeartbeats 2000000 in
theorem l_Reader_read {len : Nat} (hlen : len ≤ 60) {M0 : nw_M} {tot : Nat ⊕ AT} {P : Option Value → nw_M → Prop} (hP : ∀ (v : Option Value) (N : nw_M), RF M0 N → (match tot with | .inl f => v = some (.int (nI f)) ∧ f ≤ len | .inr T => v = some (.int (-9)) ∧ TR 82 T N ∧ WF T.1 T.2.1 T.2.2.1 T.2.2.2.1 T.2.2.2.2.1 T.2.2.2.2.2 ∧ 1 ≤ T.1) → P v N) : ∀ (f : Nat) (a : AS) (s : Nat) (o5 : Option Value) (N : nw_M), len + 1 ≤ a.1 + f → runp (M0 2) len f a = tot → AOK len a → s ≤ a.1 → RM a N → RF M0 N → RJ G LC m_Reader_read 5 P 38 [some (.ref (G.2.2 3)), some (.ref (G.2.2 1)), some (.int (nI len)), some (.ref (G.2.2 82)), some (.int (nI s)), o5] [] N := by
  intro f
  induction f with
  | zero =>
    intro a s o5 N hf hr hA hs hR hF
    have := hA.1
    omega
  | succ f ih =>
    intro a s o5 N hf hr hA hs hR hF
    have hA1 := hA.1
    have q2 : N 2 = M0 2 := hF _ (by omega) (by omega) (by omega) (by omega) (by omega) (by omega) (by omega) (by omega) (by omega)
    have k5 : N 3 5 = nI a.1 := hR.2.1
    have next : ∀ (N2 : nw_M) (s2 : Nat) (o5 : Option Value), RF M0 N2 → s2 ≤ a.1 + 1 → RO (cst (M0 2) len a) len N2 → RJ G LC m_Reader_read 5 P 38 [some (.ref (G.2.2 3)), some (.ref (G.2.2 1)), some (.int (nI len)), some (.ref (G.2.2 82)), some (.int (nI s2)), o5] [] N2 := by
      intro N2 s2 o5 hF2 hs2 hO
      rw [runp] at hr
      cases hc : cst (M0 2) len a with
      | inl e =>
        rw [hc] at hr hO
        dsimp only at hr
        subst hr
        refine l_Reader_readS (Or.inr (by rw [hO.1]; exact nI_ne9 (by have := hO.2; omega))) (hP _ _ hF2 ?_) _
        exact ⟨by rw [hO.1], hO.2⟩
      | inr r =>
        cases r with
        | inl T =>
          rw [hc] at hr hO
          dsimp only at hr
          subst hr
          refine l_Reader_readS (Or.inl hO.2.1) (hP _ _ hF2 ?_) _
          exact ⟨by rw [hO.1], hO.2.2, cst_end hA hc⟩
        | inr b =>
          rw [hc] at hr hO
          dsimp only at hr
          obtain ⟨hb1, hb2⟩ := cst_ok hA hc
          exact ih b s2 _ N2 (by omega) hr hb1 (by omega) hO hF2
    refine r_iload d_Reader_read_38 rfl ?_
    refine r_iload_n (i := 2) d_Reader_read_40 rfl rfl ?_
    refine r_icmp_gt 134 d_Reader_read_41 (by decide) (fun h_41 => ?_) (fun h_41 => ?_)
    · skip
      exact absurd h_41 (nI_nlt (by omega) (by omega))
    · skip
      refine r_aload_n (i := 0) d_Reader_read_44 rfl rfl ?_
      refine r_geti nf_Reader_43 lc_3 rfl d_Reader_read_45 ?_
      refine r_if_ne 134 d_Reader_read_48 (by decide) (fun h_48 => ?_) (fun h_48 => ?_)
      · skip
        exact absurd hR.2.2.2.2 h_48
      · skip
        refine r_aload_n (i := 0) d_Reader_read_51 rfl rfl ?_
        refine r_geti nf_Reader_36 lc_3 rfl d_Reader_read_52 ?_
        refine r_bipush (-9) d_Reader_read_55 bp_m9 ?_
        refine r_icmp_ne 134 d_Reader_read_57 (by decide) (fun h_57 => ?_) (fun h_57 => ?_)
        · skip
          exact absurd hR.2.2.1 h_57
        · skip
          refine r_aload_n (i := 0) d_Reader_read_60 rfl rfl ?_
          refine r_geti nf_Reader_33 lc_3 rfl d_Reader_read_61 ?_
          refine r_iload_n (i := 2) d_Reader_read_64 rfl rfl ?_
          rw [k5]
          refine r_icmp_ge 79 d_Reader_read_65 (by decide) (fun h_65 => ?_) (fun h_65 => ?_)
          · skip
            have hlt : ¬ a.1 < len := fun q => absurd h_65 (nI_ge q (by omega))
            have hlr : ltr (M0 2) len a.1 = -1 := by unfold ltr; rw [if_neg hlt]
            refine r_iconst (-1) d_Reader_read_79 ic_m1 ?_
            refine r_istore d_Reader_read_80 (Nat.le_of_ble_eq_true rfl) rfl ?_
            dsimp only [List.set]
            refine r_iload d_Reader_read_82 rfl ?_
            refine r_bipush 32 d_Reader_read_84 bp_32 ?_
            refine r_icmp_ne 102 d_Reader_read_86 (by decide) (fun h_86 => ?_) (fun h_86 => ?_)
            · skip
              refine r_aload_n (i := 0) d_Reader_read_102 rfl rfl ?_
              refine r_geti nf_Reader_39 lc_3 rfl d_Reader_read_103 ?_
              refine r_if_eq 121 d_Reader_read_106 (by decide) (fun h_106 => ?_) (fun h_106 => ?_)
              · skip
                have hdue : a.2.1 = false := by rw [hR.2.2.2.1, bI_f] at h_106; exact h_106
                refine r_aload_n (i := 0) d_Reader_read_121 rfl rfl ?_
                refine r_iload d_Reader_read_122 rfl ?_
                refine r_aload_n (i := 3) d_Reader_read_124 rfl rfl ?_
                refine r_W2 v_Reader_takeOperator w_411 lc_3 (c_Reader_takeOperator _ hlen hR hA hdue (Or.inr rfl)) (Nat.le_of_ble_eq_true rfl) (Nat.le_of_ble_eq_true rfl) d_Reader_read_125 (fun v N2 hv => ?_)
                obtain ⟨rfl, hF2, hO⟩ := hv
                have hcs : cst (M0 2) len a = cstO a (-1) := by unfold cst; rw [hlr, if_neg (by decide), hdue, if_neg (by decide)]
                refine r_iinc d_Reader_read_128 rfl (nI_inc s) (Nat.le_of_ble_eq_true rfl) rfl ?_
                dsimp only [List.set]
                refine r_goto 38 d_Reader_read_131 (by decide) ?_
                exact next N2 (s + 1) _ (RF.tr hF hF2) (by omega) (by rw [hcs]; exact hO)
              · skip
                have hdue : a.2.1 = true := by rw [hR.2.2.2.1, bI_t] at h_106; exact h_106
                refine r_aload_n (i := 0) d_Reader_read_109 rfl rfl ?_
                refine r_iload d_Reader_read_110 rfl ?_
                refine r_aload_n (i := 1) d_Reader_read_112 rfl rfl ?_
                refine r_iload_n (i := 2) d_Reader_read_113 rfl rfl ?_
                refine r_aload_n (i := 3) d_Reader_read_114 rfl rfl ?_
                refine r_W4 v_Reader_takePart w_374 lc_3 (c_Reader_takePart _ hlen hR hA hdue (Or.inr rfl)) (Nat.le_of_ble_eq_true rfl) (Nat.le_of_ble_eq_true rfl) d_Reader_read_115 (fun v N2 hv => ?_)
                obtain ⟨rfl, hF2, hO⟩ := hv
                rw [q2] at hO
                have hcs : cst (M0 2) len a = cstD (M0 2) len a (-1) := by unfold cst; rw [hlr, if_neg (by decide), hdue, if_pos rfl]
                refine r_goto 128 d_Reader_read_118 (by decide) ?_
                refine r_iinc d_Reader_read_128 rfl (nI_inc s) (Nat.le_of_ble_eq_true rfl) rfl ?_
                dsimp only [List.set]
                refine r_goto 38 d_Reader_read_131 (by decide) ?_
                exact next N2 (s + 1) _ (RF.tr hF hF2) (by omega) (by rw [hcs]; exact hO)
            · exact absurd h_86 (by decide)
          · skip
            have hlt : a.1 < len := by
              rcases Nat.lt_or_ge a.1 len with q | q
              · exact q
              · exact absurd (nI_le q (by omega)) h_65
            have hlr : ltr (M0 2) len a.1 = N 2 a.1 := by unfold ltr; rw [if_pos hlt, q2]
            refine r_aload_n (i := 1) d_Reader_read_68 rfl rfl ?_
            refine r_aload_n (i := 0) d_Reader_read_69 rfl rfl ?_
            refine r_geti nf_Reader_33 lc_3 rfl d_Reader_read_70 ?_
            rw [k5]
            refine r_V1 v_Row_get w_370 row_1.1 (c2_Row_get row_1 (k := a.1) (by omega) (show N 2 a.1 = N 2 a.1 from rfl)) (Nat.le_of_ble_eq_true rfl) (Nat.le_of_ble_eq_true rfl) d_Reader_read_73 ?_
            refine r_goto 80 d_Reader_read_76 (by decide) ?_
            refine r_istore d_Reader_read_80 (Nat.le_of_ble_eq_true rfl) rfl ?_
            dsimp only [List.set]
            refine r_iload d_Reader_read_82 rfl ?_
            refine r_bipush 32 d_Reader_read_84 bp_32 ?_
            refine r_icmp_ne 102 d_Reader_read_86 (by decide) (fun h_86 => ?_) (fun h_86 => ?_)
            · skip
              refine r_aload_n (i := 0) d_Reader_read_102 rfl rfl ?_
              refine r_geti nf_Reader_39 lc_3 rfl d_Reader_read_103 ?_
              refine r_if_eq 121 d_Reader_read_106 (by decide) (fun h_106 => ?_) (fun h_106 => ?_)
              · skip
                have hdue : a.2.1 = false := by rw [hR.2.2.2.1, bI_f] at h_106; exact h_106
                refine r_aload_n (i := 0) d_Reader_read_121 rfl rfl ?_
                refine r_iload d_Reader_read_122 rfl ?_
                refine r_aload_n (i := 3) d_Reader_read_124 rfl rfl ?_
                refine r_W2 v_Reader_takeOperator w_411 lc_3 (c_Reader_takeOperator _ hlen hR hA hdue (Or.inl hlt)) (Nat.le_of_ble_eq_true rfl) (Nat.le_of_ble_eq_true rfl) d_Reader_read_125 (fun v N2 hv => ?_)
                obtain ⟨rfl, hF2, hO⟩ := hv
                have hcs : cst (M0 2) len a = cstO a (N 2 a.1) := by unfold cst; rw [hlr, if_neg h_86, hdue, if_neg (by decide)]
                refine r_iinc d_Reader_read_128 rfl (nI_inc s) (Nat.le_of_ble_eq_true rfl) rfl ?_
                dsimp only [List.set]
                refine r_goto 38 d_Reader_read_131 (by decide) ?_
                exact next N2 (s + 1) _ (RF.tr hF hF2) (by omega) (by rw [hcs]; exact hO)
              · skip
                have hdue : a.2.1 = true := by rw [hR.2.2.2.1, bI_t] at h_106; exact h_106
                refine r_aload_n (i := 0) d_Reader_read_109 rfl rfl ?_
                refine r_iload d_Reader_read_110 rfl ?_
                refine r_aload_n (i := 1) d_Reader_read_112 rfl rfl ?_
                refine r_iload_n (i := 2) d_Reader_read_113 rfl rfl ?_
                refine r_aload_n (i := 3) d_Reader_read_114 rfl rfl ?_
                refine r_W4 v_Reader_takePart w_374 lc_3 (c_Reader_takePart _ hlen hR hA hdue (Or.inl hlt)) (Nat.le_of_ble_eq_true rfl) (Nat.le_of_ble_eq_true rfl) d_Reader_read_115 (fun v N2 hv => ?_)
                obtain ⟨rfl, hF2, hO⟩ := hv
                rw [q2] at hO
                have hcs : cst (M0 2) len a = cstD (M0 2) len a (M0 2 a.1) := by unfold cst; rw [hlr, if_neg h_86, hdue, if_pos rfl, q2]
                refine r_goto 128 d_Reader_read_118 (by decide) ?_
                refine r_iinc d_Reader_read_128 rfl (nI_inc s) (Nat.le_of_ble_eq_true rfl) rfl ?_
                dsimp only [List.set]
                refine r_goto 38 d_Reader_read_131 (by decide) ?_
                exact next N2 (s + 1) _ (RF.tr hF hF2) (by omega) (by rw [hcs]; exact hO)
            · skip
              refine r_aload_n (i := 0) d_Reader_read_89 rfl rfl ?_
              refine r_dup d_Reader_read_90 rfl ?_
              refine r_geti nf_Reader_33 lc_3 rfl d_Reader_read_91 ?_
              refine r_iconst 1 d_Reader_read_94 ic_1 ?_
              refine r_iadd d_Reader_read_95 ?_
              refine r_puti nf_Reader_33 nfin_Reader_5 lc_3 rfl d_Reader_read_96 ?_
              refine r_goto 128 d_Reader_read_99 (by decide) ?_
              refine r_iinc d_Reader_read_128 rfl (nI_inc s) (Nat.le_of_ble_eq_true rfl) rfl ?_
              dsimp only [List.set]
              refine r_goto 38 d_Reader_read_131 (by decide) ?_
              have hcs : cst (M0 2) len a = .inr (.inr (a.1 + 1, a.2)) := by unfold cst; rw [hlr, if_pos h_86]
              refine next _ (s + 1) _ (fun e e1 e2 e3 e4 e5 e6 e7 e8 e9 => by simp (disch := omega) only [ms_ne]; exact hF e e1 e2 e3 e4 e5 e6 e7 e8 e9) (by omega) ?_
              rw [hcs]
              obtain ⟨⟨a1, a2, a3, a4, a5, a6, a7⟩, b5, b6, b7, b8⟩ := hR
              refine ⟨⟨?_, ?_, ?_, ?_, ?_, ?_, fun j hj => ?_⟩, ?_, ?_, ?_, ?_⟩
              · simp (disch := omega) only [ms_same, upd_ne]; exact a1
              · simp (disch := omega) only [ms_same, upd_ne]; exact a2
              · simp (disch := omega) only [ms_ne]; exact a3
              · simp (disch := omega) only [ms_ne]; exact a4
              · simp (disch := omega) only [ms_ne]; exact a5
              · simp (disch := omega) only [ms_ne]; exact a6
              · simp (disch := omega) only [ms_ne]; exact a7 j hj
              · simp (disch := omega) only [ms_same, upd_at]; rw [b5, nI_1]
              · simp (disch := omega) only [ms_same, upd_ne]; exact b6
              · simp (disch := omega) only [ms_same, upd_ne]; exact b7
              · simp (disch := omega) only [ms_same, upd_ne]; exact b8

def as0 : AS := (0, true, [], [], (0, fun _ => 0, fun _ => 0, fun _ => 0, fun _ => 0, fun _ => 0))
theorem c_Reader_read {len : Nat} (hlen : len ≤ 60) {M0 : nw_M} : CJ G LC m_Reader_read 5 [.ref (G.2.2 3), .ref (G.2.2 1), .int (nI len), .ref (G.2.2 82)] M0 (fun v N => RF M0 N ∧ match runp (M0 2) len (len + 1) as0 with | .inl f => v = some (.int (nI f)) ∧ f ≤ len | .inr T => v = some (.int (-9)) ∧ TR 82 T N ∧ WF T.1 T.2.1 T.2.2.1 T.2.2.2.1 T.2.2.2.2.1 T.2.2.2.2.2 ∧ 1 ≤ T.1) := by
  refine CJ_of2 (n0 := 2) (by decide) rfl rfl ?_
  simp only [List.map_cons, List.map_nil, List.cons_append, List.nil_append, List.reduceReplicate]
  refine r_aload_n (i := 0) d_Reader_read_0 rfl rfl ?_
  refine r_iconst 0 d_Reader_read_1 ic_0 ?_
  refine r_puti nf_Reader_26 nfin_Reader_3 lc_3 rfl d_Reader_read_2 ?_
  refine r_aload_n (i := 0) d_Reader_read_5 rfl rfl ?_
  refine r_iconst 0 d_Reader_read_6 ic_0 ?_
  refine r_puti nf_Reader_30 nfin_Reader_4 lc_3 rfl d_Reader_read_7 ?_
  refine r_aload_n (i := 0) d_Reader_read_10 rfl rfl ?_
  refine r_iconst 0 d_Reader_read_11 ic_0 ?_
  refine r_puti nf_Reader_33 nfin_Reader_5 lc_3 rfl d_Reader_read_12 ?_
  refine r_aload_n (i := 0) d_Reader_read_15 rfl rfl ?_
  refine r_bipush (-9) d_Reader_read_16 bp_m9 ?_
  refine r_puti nf_Reader_36 nfin_Reader_6 lc_3 rfl d_Reader_read_18 ?_
  refine r_aload_n (i := 0) d_Reader_read_21 rfl rfl ?_
  refine r_iconst 1 d_Reader_read_22 ic_1 ?_
  refine r_putz nf_Reader_39 nfin_Reader_7 (by decide) lc_3 rfl d_Reader_read_23 ?_
  refine r_aload_n (i := 0) d_Reader_read_26 rfl rfl ?_
  refine r_iconst 0 d_Reader_read_27 ic_0 ?_
  refine r_putz nf_Reader_43 nfin_Reader_8 (by decide) lc_3 rfl d_Reader_read_28 ?_
  refine r_aload_n (i := 3) d_Reader_read_31 rfl rfl ?_
  refine r_V0 v_Tree_empty w_366 tree_82.1 (c_Tree_empty tree_82 _ ) (Nat.le_of_ble_eq_true rfl) (Nat.le_of_ble_eq_true rfl) d_Reader_read_32 ?_
  refine r_iconst 0 d_Reader_read_35 ic_0 ?_
  refine r_istore d_Reader_read_36 (Nat.le_of_ble_eq_true rfl) rfl ?_
  dsimp only [List.set]
  refine l_Reader_read hlen (M0 := M0) (tot := runp (M0 2) len (len + 1) as0) (fun v N h1 h2 => ⟨h1, h2⟩) (len + 1) as0 0 _ _ (by omega) rfl ⟨Nat.zero_le _, Nat.zero_le _, (fun m h => by cases h), rfl, ⟨by decide, fun k hk => absurd hk (Nat.not_lt_zero k)⟩, rfl⟩ (Nat.le_refl _) ?_ (fun e e1 e2 e3 e4 e5 e6 e7 e8 e9 => by simp (disch := omega) only [ms_ne])
  refine ⟨⟨?_, ?_, trivial, trivial, trivial, ?_, fun j hj => absurd hj (Nat.not_lt_zero j)⟩, ?_, ?_, ?_, ?_⟩
  all_goals simp (disch := omega) only [ms_same, ms_ne, upd_ne, upd_at]
  all_goals rfl

end MRdr4
