-- the model: what is ALIKE, node
section MM4
variable {G : nw_G} {n : Nat} {le nu lf rt nm : Nat → Int32} {mc z ak : Nat → Nat} {M : nw_M}
def pe (le nu lf : Nat → Int32) (a b e : Nat) : Prop := le (a - e) = le (b - e) ∧ nu (a - e) = nu (b - e) ∧ (lf (a - e) = -9 ↔ lf (b - e) = -9) ∧ (lf (a - e) = -9 ∨ nI a - lf (a - e) = nI b - lf (b - e))
def SE (le nu lf : Nat → Int32) (z : Nat → Nat) (a b : Nat) : Prop := z a = z b ∧ ∀ e, e < z a → pe le nu lf a b e
theorem nI_shift {a d : Nat} (X : Int32) (h : d ≤ a) : nI (a - d) - X = nI a - X - nI d := by
  rw [← pk_sub h]
  simp only [Int32.sub_eq_add_neg]
  rw [Int32.add_assoc, Int32.add_comm (-nI d), ← Int32.add_assoc]
theorem pe_shift {a b d e : Nat} (h1 : d ≤ a) (h2 : d ≤ b) : pe le nu lf (a - d) (b - d) e ↔ pe le nu lf a b (e + d) := by
  unfold pe
  rw [show a - d - e = a - (e + d) by omega, show b - d - e = b - (e + d) by omega, nI_shift _ h1, nI_shift _ h2]
  have c : ∀ x y : Int32, x - nI d = y - nI d ↔ x = y := fun x y => ⟨fun h => by have := congrArg (· + nI d) h; simpa only [Int32.sub_add_cancel] using this, fun h => by rw [h]⟩
  rw [c]
theorem ak_alk (hA : ∀ k, k < n → AKk le nu lf rt ak k) {a b : Nat} (ha : a < n) (hb : b < n) : ak a = ak b ↔ alk le nu lf rt ak a b := by
  have A := hA a ha
  have B := hA b hb
  constructor
  · intro e
    have p := A.2.1
    have q := B.2.1
    rw [← e] at q
    exact ⟨p.1.symm.trans q.1, p.2.1.symm.trans q.2.1, p.2.2.1.symm.trans q.2.2.1, p.2.2.2.symm.trans q.2.2.2⟩
  · intro e
    have t1 : ∀ j, alk le nu lf rt ak j a → alk le nu lf rt ak j b := fun j h => ⟨h.1.trans e.1, h.2.1.trans e.2.1, h.2.2.1.trans e.2.2.1, h.2.2.2.trans e.2.2.2⟩
    have t2 : ∀ j, alk le nu lf rt ak j b → alk le nu lf rt ak j a := fun j h => ⟨h.1.trans e.1.symm, h.2.1.trans e.2.1.symm, h.2.2.1.trans e.2.2.1.symm, h.2.2.2.trans e.2.2.2.symm⟩
    rcases Nat.lt_trichotomy (ak a) (ak b) with q | q | q
    · exact absurd (t1 _ A.2.1) (B.2.2 _ q)
    · exact q
    · exact absurd (t2 _ B.2.1) (A.2.2 _ q)
theorem ak_b (hA : ∀ k, k < n → AKk le nu lf rt ak k) {k : Nat} (hk : k < n) : ak k ≤ k := (hA k hk).1
theorem akk_nI {c : Nat} (hc : c < 2 ^ 31) : akk ak (nI c) = nI (ak c) := by unfold akk; rw [if_neg (nI_ne9 hc), nI_clamp hc]
theorem leaf_iff (hw : WF n le nu lf rt z) {a b : Nat} (ha : a < n) (hb : b < n) (h : le a = le b) : lf a = -9 ↔ lf b = -9 := by
  have p := o_op_lf hw ha
  have q := o_op_lf hw hb
  rw [h, q] at p
  constructor
  · intro e; rw [e] at p; simpa using p
  · intro e; rw [e] at p; simpa using p.symm
theorem pair_iff (hw : WF n le nu lf rt z) {a b : Nat} (ha : a < n) (hb : b < n) (h : le a = le b) : rt a = -9 ↔ rt b = -9 := by
  have key : ∀ {a b : Nat}, a < n → b < n → le a = le b → rt a = -9 → rt b = -9 := by
    intro a b ha hb h hr
    apply Classical.byContradiction
    intro hq
    have s := hw.pair hb hq
    have l := (leaf_iff hw ha hb h)
    have hl : lf a ≠ -9 := fun e => hw.pair_lf hb hq (l.mp e)
    have t := hw.single ha hl hr
    rw [← h, t.1] at s
    exact absurd s.1 (by decide)
  exact ⟨key ha hb h, key hb ha h.symm⟩
theorem se_alk (hw : WF n le nu lf rt z) (hA : ∀ k, k < n → AKk le nu lf rt ak k) : ∀ a, a < n → ∀ b, b < n → (SE le nu lf z a b ↔ alk le nu lf rt ak a b) := by
  have hn := hw.1
  intro a
  induction a using Nat.strongRecOn with
  | _ a ih =>
    intro ha b hb
    have za := hw.zb a ha
    have zb := hw.zb b hb
    have ih2 : ∀ c, c < a → ∀ d, d < n → (SE le nu lf z c d ↔ ak c = ak d) := fun c hc d hd => (ih c hc (by omega) d hd).trans (ak_alk hA (by omega) hd).symm
    have e0 : (SE le nu lf z a b → le a = le b ∧ nu a = nu b ∧ (lf a = -9 ∨ nI a - lf a = nI b - lf b)) := fun h => by
      have := h.2 0 (by omega)
      exact ⟨this.1, this.2.1, this.2.2.2⟩
    by_cases hl : lf a = -9
    · have sa := hw.leaf_rt ha hl
      constructor
      · intro h
        have q := e0 h
        have hlb := (leaf_iff hw ha hb q.1).mp hl
        have sb := hw.leaf_rt hb hlb
        exact ⟨q.1, q.2.1, by rw [hl, hlb], by rw [sa.1, sb.1]⟩
      · intro h
        have hlb := (leaf_iff hw ha hb h.1).mp hl
        have sb := hw.leaf_rt hb hlb
        refine ⟨by omega, fun e he => ?_⟩
        have : e = 0 := by omega
        subst this
        exact ⟨h.1, h.2.1, ⟨fun _ => hlb, fun _ => hl⟩, Or.inl hl⟩
    · by_cases hr : rt a = -9
      · have sa := hw.single ha hl hr
        constructor
        · intro h
          have q := e0 h
          have hlb : lf b ≠ -9 := fun e => hl ((leaf_iff hw ha hb q.1).mpr e)
          have hrb := (pair_iff hw ha hb q.1).mp hr
          have sb := hw.single hb hlb hrb
          have hs : SE le nu lf z (a - 1) (b - 1) := by
            refine ⟨by have := h.1; omega, fun e he => (pe_shift (by omega) (by omega)).mpr (h.2 (e + 1) (by omega))⟩
          have := (ih2 (a - 1) (by omega) (b - 1) (by omega)).mp hs
          exact ⟨q.1, q.2.1, by rw [sa.2.2.2.1, sb.2.2.2.1, akk_nI (by omega), akk_nI (by omega), this], by rw [hr, hrb]⟩
        · intro h
          have hlb : lf b ≠ -9 := fun e => hl ((leaf_iff hw ha hb h.1).mpr e)
          have hrb := (pair_iff hw ha hb h.1).mp hr
          have sb := hw.single hb hlb hrb
          have e1 := h.2.2.1
          have k1 := ak_b hA (k := a - 1) (by omega)
          have k2 := ak_b hA (k := b - 1) (by omega)
          rw [sa.2.2.2.1, sb.2.2.2.1, akk_nI (by omega), akk_nI (by omega), nI_eq (by omega) (by omega)] at e1
          have hs := (ih2 (a - 1) (by omega) (b - 1) (by omega)).mpr e1
          refine ⟨by have := hs.1; omega, fun e he => ?_⟩
          by_cases q : e = 0
          · subst q
            refine ⟨h.1, h.2.1, ⟨fun x => absurd x hl, fun x => absurd x hlb⟩, Or.inr ?_⟩
            show nI a - lf a = nI b - lf b
            rw [sa.2.2.2.1, sb.2.2.2.1, pk_sub (by omega), pk_sub (by omega)]; congr 1; omega
          · have := (pe_shift (d := 1) (e := e - 1) (by omega) (by omega)).mp (hs.2 (e - 1) (by omega))
            rwa [show e - 1 + 1 = e by omega] at this
      · have sa := hw.pair ha hr
        have zR := hw.zb (a - 1) (by omega)
        have zL := hw.zb (a - 1 - z (a - 1)) (by omega)
        have ea := sa.2.2.2.2.2.2
        constructor
        · intro h
          have q := e0 h
          have hrb : rt b ≠ -9 := fun e => hr ((pair_iff hw ha hb q.1).mpr e)
          have sb := hw.pair hb hrb
          have eb := sb.2.2.2.2.2.2
          have zR' := hw.zb (b - 1) (by omega)
          have zL' := hw.zb (b - 1 - z (b - 1)) (by omega)
          have z1 : z (a - 1) = z (b - 1) := by
            have q2 := q.2.2.resolve_left hl
            rw [sa.2.2.2.2.2.1, sb.2.2.2.2.2.1, pk_sub (by omega), pk_sub (by omega), nI_eq (by omega) (by omega)] at q2
            omega
          have h1 := h.1
          have hsR : SE le nu lf z (a - 1) (b - 1) := ⟨z1, fun e he => (pe_shift (by omega) (by omega)).mpr (h.2 (e + 1) (by omega))⟩
          have hsL : SE le nu lf z (a - 1 - z (a - 1)) (b - 1 - z (b - 1)) := by
            refine ⟨by omega, fun e he => ?_⟩
            have := (pe_shift (le := le) (nu := nu) (lf := lf) (a := a) (b := b) (d := 1 + z (a - 1)) (e := e) (by omega) (by omega)).mpr (h.2 _ (by omega))
            rwa [show a - (1 + z (a - 1)) = a - 1 - z (a - 1) by omega, show b - (1 + z (a - 1)) = b - 1 - z (b - 1) by omega] at this
          have r1 := (ih2 _ (by omega) _ (by omega)).mp hsR
          have r2 := (ih2 _ (by omega) _ (by omega)).mp hsL
          exact ⟨q.1, q.2.1, by rw [sa.2.2.2.2.2.1, sb.2.2.2.2.2.1, akk_nI (by omega), akk_nI (by omega), r2], by rw [sa.2.2.2.1, sb.2.2.2.1, akk_nI (by omega), akk_nI (by omega), r1]⟩
        · intro h
          have hrb : rt b ≠ -9 := fun e => hr ((pair_iff hw ha hb h.1).mpr e)
          have hlb := hw.pair_lf hb hrb
          have sb := hw.pair hb hrb
          have eb := sb.2.2.2.2.2.2
          have zR' := hw.zb (b - 1) (by omega)
          have zL' := hw.zb (b - 1 - z (b - 1)) (by omega)
          have e1 := h.2.2.1
          have e2 := h.2.2.2
          have k1 := ak_b hA (k := a - 1) (by omega)
          have k2 := ak_b hA (k := b - 1) (by omega)
          have k3 := ak_b hA (k := a - 1 - z (a - 1)) (by omega)
          have k4 := ak_b hA (k := b - 1 - z (b - 1)) (by omega)
          rw [sa.2.2.2.2.2.1, sb.2.2.2.2.2.1, akk_nI (by omega), akk_nI (by omega), nI_eq (by omega) (by omega)] at e1
          rw [sa.2.2.2.1, sb.2.2.2.1, akk_nI (by omega), akk_nI (by omega), nI_eq (by omega) (by omega)] at e2
          have hsR := (ih2 (a - 1) (by omega) (b - 1) (by omega)).mpr e2
          have hsL := (ih2 (a - 1 - z (a - 1)) (by omega) (b - 1 - z (b - 1)) (by omega)).mpr e1
          have z1 := hsR.1
          have z2 := hsL.1
          refine ⟨by omega, fun e he => ?_⟩
          by_cases q : e = 0
          · subst q
            refine ⟨h.1, h.2.1, ⟨fun x => absurd x hl, fun x => absurd x hlb⟩, Or.inr ?_⟩
            show nI a - lf a = nI b - lf b
            rw [sa.2.2.2.2.2.1, sb.2.2.2.2.2.1, pk_sub (by omega), pk_sub (by omega)]; congr 1; omega
          · by_cases q2 : e ≤ z (a - 1)
            · have := (pe_shift (d := 1) (e := e - 1) (by omega) (by omega)).mp (hsR.2 (e - 1) (by omega))
              rwa [show e - 1 + 1 = e by omega] at this
            · have := hsL.2 (e - (1 + z (a - 1))) (by omega)
              rw [show a - 1 - z (a - 1) = a - (1 + z (a - 1)) by omega, show b - 1 - z (b - 1) = b - (1 + z (a - 1)) by omega] at this
              have := (pe_shift (d := 1 + z (a - 1)) (by omega) (by omega)).mp this
              rwa [show e - (1 + z (a - 1)) + (1 + z (a - 1)) = e by omega] at this
theorem se_ak (hw : WF n le nu lf rt z) (hA : ∀ k, k < n → AKk le nu lf rt ak k) {a b : Nat} (ha : a < n) (hb : b < n) : SE le nu lf z a b ↔ ak a = ak b := (se_alk hw hA a ha b hb).trans (ak_alk hA ha hb).symm
set_option maxHeartbeats 2000000 in
theorem l_Model_isAlike (hS : MS n le nu lf rt nm mc (M 3)) (hw : WF n le nu lf rt z) {a b : Nat} (ha : a < n) (hb : b < n) (hz : z a = z b) {P : Option Value → nw_M → Prop} (hP1 : SE le nu lf z a b → P (some (.int 1)) M) (hP0 : ¬ SE le nu lf z a b → P (some (.int 0)) M) : ∀ (d e : Nat) (o6 o7 : Option Value), e + d = z a → (∀ i, i < e → pe le nu lf a b i) → RJ G LM m_Model_isAlike 1 P 25 [some (.ref (G.2.2 0)), some (.int (nI a)), some (.int (nI b)), some (.int (nI (z a))), some (.int 1), some (.int (nI e)), o6, o7] [] M := by
  have hn := hw.1
  have za := hw.zb a ha
  have zb := hw.zb b hb
  have no : ∀ (e : Nat) (o6 o7 : Option Value), ¬ SE le nu lf z a b → RJ G LM m_Model_isAlike 1 P 25 [some (.ref (G.2.2 0)), some (.int (nI a)), some (.int (nI b)), some (.int (nI (z a))), some (.int 0), some (.int (nI e)), o6, o7] [] M := by
    intro e o6 o7 h
    have fin : RJ G LM m_Model_isAlike 1 P 190 [some (.ref (G.2.2 0)), some (.int (nI a)), some (.int (nI b)), some (.int (nI (z a))), some (.int 0), some (.int (nI e)), o6, o7] [] M := by
      refine r_iload d_Model_isAlike_190 rfl ?_
      exact r_zret rfl (by decide) d_Model_isAlike_192 (hP0 h)
    refine r_iload d_Model_isAlike_25 rfl ?_
    refine r_iload_n (i := 3) d_Model_isAlike_27 rfl rfl ?_
    refine r_icmp_ge 190 d_Model_isAlike_28 (by decide) (fun _ => fin) (fun _ => ?_)
    refine r_iload d_Model_isAlike_31 rfl ?_
    exact r_if_eq 190 d_Model_isAlike_33 (by decide) (fun _ => fin) (fun h9 => absurd rfl h9)
  intro d
  induction d with
  | zero =>
    intro e o6 o7 he hall
    simp only [Nat.add_zero] at he
    subst he
    refine r_iload d_Model_isAlike_25 rfl ?_
    refine r_iload_n (i := 3) d_Model_isAlike_27 rfl rfl ?_
    refine r_icmp_ge 190 d_Model_isAlike_28 (by decide) (fun _ => ?_) (fun h9 => absurd (nI_le (Nat.le_refl _) (by omega)) h9)
    refine r_iload d_Model_isAlike_190 rfl ?_
    exact r_zret rfl (by decide) d_Model_isAlike_192 (hP1 ⟨hz, hall⟩)
  | succ d ih =>
    intro e o6 o7 he hall
    refine r_iload d_Model_isAlike_25 rfl ?_
    refine r_iload_n (i := 3) d_Model_isAlike_27 rfl rfl ?_
    refine r_icmp_ge 190 d_Model_isAlike_28 (by decide) (fun h_28 => ?_) (fun h_28 => ?_)
    · skip
      exact absurd h_28 (nI_ge (by omega) (by omega))
    · skip
      refine r_iload d_Model_isAlike_31 rfl ?_
      refine r_if_eq 190 d_Model_isAlike_33 (by decide) (fun h_33 => ?_) (fun h_33 => ?_)
      · exact absurd h_33 (by decide)
      · skip
        refine r_iload_n (i := 1) d_Model_isAlike_36 rfl rfl ?_
        refine r_iload d_Model_isAlike_37 rfl ?_
        refine r_isubN (a := a) (b := e) d_Model_isAlike_39 rfl rfl (by omega) ?_
        refine r_istore d_Model_isAlike_40 (Nat.le_of_ble_eq_true rfl) rfl ?_
        dsimp only [List.set]
        refine r_iload_n (i := 2) d_Model_isAlike_42 rfl rfl ?_
        refine r_iload d_Model_isAlike_43 rfl ?_
        refine r_isubN (a := b) (b := e) d_Model_isAlike_45 rfl rfl (by omega) ?_
        refine r_istore d_Model_isAlike_46 (Nat.le_of_ble_eq_true rfl) rfl ?_
        dsimp only [List.set]
        refine r_aload_n (i := 0) d_Model_isAlike_48 rfl rfl ?_
        refine r_getr nf_Model_16 lm_0 rfl d_Model_isAlike_49 ?_
        refine r_iconst 1 d_Model_isAlike_52 ic_1 ?_
        refine r_iload d_Model_isAlike_53 rfl ?_
        refine r_iaddN (a := 1) (b := (a - e)) d_Model_isAlike_55 rfl rfl ?_
        refine r_ia (q := (1 + (a - e))) lm_3 rfl (by omega) (by decide) ((hS.gle (j := (a - e)) (by omega))) d_Model_isAlike_56 ?_
        refine r_aload_n (i := 0) d_Model_isAlike_57 rfl rfl ?_
        refine r_getr nf_Model_16 lm_0 rfl d_Model_isAlike_58 ?_
        refine r_iconst 1 d_Model_isAlike_61 ic_1 ?_
        refine r_iload d_Model_isAlike_62 rfl ?_
        refine r_iaddN (a := 1) (b := (b - e)) d_Model_isAlike_64 rfl rfl ?_
        refine r_ia (q := (1 + (b - e))) lm_3 rfl (by omega) (by decide) ((hS.gle (j := (b - e)) (by omega))) d_Model_isAlike_65 ?_
        refine r_icmp_ne 181 d_Model_isAlike_66 (by decide) (fun h_66 => ?_) (fun h_66 => ?_)
        · skip
          refine r_iconst 0 d_Model_isAlike_181 ic_0 ?_
          refine r_istore d_Model_isAlike_182 (Nat.le_of_ble_eq_true rfl) rfl ?_
          dsimp only [List.set]
          refine r_iinc d_Model_isAlike_184 rfl (nI_inc _) (Nat.le_of_ble_eq_true rfl) rfl ?_
          dsimp only [List.set]
          refine r_goto 25 d_Model_isAlike_187 (by decide) ?_
          first
            | (refine no (e + 1) _ _ ?_
               intro h
               have := h.2 e (by omega)
               unfold pe at this
               obtain ⟨p1, p2, p3, p4⟩ := this
               first
                 | exact h_66 p1
                 | exact h_89 p2
                 | exact h_104 (p3.mpr h_124)
                 | exact h_124 (p3.mp h_104)
                 | exact p4.elim h_147 h_174)
            | (refine ih (e + 1) _ _ (by omega) (fun i hi => ?_)
               by_cases q : i = e
               · subst q
                 first
                   | exact ⟨h_66, h_89, ⟨fun _ => h_124, fun _ => h_104⟩, Or.inl h_147⟩
                   | exact ⟨h_66, h_89, ⟨fun x => absurd x h_104, fun x => absurd x h_124⟩, Or.inl h_147⟩
                   | exact ⟨h_66, h_89, ⟨fun _ => h_124, fun _ => h_104⟩, Or.inr h_174⟩
                   | exact ⟨h_66, h_89, ⟨fun x => absurd x h_104, fun x => absurd x h_124⟩, Or.inr h_174⟩
               · exact hall i (by omega))
        · skip
          refine r_aload_n (i := 0) d_Model_isAlike_69 rfl rfl ?_
          refine r_getr nf_Model_16 lm_0 rfl d_Model_isAlike_70 ?_
          refine r_bipush 32 d_Model_isAlike_73 bp_32 ?_
          refine r_iload d_Model_isAlike_75 rfl ?_
          refine r_iaddN (a := 32) (b := (a - e)) d_Model_isAlike_77 rfl rfl ?_
          refine r_ia (q := (32 + (a - e))) lm_3 rfl (by omega) (by decide) ((hS.gnu (j := (a - e)) (by omega))) d_Model_isAlike_78 ?_
          refine r_aload_n (i := 0) d_Model_isAlike_79 rfl rfl ?_
          refine r_getr nf_Model_16 lm_0 rfl d_Model_isAlike_80 ?_
          refine r_bipush 32 d_Model_isAlike_83 bp_32 ?_
          refine r_iload d_Model_isAlike_85 rfl ?_
          refine r_iaddN (a := 32) (b := (b - e)) d_Model_isAlike_87 rfl rfl ?_
          refine r_ia (q := (32 + (b - e))) lm_3 rfl (by omega) (by decide) ((hS.gnu (j := (b - e)) (by omega))) d_Model_isAlike_88 ?_
          refine r_icmp_ne 181 d_Model_isAlike_89 (by decide) (fun h_89 => ?_) (fun h_89 => ?_)
          · skip
            refine r_iconst 0 d_Model_isAlike_181 ic_0 ?_
            refine r_istore d_Model_isAlike_182 (Nat.le_of_ble_eq_true rfl) rfl ?_
            dsimp only [List.set]
            refine r_iinc d_Model_isAlike_184 rfl (nI_inc _) (Nat.le_of_ble_eq_true rfl) rfl ?_
            dsimp only [List.set]
            refine r_goto 25 d_Model_isAlike_187 (by decide) ?_
            first
              | (refine no (e + 1) _ _ ?_
                 intro h
                 have := h.2 e (by omega)
                 unfold pe at this
                 obtain ⟨p1, p2, p3, p4⟩ := this
                 first
                   | exact h_66 p1
                   | exact h_89 p2
                   | exact h_104 (p3.mpr h_124)
                   | exact h_124 (p3.mp h_104)
                   | exact p4.elim h_147 h_174)
              | (refine ih (e + 1) _ _ (by omega) (fun i hi => ?_)
                 by_cases q : i = e
                 · subst q
                   first
                     | exact ⟨h_66, h_89, ⟨fun _ => h_124, fun _ => h_104⟩, Or.inl h_147⟩
                     | exact ⟨h_66, h_89, ⟨fun x => absurd x h_104, fun x => absurd x h_124⟩, Or.inl h_147⟩
                     | exact ⟨h_66, h_89, ⟨fun _ => h_124, fun _ => h_104⟩, Or.inr h_174⟩
                     | exact ⟨h_66, h_89, ⟨fun x => absurd x h_104, fun x => absurd x h_124⟩, Or.inr h_174⟩
                 · exact hall i (by omega))
          · skip
            refine r_aload_n (i := 0) d_Model_isAlike_92 rfl rfl ?_
            refine r_getr nf_Model_16 lm_0 rfl d_Model_isAlike_93 ?_
            refine r_bipush 63 d_Model_isAlike_96 bp_63 ?_
            refine r_iload d_Model_isAlike_98 rfl ?_
            refine r_iaddN (a := 63) (b := (a - e)) d_Model_isAlike_100 rfl rfl ?_
            refine r_ia (q := (63 + (a - e))) lm_3 rfl (by omega) (by decide) ((hS.glf (j := (a - e)) (by omega))) d_Model_isAlike_101 ?_
            refine r_bipush (-9) d_Model_isAlike_102 bp_m9 ?_
            refine r_icmp_ne 111 d_Model_isAlike_104 (by decide) (fun h_104 => ?_) (fun h_104 => ?_)
            · skip
              refine r_iconst 0 d_Model_isAlike_111 ic_0 ?_
              refine r_aload_n (i := 0) d_Model_isAlike_112 rfl rfl ?_
              refine r_getr nf_Model_16 lm_0 rfl d_Model_isAlike_113 ?_
              refine r_bipush 63 d_Model_isAlike_116 bp_63 ?_
              refine r_iload d_Model_isAlike_118 rfl ?_
              refine r_iaddN (a := 63) (b := (b - e)) d_Model_isAlike_120 rfl rfl ?_
              refine r_ia (q := (63 + (b - e))) lm_3 rfl (by omega) (by decide) ((hS.glf (j := (b - e)) (by omega))) d_Model_isAlike_121 ?_
              refine r_bipush (-9) d_Model_isAlike_122 bp_m9 ?_
              refine r_icmp_ne 131 d_Model_isAlike_124 (by decide) (fun h_124 => ?_) (fun h_124 => ?_)
              · skip
                refine r_iconst 0 d_Model_isAlike_131 ic_0 ?_
                refine r_icmp_ne 181 d_Model_isAlike_132 (by decide) (fun h_132 => ?_) (fun h_132 => ?_)
                · exact absurd h_132 (by decide)
                · skip
                  refine r_aload_n (i := 0) d_Model_isAlike_135 rfl rfl ?_
                  refine r_getr nf_Model_16 lm_0 rfl d_Model_isAlike_136 ?_
                  refine r_bipush 63 d_Model_isAlike_139 bp_63 ?_
                  refine r_iload d_Model_isAlike_141 rfl ?_
                  refine r_iaddN (a := 63) (b := (a - e)) d_Model_isAlike_143 rfl rfl ?_
                  refine r_ia (q := (63 + (a - e))) lm_3 rfl (by omega) (by decide) ((hS.glf (j := (a - e)) (by omega))) d_Model_isAlike_144 ?_
                  refine r_bipush (-9) d_Model_isAlike_145 bp_m9 ?_
                  refine r_icmp_eq 177 d_Model_isAlike_147 (by decide) (fun h_147 => ?_) (fun h_147 => ?_)
                  · skip
                    refine r_iconst 1 d_Model_isAlike_177 ic_1 ?_
                    refine r_goto 182 d_Model_isAlike_178 (by decide) ?_
                    refine r_istore d_Model_isAlike_182 (Nat.le_of_ble_eq_true rfl) rfl ?_
                    dsimp only [List.set]
                    refine r_iinc d_Model_isAlike_184 rfl (nI_inc _) (Nat.le_of_ble_eq_true rfl) rfl ?_
                    dsimp only [List.set]
                    refine r_goto 25 d_Model_isAlike_187 (by decide) ?_
                    first
                      | (refine no (e + 1) _ _ ?_
                         intro h
                         have := h.2 e (by omega)
                         unfold pe at this
                         obtain ⟨p1, p2, p3, p4⟩ := this
                         first
                           | exact h_66 p1
                           | exact h_89 p2
                           | exact h_104 (p3.mpr h_124)
                           | exact h_124 (p3.mp h_104)
                           | exact p4.elim h_147 h_174)
                      | (refine ih (e + 1) _ _ (by omega) (fun i hi => ?_)
                         by_cases q : i = e
                         · subst q
                           first
                             | exact ⟨h_66, h_89, ⟨fun _ => h_124, fun _ => h_104⟩, Or.inl h_147⟩
                             | exact ⟨h_66, h_89, ⟨fun x => absurd x h_104, fun x => absurd x h_124⟩, Or.inl h_147⟩
                             | exact ⟨h_66, h_89, ⟨fun _ => h_124, fun _ => h_104⟩, Or.inr h_174⟩
                             | exact ⟨h_66, h_89, ⟨fun x => absurd x h_104, fun x => absurd x h_124⟩, Or.inr h_174⟩
                         · exact hall i (by omega))
                  · skip
                    refine r_iload_n (i := 1) d_Model_isAlike_150 rfl rfl ?_
                    refine r_aload_n (i := 0) d_Model_isAlike_151 rfl rfl ?_
                    refine r_getr nf_Model_16 lm_0 rfl d_Model_isAlike_152 ?_
                    refine r_bipush 63 d_Model_isAlike_155 bp_63 ?_
                    refine r_iload d_Model_isAlike_157 rfl ?_
                    refine r_iaddN (a := 63) (b := (a - e)) d_Model_isAlike_159 rfl rfl ?_
                    refine r_ia (q := (63 + (a - e))) lm_3 rfl (by omega) (by decide) ((hS.glf (j := (a - e)) (by omega))) d_Model_isAlike_160 ?_
                    refine r_isub d_Model_isAlike_161 ?_
                    refine r_iload_n (i := 2) d_Model_isAlike_162 rfl rfl ?_
                    refine r_aload_n (i := 0) d_Model_isAlike_163 rfl rfl ?_
                    refine r_getr nf_Model_16 lm_0 rfl d_Model_isAlike_164 ?_
                    refine r_bipush 63 d_Model_isAlike_167 bp_63 ?_
                    refine r_iload d_Model_isAlike_169 rfl ?_
                    refine r_iaddN (a := 63) (b := (b - e)) d_Model_isAlike_171 rfl rfl ?_
                    refine r_ia (q := (63 + (b - e))) lm_3 rfl (by omega) (by decide) ((hS.glf (j := (b - e)) (by omega))) d_Model_isAlike_172 ?_
                    refine r_isub d_Model_isAlike_173 ?_
                    refine r_icmp_ne 181 d_Model_isAlike_174 (by decide) (fun h_174 => ?_) (fun h_174 => ?_)
                    · skip
                      refine r_iconst 0 d_Model_isAlike_181 ic_0 ?_
                      refine r_istore d_Model_isAlike_182 (Nat.le_of_ble_eq_true rfl) rfl ?_
                      dsimp only [List.set]
                      refine r_iinc d_Model_isAlike_184 rfl (nI_inc _) (Nat.le_of_ble_eq_true rfl) rfl ?_
                      dsimp only [List.set]
                      refine r_goto 25 d_Model_isAlike_187 (by decide) ?_
                      first
                        | (refine no (e + 1) _ _ ?_
                           intro h
                           have := h.2 e (by omega)
                           unfold pe at this
                           obtain ⟨p1, p2, p3, p4⟩ := this
                           first
                             | exact h_66 p1
                             | exact h_89 p2
                             | exact h_104 (p3.mpr h_124)
                             | exact h_124 (p3.mp h_104)
                             | exact p4.elim h_147 h_174)
                        | (refine ih (e + 1) _ _ (by omega) (fun i hi => ?_)
                           by_cases q : i = e
                           · subst q
                             first
                               | exact ⟨h_66, h_89, ⟨fun _ => h_124, fun _ => h_104⟩, Or.inl h_147⟩
                               | exact ⟨h_66, h_89, ⟨fun x => absurd x h_104, fun x => absurd x h_124⟩, Or.inl h_147⟩
                               | exact ⟨h_66, h_89, ⟨fun _ => h_124, fun _ => h_104⟩, Or.inr h_174⟩
                               | exact ⟨h_66, h_89, ⟨fun x => absurd x h_104, fun x => absurd x h_124⟩, Or.inr h_174⟩
                           · exact hall i (by omega))
                    · skip
                      refine r_iconst 1 d_Model_isAlike_177 ic_1 ?_
                      refine r_goto 182 d_Model_isAlike_178 (by decide) ?_
                      refine r_istore d_Model_isAlike_182 (Nat.le_of_ble_eq_true rfl) rfl ?_
                      dsimp only [List.set]
                      refine r_iinc d_Model_isAlike_184 rfl (nI_inc _) (Nat.le_of_ble_eq_true rfl) rfl ?_
                      dsimp only [List.set]
                      refine r_goto 25 d_Model_isAlike_187 (by decide) ?_
                      first
                        | (refine no (e + 1) _ _ ?_
                           intro h
                           have := h.2 e (by omega)
                           unfold pe at this
                           obtain ⟨p1, p2, p3, p4⟩ := this
                           first
                             | exact h_66 p1
                             | exact h_89 p2
                             | exact h_104 (p3.mpr h_124)
                             | exact h_124 (p3.mp h_104)
                             | exact p4.elim h_147 h_174)
                        | (refine ih (e + 1) _ _ (by omega) (fun i hi => ?_)
                           by_cases q : i = e
                           · subst q
                             first
                               | exact ⟨h_66, h_89, ⟨fun _ => h_124, fun _ => h_104⟩, Or.inl h_147⟩
                               | exact ⟨h_66, h_89, ⟨fun x => absurd x h_104, fun x => absurd x h_124⟩, Or.inl h_147⟩
                               | exact ⟨h_66, h_89, ⟨fun _ => h_124, fun _ => h_104⟩, Or.inr h_174⟩
                               | exact ⟨h_66, h_89, ⟨fun x => absurd x h_104, fun x => absurd x h_124⟩, Or.inr h_174⟩
                           · exact hall i (by omega))
              · skip
                refine r_iconst 1 d_Model_isAlike_127 ic_1 ?_
                refine r_goto 132 d_Model_isAlike_128 (by decide) ?_
                refine r_icmp_ne 181 d_Model_isAlike_132 (by decide) (fun h_132 => ?_) (fun h_132 => ?_)
                · skip
                  refine r_iconst 0 d_Model_isAlike_181 ic_0 ?_
                  refine r_istore d_Model_isAlike_182 (Nat.le_of_ble_eq_true rfl) rfl ?_
                  dsimp only [List.set]
                  refine r_iinc d_Model_isAlike_184 rfl (nI_inc _) (Nat.le_of_ble_eq_true rfl) rfl ?_
                  dsimp only [List.set]
                  refine r_goto 25 d_Model_isAlike_187 (by decide) ?_
                  first
                    | (refine no (e + 1) _ _ ?_
                       intro h
                       have := h.2 e (by omega)
                       unfold pe at this
                       obtain ⟨p1, p2, p3, p4⟩ := this
                       first
                         | exact h_66 p1
                         | exact h_89 p2
                         | exact h_104 (p3.mpr h_124)
                         | exact h_124 (p3.mp h_104)
                         | exact p4.elim h_147 h_174)
                    | (refine ih (e + 1) _ _ (by omega) (fun i hi => ?_)
                       by_cases q : i = e
                       · subst q
                         first
                           | exact ⟨h_66, h_89, ⟨fun _ => h_124, fun _ => h_104⟩, Or.inl h_147⟩
                           | exact ⟨h_66, h_89, ⟨fun x => absurd x h_104, fun x => absurd x h_124⟩, Or.inl h_147⟩
                           | exact ⟨h_66, h_89, ⟨fun _ => h_124, fun _ => h_104⟩, Or.inr h_174⟩
                           | exact ⟨h_66, h_89, ⟨fun x => absurd x h_104, fun x => absurd x h_124⟩, Or.inr h_174⟩
                       · exact hall i (by omega))
                · exact absurd h_132 (by decide)
            · skip
              refine r_iconst 1 d_Model_isAlike_107 ic_1 ?_
              refine r_goto 112 d_Model_isAlike_108 (by decide) ?_
              refine r_aload_n (i := 0) d_Model_isAlike_112 rfl rfl ?_
              refine r_getr nf_Model_16 lm_0 rfl d_Model_isAlike_113 ?_
              refine r_bipush 63 d_Model_isAlike_116 bp_63 ?_
              refine r_iload d_Model_isAlike_118 rfl ?_
              refine r_iaddN (a := 63) (b := (b - e)) d_Model_isAlike_120 rfl rfl ?_
              refine r_ia (q := (63 + (b - e))) lm_3 rfl (by omega) (by decide) ((hS.glf (j := (b - e)) (by omega))) d_Model_isAlike_121 ?_
              refine r_bipush (-9) d_Model_isAlike_122 bp_m9 ?_
              refine r_icmp_ne 131 d_Model_isAlike_124 (by decide) (fun h_124 => ?_) (fun h_124 => ?_)
              · skip
                refine r_iconst 0 d_Model_isAlike_131 ic_0 ?_
                refine r_icmp_ne 181 d_Model_isAlike_132 (by decide) (fun h_132 => ?_) (fun h_132 => ?_)
                · skip
                  refine r_iconst 0 d_Model_isAlike_181 ic_0 ?_
                  refine r_istore d_Model_isAlike_182 (Nat.le_of_ble_eq_true rfl) rfl ?_
                  dsimp only [List.set]
                  refine r_iinc d_Model_isAlike_184 rfl (nI_inc _) (Nat.le_of_ble_eq_true rfl) rfl ?_
                  dsimp only [List.set]
                  refine r_goto 25 d_Model_isAlike_187 (by decide) ?_
                  first
                    | (refine no (e + 1) _ _ ?_
                       intro h
                       have := h.2 e (by omega)
                       unfold pe at this
                       obtain ⟨p1, p2, p3, p4⟩ := this
                       first
                         | exact h_66 p1
                         | exact h_89 p2
                         | exact h_104 (p3.mpr h_124)
                         | exact h_124 (p3.mp h_104)
                         | exact p4.elim h_147 h_174)
                    | (refine ih (e + 1) _ _ (by omega) (fun i hi => ?_)
                       by_cases q : i = e
                       · subst q
                         first
                           | exact ⟨h_66, h_89, ⟨fun _ => h_124, fun _ => h_104⟩, Or.inl h_147⟩
                           | exact ⟨h_66, h_89, ⟨fun x => absurd x h_104, fun x => absurd x h_124⟩, Or.inl h_147⟩
                           | exact ⟨h_66, h_89, ⟨fun _ => h_124, fun _ => h_104⟩, Or.inr h_174⟩
                           | exact ⟨h_66, h_89, ⟨fun x => absurd x h_104, fun x => absurd x h_124⟩, Or.inr h_174⟩
                       · exact hall i (by omega))
                · exact absurd h_132 (by decide)
              · skip
                refine r_iconst 1 d_Model_isAlike_127 ic_1 ?_
                refine r_goto 132 d_Model_isAlike_128 (by decide) ?_
                refine r_icmp_ne 181 d_Model_isAlike_132 (by decide) (fun h_132 => ?_) (fun h_132 => ?_)
                · exact absurd h_132 (by decide)
                · skip
                  refine r_aload_n (i := 0) d_Model_isAlike_135 rfl rfl ?_
                  refine r_getr nf_Model_16 lm_0 rfl d_Model_isAlike_136 ?_
                  refine r_bipush 63 d_Model_isAlike_139 bp_63 ?_
                  refine r_iload d_Model_isAlike_141 rfl ?_
                  refine r_iaddN (a := 63) (b := (a - e)) d_Model_isAlike_143 rfl rfl ?_
                  refine r_ia (q := (63 + (a - e))) lm_3 rfl (by omega) (by decide) ((hS.glf (j := (a - e)) (by omega))) d_Model_isAlike_144 ?_
                  refine r_bipush (-9) d_Model_isAlike_145 bp_m9 ?_
                  refine r_icmp_eq 177 d_Model_isAlike_147 (by decide) (fun h_147 => ?_) (fun h_147 => ?_)
                  · skip
                    refine r_iconst 1 d_Model_isAlike_177 ic_1 ?_
                    refine r_goto 182 d_Model_isAlike_178 (by decide) ?_
                    refine r_istore d_Model_isAlike_182 (Nat.le_of_ble_eq_true rfl) rfl ?_
                    dsimp only [List.set]
                    refine r_iinc d_Model_isAlike_184 rfl (nI_inc _) (Nat.le_of_ble_eq_true rfl) rfl ?_
                    dsimp only [List.set]
                    refine r_goto 25 d_Model_isAlike_187 (by decide) ?_
                    first
                      | (refine no (e + 1) _ _ ?_
                         intro h
                         have := h.2 e (by omega)
                         unfold pe at this
                         obtain ⟨p1, p2, p3, p4⟩ := this
                         first
                           | exact h_66 p1
                           | exact h_89 p2
                           | exact h_104 (p3.mpr h_124)
                           | exact h_124 (p3.mp h_104)
                           | exact p4.elim h_147 h_174)
                      | (refine ih (e + 1) _ _ (by omega) (fun i hi => ?_)
                         by_cases q : i = e
                         · subst q
                           first
                             | exact ⟨h_66, h_89, ⟨fun _ => h_124, fun _ => h_104⟩, Or.inl h_147⟩
                             | exact ⟨h_66, h_89, ⟨fun x => absurd x h_104, fun x => absurd x h_124⟩, Or.inl h_147⟩
                             | exact ⟨h_66, h_89, ⟨fun _ => h_124, fun _ => h_104⟩, Or.inr h_174⟩
                             | exact ⟨h_66, h_89, ⟨fun x => absurd x h_104, fun x => absurd x h_124⟩, Or.inr h_174⟩
                         · exact hall i (by omega))
                  · skip
                    refine r_iload_n (i := 1) d_Model_isAlike_150 rfl rfl ?_
                    refine r_aload_n (i := 0) d_Model_isAlike_151 rfl rfl ?_
                    refine r_getr nf_Model_16 lm_0 rfl d_Model_isAlike_152 ?_
                    refine r_bipush 63 d_Model_isAlike_155 bp_63 ?_
                    refine r_iload d_Model_isAlike_157 rfl ?_
                    refine r_iaddN (a := 63) (b := (a - e)) d_Model_isAlike_159 rfl rfl ?_
                    refine r_ia (q := (63 + (a - e))) lm_3 rfl (by omega) (by decide) ((hS.glf (j := (a - e)) (by omega))) d_Model_isAlike_160 ?_
                    refine r_isub d_Model_isAlike_161 ?_
                    refine r_iload_n (i := 2) d_Model_isAlike_162 rfl rfl ?_
                    refine r_aload_n (i := 0) d_Model_isAlike_163 rfl rfl ?_
                    refine r_getr nf_Model_16 lm_0 rfl d_Model_isAlike_164 ?_
                    refine r_bipush 63 d_Model_isAlike_167 bp_63 ?_
                    refine r_iload d_Model_isAlike_169 rfl ?_
                    refine r_iaddN (a := 63) (b := (b - e)) d_Model_isAlike_171 rfl rfl ?_
                    refine r_ia (q := (63 + (b - e))) lm_3 rfl (by omega) (by decide) ((hS.glf (j := (b - e)) (by omega))) d_Model_isAlike_172 ?_
                    refine r_isub d_Model_isAlike_173 ?_
                    refine r_icmp_ne 181 d_Model_isAlike_174 (by decide) (fun h_174 => ?_) (fun h_174 => ?_)
                    · skip
                      refine r_iconst 0 d_Model_isAlike_181 ic_0 ?_
                      refine r_istore d_Model_isAlike_182 (Nat.le_of_ble_eq_true rfl) rfl ?_
                      dsimp only [List.set]
                      refine r_iinc d_Model_isAlike_184 rfl (nI_inc _) (Nat.le_of_ble_eq_true rfl) rfl ?_
                      dsimp only [List.set]
                      refine r_goto 25 d_Model_isAlike_187 (by decide) ?_
                      first
                        | (refine no (e + 1) _ _ ?_
                           intro h
                           have := h.2 e (by omega)
                           unfold pe at this
                           obtain ⟨p1, p2, p3, p4⟩ := this
                           first
                             | exact h_66 p1
                             | exact h_89 p2
                             | exact h_104 (p3.mpr h_124)
                             | exact h_124 (p3.mp h_104)
                             | exact p4.elim h_147 h_174)
                        | (refine ih (e + 1) _ _ (by omega) (fun i hi => ?_)
                           by_cases q : i = e
                           · subst q
                             first
                               | exact ⟨h_66, h_89, ⟨fun _ => h_124, fun _ => h_104⟩, Or.inl h_147⟩
                               | exact ⟨h_66, h_89, ⟨fun x => absurd x h_104, fun x => absurd x h_124⟩, Or.inl h_147⟩
                               | exact ⟨h_66, h_89, ⟨fun _ => h_124, fun _ => h_104⟩, Or.inr h_174⟩
                               | exact ⟨h_66, h_89, ⟨fun x => absurd x h_104, fun x => absurd x h_124⟩, Or.inr h_174⟩
                           · exact hall i (by omega))
                    · skip
                      refine r_iconst 1 d_Model_isAlike_177 ic_1 ?_
                      refine r_goto 182 d_Model_isAlike_178 (by decide) ?_
                      refine r_istore d_Model_isAlike_182 (Nat.le_of_ble_eq_true rfl) rfl ?_
                      dsimp only [List.set]
                      refine r_iinc d_Model_isAlike_184 rfl (nI_inc _) (Nat.le_of_ble_eq_true rfl) rfl ?_
                      dsimp only [List.set]
                      refine r_goto 25 d_Model_isAlike_187 (by decide) ?_
                      first
                        | (refine no (e + 1) _ _ ?_
                           intro h
                           have := h.2 e (by omega)
                           unfold pe at this
                           obtain ⟨p1, p2, p3, p4⟩ := this
                           first
                             | exact h_66 p1
                             | exact h_89 p2
                             | exact h_104 (p3.mpr h_124)
                             | exact h_124 (p3.mp h_104)
                             | exact p4.elim h_147 h_174)
                        | (refine ih (e + 1) _ _ (by omega) (fun i hi => ?_)
                           by_cases q : i = e
                           · subst q
                             first
                               | exact ⟨h_66, h_89, ⟨fun _ => h_124, fun _ => h_104⟩, Or.inl h_147⟩
                               | exact ⟨h_66, h_89, ⟨fun x => absurd x h_104, fun x => absurd x h_124⟩, Or.inl h_147⟩
                               | exact ⟨h_66, h_89, ⟨fun _ => h_124, fun _ => h_104⟩, Or.inr h_174⟩
                               | exact ⟨h_66, h_89, ⟨fun x => absurd x h_104, fun x => absurd x h_124⟩, Or.inr h_174⟩
                           · exact hall i (by omega))
theorem c_Model_isAlike (hS : MS n le nu lf rt nm mc (M 3)) (hw : WF n le nu lf rt z) (hA : ∀ k, k < n → AKk le nu lf rt ak k) {a b : Nat} (ha : a < n) (hb : b < n) : CF G LM m_Model_isAlike 1 [.ref (G.2.2 0), .int (nI a), .int (nI b)] M (some (.int (bI (decide (ak a = ak b))))) M := by
  have hn := hw.1
  have za := hw.zb a ha
  have zb := hw.zb b hb
  refine CJ_of2 (n0 := 5) (by decide) rfl rfl ?_
  simp only [List.map_cons, List.map_nil, List.cons_append, List.nil_append, List.reduceReplicate]
  refine r_aload_n (i := 0) d_Model_isAlike_0 rfl rfl ?_
  refine r_iload_n (i := 1) d_Model_isAlike_1 rfl rfl ?_
  refine r_V1 v_Model_sizeOf w_1040 lm_0 (c_Model_sizeOf hS hw ha) (Nat.le_of_ble_eq_true rfl) (Nat.le_of_ble_eq_true rfl) d_Model_isAlike_2 ?_
  refine r_istore_n (i := 3) d_Model_isAlike_5 rfl (Nat.le_of_ble_eq_true rfl) rfl ?_
  dsimp only [List.set]
  refine r_iload_n (i := 3) d_Model_isAlike_6 rfl rfl ?_
  refine r_aload_n (i := 0) d_Model_isAlike_7 rfl rfl ?_
  refine r_iload_n (i := 2) d_Model_isAlike_8 rfl rfl ?_
  refine r_V1 v_Model_sizeOf w_1040 lm_0 (c_Model_sizeOf hS hw hb) (Nat.le_of_ble_eq_true rfl) (Nat.le_of_ble_eq_true rfl) d_Model_isAlike_9 ?_
  refine r_icmp_ne 19 d_Model_isAlike_12 (by decide) (fun h_12 => ?_) (fun h_12 => ?_)
  · skip
    refine r_iconst 0 d_Model_isAlike_19 ic_0 ?_
    refine r_istore d_Model_isAlike_20 (Nat.le_of_ble_eq_true rfl) rfl ?_
    dsimp only [List.set]
    refine r_iconst 0 d_Model_isAlike_22 ic_0 ?_
    refine r_istore d_Model_isAlike_23 (Nat.le_of_ble_eq_true rfl) rfl ?_
    dsimp only [List.set]
    have ne : ¬ SE le nu lf z a b := fun h => h_12 (by rw [h.1])
    have nk : ¬ ak a = ak b := fun h => ne ((se_ak hw hA ha hb).mpr h)
    have fin : RJ G LM m_Model_isAlike 1 (fun v N' => v = some (.int (bI (decide (ak a = ak b)))) ∧ N' = M) 190 [some (.ref (G.2.2 0)), some (.int (nI a)), some (.int (nI b)), some (.int (nI (z a))), some (.int 0), some (.int 0), none, none] [] M := by
      refine r_iload d_Model_isAlike_190 rfl ?_
      exact r_zret rfl (by decide) d_Model_isAlike_192 ⟨by rw [decide_eq_false nk]; rfl, rfl⟩
    refine r_iload d_Model_isAlike_25 rfl ?_
    refine r_iload_n (i := 3) d_Model_isAlike_27 rfl rfl ?_
    refine r_icmp_ge 190 d_Model_isAlike_28 (by decide) (fun _ => fin) (fun _ => ?_)
    refine r_iload d_Model_isAlike_31 rfl ?_
    exact r_if_eq 190 d_Model_isAlike_33 (by decide) (fun _ => fin) (fun h9 => absurd rfl h9)
  · skip
    refine r_iconst 1 d_Model_isAlike_15 ic_1 ?_
    refine r_goto 20 d_Model_isAlike_16 (by decide) ?_
    refine r_istore d_Model_isAlike_20 (Nat.le_of_ble_eq_true rfl) rfl ?_
    dsimp only [List.set]
    refine r_iconst 0 d_Model_isAlike_22 ic_0 ?_
    refine r_istore d_Model_isAlike_23 (Nat.le_of_ble_eq_true rfl) rfl ?_
    dsimp only [List.set]
    exact l_Model_isAlike hS hw ha hb ((nI_eq (by omega) (by omega)).mp h_12) (fun h => ⟨by rw [decide_eq_true ((se_ak hw hA ha hb).mp h)]; rfl, rfl⟩) (fun h => ⟨by rw [decide_eq_false (fun q => h ((se_ak hw hA ha hb).mpr q))]; rfl, rfl⟩) (z a) 0 _ _ (by omega) (fun i hi => absurd hi (Nat.not_lt_zero i))

theorem l_Model_lowestAlike (hS : MS n le nu lf rt nm mc (M 3)) (hw : WF n le nu lf rt z) (hA : ∀ k, k < n → AKk le nu lf rt ak k) {k : Nat} (hk : k < n) : ∀ (d e : Nat), e + d = ak k → RJ G LM m_Model_lowestAlike 2 (fun v N => v = some (.int (nI (ak k))) ∧ N = M) 2 [some (.ref (G.2.2 0)), some (.int (nI k)), some (.int (nI e))] [] M := by
  have hn := hw.1
  have kb := ak_b hA hk
  have kk : ak (ak k) = ak k := (ak_alk hA (by omega) hk).mpr (hA k hk).2.1
  intro d
  induction d with
  | zero =>
    intro e he
    simp only [Nat.add_zero] at he
    subst he
    refine r_aload_n (i := 0) d_Model_lowestAlike_2 rfl rfl ?_
    refine r_iload_n (i := 2) d_Model_lowestAlike_3 rfl rfl ?_
    refine r_iload_n (i := 1) d_Model_lowestAlike_4 rfl rfl ?_
    refine r_V2 v_Model_isAlike w_1048 lm_0 (c_Model_isAlike hS hw hA (show ak k < n by omega) hk) (Nat.le_of_ble_eq_true rfl) (Nat.le_of_ble_eq_true rfl) d_Model_lowestAlike_5 ?_
    refine r_if_ne 17 d_Model_lowestAlike_8 (by decide) (fun _ => ?_) (fun h9 => absurd kk (of_decide_eq_false ((bI_f _).mp h9)))
    refine r_iload_n (i := 2) d_Model_lowestAlike_17 rfl rfl ?_
    exact r_iret rfl d_Model_lowestAlike_18 ⟨rfl, rfl⟩
  | succ d ih =>
    intro e he
    refine r_aload_n (i := 0) d_Model_lowestAlike_2 rfl rfl ?_
    refine r_iload_n (i := 2) d_Model_lowestAlike_3 rfl rfl ?_
    refine r_iload_n (i := 1) d_Model_lowestAlike_4 rfl rfl ?_
    refine r_V2 v_Model_isAlike w_1048 lm_0 (c_Model_isAlike hS hw hA (show e < n by omega) hk) (Nat.le_of_ble_eq_true rfl) (Nat.le_of_ble_eq_true rfl) d_Model_lowestAlike_5 ?_
    refine r_if_ne 17 d_Model_lowestAlike_8 (by decide) (fun h_8 => ?_) (fun h_8 => ?_)
    · skip
      have q := of_decide_eq_true ((bI_t _).mp h_8)
      have := ak_b hA (show e < n by omega)
      omega
    · skip
      refine r_iinc d_Model_lowestAlike_11 rfl (nI_inc _) (Nat.le_of_ble_eq_true rfl) rfl ?_
      dsimp only [List.set]
      refine r_goto 2 d_Model_lowestAlike_14 (by decide) ?_
      exact ih (e + 1) (by omega)

theorem c_Model_lowestAlike (hS : MS n le nu lf rt nm mc (M 3)) (hw : WF n le nu lf rt z) (hA : ∀ k, k < n → AKk le nu lf rt ak k) {k : Nat} (hk : k < n) : CF G LM m_Model_lowestAlike 2 [.ref (G.2.2 0), .int (nI k)] M (some (.int (nI (ak k)))) M := by
  refine CJ_of2 (n0 := 1) (by decide) rfl rfl ?_
  simp only [List.map_cons, List.map_nil, List.cons_append, List.nil_append, List.reduceReplicate]
  refine r_iconst 0 d_Model_lowestAlike_0 ic_0 ?_
  refine r_istore_n (i := 2) d_Model_lowestAlike_1 rfl (Nat.le_of_ble_eq_true rfl) rfl ?_
  dsimp only [List.set]
  exact l_Model_lowestAlike hS hw hA hk (ak k) 0 (by omega)

end MM4
