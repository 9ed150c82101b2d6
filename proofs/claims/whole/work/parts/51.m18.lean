-- the model: what stands behind a part
/-- a sum's mark stands on a parenthesis or on nothing -/
def mord : MK → Prop
  | [] => True
  | m :: r => (o_sum m.1 = true → ∀ m2 r2, r = m2 :: r2 → o_grip m2.1 < 1) ∧ mord r
/-- behind what is settled -/
def cstE (p : Nat) (w : MK × List Nat × AT) (c : Int32) : Nat ⊕ (AT ⊕ AS) :=
  if o_bin c then .inr (.inr (p + 1, true, (c, p) :: w.1, w.2.1, w.2.2))
  else if c = 41 ∧ w.1 ≠ [] then .inr (.inr (p + 1, false, w.1.tail, w.2.1, w.2.2))
  else if c = -1 ∧ w.1 = [] then .inr (.inl w.2.2)
  else .inl p
def PRB (r : Nat ⊕ (AT ⊕ AS)) (p len : Nat) (v : Option Value) (N : nw_M) : Prop := match r with
  | .inl f => v = some (.int 0) ∧ N 0 4 = nI f ∧ f ≤ len
  | .inr (.inl T) => v = some (.int 0) ∧ N 0 4 = -1 ∧ N 0 3 = nI p ∧ DR T N
  | .inr (.inr b) => match b.2.1 with
    | true => v = some (.int 1) ∧ N 0 4 = -1 ∧ N 0 3 = nI b.1 ∧ RQ b.2.2.1 b.2.2.2.1 b.2.2.2.2 N
    | false => v = some (.int 0) ∧ N 0 3 = nI b.1 ∧ SO (stl 2 b.2.2.1 b.2.2.2.1 b.2.2.2.2) len N
section MMb
variable {G : nw_G} {M N B : nw_M} {len p : Nat} {tx : Nat → Int32} {mk : MK} {pr : List Nat} {T : AT}
theorem grip_prod {c : Int32} (h : o_prod c = true) : o_grip c = 2 := by
  unfold o_grip
  by_cases e : c = 126
  · rw [e] at h; exact absurd h (by decide)
  · rw [if_neg e, if_pos h]
theorem grip_sum {c : Int32} (h : o_sum c = true) (h2 : o_prod c = false) : o_grip c = 1 := by
  unfold o_grip
  by_cases e : c = 126
  · rw [e] at h; exact absurd h (by decide)
  · rw [if_neg e, h2, if_neg (by decide), if_pos h]
theorem cstO_of {b : Bool} {c : Int32} {w : MK × List Nat × AT} (h : stl (if o_bin c then o_grip c else 1) mk pr T = .inr w) : cstO (p, b, mk, pr, T) c = cstE p w c := by
  unfold cstO cstE
  simp only [h]
theorem cstO_f {b : Bool} {c : Int32} {f : Nat} (h : stl (if o_bin c then o_grip c else 1) mk pr T = .inl f) : cstO (p, b, mk, pr, T) c = .inl f := by
  unfold cstO
  simp only [h]
theorem s_Model_readsBehind {P : Option Value → nw_M → Prop} {c : Int32} (hR : RQ mk pr T N) (hml : mk.length ≤ 60) (h4 : N 0 4 = -1) (hst : o_sum (lw mk) = false → RJ G LM m_Model_readsBehind 3 P 47 [some (.ref (G.2.2 0)), some (.int c)] [] N) (hgo : o_sum (lw mk) = true → RJ G LM m_Model_readsBehind 3 P 40 [some (.ref (G.2.2 0)), some (.int c)] [] N) : RJ G LM m_Model_readsBehind 3 P 23 [some (.ref (G.2.2 0)), some (.int c)] [] N := by
  refine r_aload_n (i := 0) d_Model_readsBehind_23 rfl rfl ?_
  refine r_V0 v_Model_isWell w_953 lm_0 (c_Model_isWell h4) (Nat.le_of_ble_eq_true rfl) (Nat.le_of_ble_eq_true rfl) d_Model_readsBehind_24 ?_
  refine r_if_eq 47 d_Model_readsBehind_27 (by decide) (fun h9 => absurd h9 (by decide)) (fun _ => ?_)
  refine r_aload_n (i := 0) d_Model_readsBehind_30 rfl rfl ?_
  refine r_V0 v_Model_lastWaiting w_985 lm_0 (c_Model_lastWaiting hR hml) (Nat.le_of_ble_eq_true rfl) (Nat.le_of_ble_eq_true rfl) d_Model_readsBehind_31 ?_
  refine r_S1 f_Model_isSum w_1000 (c_Model_isSum _ _) (Nat.le_of_ble_eq_true rfl) (Nat.le_of_ble_eq_true rfl) d_Model_readsBehind_34 ?_
  exact r_if_eq 47 d_Model_readsBehind_37 (by decide) (fun h => hst ((bI_f _).mp h)) (fun h => hgo ((bI_t _).mp h))
theorem xf_Model_readsBehind {P : Option Value → nw_M → Prop} {c : Int32} {f : Nat} (hf : f ≤ 60) (h4 : N 0 4 = nI f) (hp : RJ G LM m_Model_readsBehind 3 P 47 [some (.ref (G.2.2 0)), some (.int c)] [] N) : RJ G LM m_Model_readsBehind 3 P 23 [some (.ref (G.2.2 0)), some (.int c)] [] N := by
  refine r_aload_n (i := 0) d_Model_readsBehind_23 rfl rfl ?_
  refine r_V0 v_Model_isWell w_953 lm_0 (c0_Model_isWell (f := f) hf h4) (Nat.le_of_ble_eq_true rfl) (Nat.le_of_ble_eq_true rfl) d_Model_readsBehind_24 ?_
  exact r_if_eq 47 d_Model_readsBehind_27 (by decide) (fun _ => hp) (fun h9 => absurd rfl h9)
theorem l_Model_readsBehind {P : Option Value → nw_M → Prop} {c : Int32} (hlen : len ≤ 60) (hm : ∀ m ∈ mk, mkOK m ∧ m.2 < len) (hml : mk.length ≤ 60) (hpl : pr.length = nb mk + 1) (hT : TOK pr T) (hR : RQ mk pr T M) (h4 : M 0 4 = -1) (hst : ¬ (lw mk = 126 ∨ o_prod (lw mk) = true)) (hord : mord mk) (hk : ∀ N, RFm M N → N 0 3 = M 0 3 → SO (stl 1 mk pr T) len N → RJ G LM m_Model_readsBehind 3 P 47 [some (.ref (G.2.2 0)), some (.int c)] [] N) : RJ G LM m_Model_readsBehind 3 P 23 [some (.ref (G.2.2 0)), some (.int c)] [] M := by
  cases mk with
  | nil => exact s_Model_readsBehind hR hml h4 (fun _ => hk M (RFm.rf M) rfl ⟨h4, hR⟩) (fun h => absurd h (by decide))
  | cons m r =>
    by_cases hs : o_sum m.1 = true
    · have hg : ¬ o_grip m.1 < 1 := by rw [grip1]; exact fun q => q (Or.inr hs)
      have hlws : o_sum (lw (m :: r)) = true := by rw [lw, wc_sum]; exact hs
      have hlt := (hm m List.mem_cons_self).2
      simp only [List.length_cons] at hml
      refine s_Model_readsBehind hR (by simp only [List.length_cons]; omega) h4 (fun h => absurd hlws (by rw [h]; decide)) (fun _ => ?_)
      refine r_aload_n (i := 0) d_Model_readsBehind_40 rfl rfl ?_
      refine r_W0 v_Model_doesLast w_992 lm_0 (c_Model_doesLast (hm m List.mem_cons_self).1 hg hR hT hpl (by omega)) (Nat.le_of_ble_eq_true rfl) (Nat.le_of_ble_eq_true rfl) d_Model_readsBehind_41 (fun v N1 hv => ?_)
      obtain ⟨rfl, f1, f2, f3⟩ := hv
      refine r_goto 23 d_Model_readsBehind_44 (by decide) ?_
      rcases f3 with ⟨a1, a2⟩ | ⟨w, a1, a2, a3⟩
      · exact xf_Model_readsBehind (f := m.2) (by omega) a2 (hk N1 f1 f2 (by rw [stl_f hg a1]; exact ⟨a2, hlt⟩))
      · have e1 : stl 1 r w.1 w.2 = .inr (r, w.1, w.2) := by
          cases r with
          | nil => rfl
          | cons m2 r2 => rw [stl, if_pos (hord.1 hs m2 r2 rfl)]
        have htop : o_sum (lw r) = false := by
          cases r with
          | nil => decide
          | cons m2 r2 =>
            have := hord.1 hs m2 r2 rfl
            rw [grip1] at this
            rw [lw, wc_sum]
            cases q : o_sum m2.1 with
            | false => rfl
            | true => exact absurd (Or.inr q) this
        exact s_Model_readsBehind a3 (by omega) (a2.trans h4) (fun _ => hk N1 f1 f2 (by rw [stl_s hg a1, e1]; exact ⟨a2.trans h4, a3⟩)) (fun h => absurd h (by rw [htop]; decide))
    · have e1 : stl 1 (m :: r) pr T = .inr (m :: r, pr, T) := by
        rw [stl, if_pos]
        rw [grip1]
        rintro (a | a)
        · exact hst (by rw [lw, wc_126, wc_prod]; exact a)
        · exact hs a
      exact s_Model_readsBehind hR hml h4 (fun _ => hk M (RFm.rf M) rfl (by rw [e1]; exact ⟨h4, hR⟩)) (fun h => absurd (by rw [lw, wc_sum] at h; exact h) hs)
set_option maxHeartbeats 1000000 in
theorem t_Model_readsBehind (hlen : len ≤ 60) (hpr : o_prod (ltr tx len p) = false) (hp : p ≤ len) (h3 : N 0 3 = nI p) (h4 : N 0 4 = -1) (hR : RQ mk pr T N) (hm : ∀ m ∈ mk, mkOK m ∧ m.2 < len) (hml : mk.length ≤ p) (hpl : pr.length = nb mk + 1) (hT : TOK pr T) (htop : ∀ m r, mk = m :: r → o_grip m.1 < 1) {P : Option Value → nw_M → Prop} (hP : ∀ v N2, RFm N N2 → PRB (cstE p (mk, pr, T) (ltr tx len p)) p len v N2 → P v N2) : RJ G LM m_Model_readsBehind 3 P 47 [some (.ref (G.2.2 0)), some (.int (ltr tx len p))] [] N := by
  refine r_aload_n (i := 0) d_Model_readsBehind_47 rfl rfl ?_
  refine r_V0 v_Model_isWell w_953 lm_0 (c_Model_isWell h4) (Nat.le_of_ble_eq_true rfl) (Nat.le_of_ble_eq_true rfl) d_Model_readsBehind_48 ?_
  refine r_if_ne 56 d_Model_readsBehind_51 (by decide) (fun h_51 => ?_) (fun h_51 => ?_)
  · skip
    refine r_iload_n (i := 1) d_Model_readsBehind_56 rfl rfl ?_
    refine r_S1 f_Model_isSum w_1000 (c_Model_isSum _ _ ) (Nat.le_of_ble_eq_true rfl) (Nat.le_of_ble_eq_true rfl) d_Model_readsBehind_57 ?_
    refine r_if_eq 70 d_Model_readsBehind_60 (by decide) (fun h_60 => ?_) (fun h_60 => ?_)
    · skip
      have hnb : ¬ o_bin (ltr tx len p) = true := by
        rw [o_bin, (bI_f _).mp h_60, hpr]; decide
      refine r_iload_n (i := 1) d_Model_readsBehind_70 rfl rfl ?_
      refine r_bipush 41 d_Model_readsBehind_71 bp_41 ?_
      refine r_icmp_ne 109 d_Model_readsBehind_73 (by decide) (fun h_73 => ?_) (fun h_73 => ?_)
      · skip
        have hA : ¬ (ltr tx len p = 41 ∧ mk ≠ []) := fun q => h_73 q.1
        refine r_iload_n (i := 1) d_Model_readsBehind_109 rfl rfl ?_
        refine r_iconst (-1) d_Model_readsBehind_110 ic_m1 ?_
        refine r_icmp_ne 121 d_Model_readsBehind_111 (by decide) (fun h_111 => ?_) (fun h_111 => ?_)
        · skip
          have hB : ¬ (ltr tx len p = -1 ∧ mk = []) := fun q => h_111 q.1
          refine r_aload_n (i := 0) d_Model_readsBehind_121 rfl rfl ?_
          refine r_aload_n (i := 0) d_Model_readsBehind_122 rfl rfl ?_
          refine r_gx nf_Model_85 lm_0 rfl (h3) d_Model_readsBehind_123 ?_
          refine r_puti nf_Model_92 nfin_Model_4 lm_0 rfl d_Model_readsBehind_126 ?_
          refine r_iconst 0 d_Model_readsBehind_129 ic_0 ?_
          refine r_zret rfl (by decide) d_Model_readsBehind_130 ?_
          first
            | exact hP _ _ ⟨fun e e0 _ _ _ _ => ms_ne _ _ e0, fun j _ e4 _ _ => by rw [ms_same, upd_ne _ _ e4]⟩ (by rw [cstE, if_neg hnb, if_neg hA, if_neg hB]; exact ⟨rfl, by rw [ms_same, upd_at], hp⟩)
            | (have hmk : mk = [] := List.eq_nil_of_length_eq_zero (by have := (nI_leI (a := mk.length) (b := 0) (by omega) (by omega)).mp h_118; omega)
               refine hP _ N (RFm.rf N) ?_
               rw [cstE, if_neg hnb, if_neg hA, if_pos ⟨h_111, hmk⟩]
               exact ⟨rfl, h4, h3, hR.2.2.2.2.2⟩)
        · skip
          refine r_aload_n (i := 0) d_Model_readsBehind_114 rfl rfl ?_
          refine r_gx nf_Model_98 lm_0 rfl (hR.1) d_Model_readsBehind_115 ?_
          refine r_if_le 129 d_Model_readsBehind_118 (by decide) (fun h_118 => ?_) (fun h_118 => ?_)
          · skip
            refine r_iconst 0 d_Model_readsBehind_129 ic_0 ?_
            refine r_zret rfl (by decide) d_Model_readsBehind_130 ?_
            first
              | exact hP _ _ ⟨fun e e0 _ _ _ _ => ms_ne _ _ e0, fun j _ e4 _ _ => by rw [ms_same, upd_ne _ _ e4]⟩ (by rw [cstE, if_neg hnb, if_neg hA, if_neg hB]; exact ⟨rfl, by rw [ms_same, upd_at], hp⟩)
              | (have hmk : mk = [] := List.eq_nil_of_length_eq_zero (by have := (nI_leI (a := mk.length) (b := 0) (by omega) (by omega)).mp h_118; omega)
                 refine hP _ N (RFm.rf N) ?_
                 rw [cstE, if_neg hnb, if_neg hA, if_pos ⟨h_111, hmk⟩]
                 exact ⟨rfl, h4, h3, hR.2.2.2.2.2⟩)
          · skip
            have hB : ¬ (ltr tx len p = -1 ∧ mk = []) := fun q => h_118 (by rw [q.2]; exact nI_le (a := 0) (b := 0) (Nat.le_refl 0) (by decide))
            refine r_aload_n (i := 0) d_Model_readsBehind_121 rfl rfl ?_
            refine r_aload_n (i := 0) d_Model_readsBehind_122 rfl rfl ?_
            refine r_gx nf_Model_85 lm_0 rfl (h3) d_Model_readsBehind_123 ?_
            refine r_puti nf_Model_92 nfin_Model_4 lm_0 rfl d_Model_readsBehind_126 ?_
            refine r_iconst 0 d_Model_readsBehind_129 ic_0 ?_
            refine r_zret rfl (by decide) d_Model_readsBehind_130 ?_
            first
              | exact hP _ _ ⟨fun e e0 _ _ _ _ => ms_ne _ _ e0, fun j _ e4 _ _ => by rw [ms_same, upd_ne _ _ e4]⟩ (by rw [cstE, if_neg hnb, if_neg hA, if_neg hB]; exact ⟨rfl, by rw [ms_same, upd_at], hp⟩)
              | (have hmk : mk = [] := List.eq_nil_of_length_eq_zero (by have := (nI_leI (a := mk.length) (b := 0) (by omega) (by omega)).mp h_118; omega)
                 refine hP _ N (RFm.rf N) ?_
                 rw [cstE, if_neg hnb, if_neg hA, if_pos ⟨h_111, hmk⟩]
                 exact ⟨rfl, h4, h3, hR.2.2.2.2.2⟩)
      · skip
        refine r_aload_n (i := 0) d_Model_readsBehind_76 rfl rfl ?_
        refine r_gx nf_Model_98 lm_0 rfl (hR.1) d_Model_readsBehind_77 ?_
        refine r_if_le 109 d_Model_readsBehind_80 (by decide) (fun h_80 => ?_) (fun h_80 => ?_)
        · skip
          have hmk0 : mk = [] := by
            have := (nI_leI (a := mk.length) (b := 0) (by omega) (by omega)).mp h_80
            exact List.eq_nil_of_length_eq_zero (by omega)
          have hA : ¬ (ltr tx len p = 41 ∧ mk ≠ []) := fun q => q.2 hmk0
          refine r_iload_n (i := 1) d_Model_readsBehind_109 rfl rfl ?_
          refine r_iconst (-1) d_Model_readsBehind_110 ic_m1 ?_
          refine r_icmp_ne 121 d_Model_readsBehind_111 (by decide) (fun h_111 => ?_) (fun h_111 => ?_)
          · skip
            have hB : ¬ (ltr tx len p = -1 ∧ mk = []) := fun q => h_111 q.1
            refine r_aload_n (i := 0) d_Model_readsBehind_121 rfl rfl ?_
            refine r_aload_n (i := 0) d_Model_readsBehind_122 rfl rfl ?_
            refine r_gx nf_Model_85 lm_0 rfl (h3) d_Model_readsBehind_123 ?_
            refine r_puti nf_Model_92 nfin_Model_4 lm_0 rfl d_Model_readsBehind_126 ?_
            refine r_iconst 0 d_Model_readsBehind_129 ic_0 ?_
            refine r_zret rfl (by decide) d_Model_readsBehind_130 ?_
            first
              | exact hP _ _ ⟨fun e e0 _ _ _ _ => ms_ne _ _ e0, fun j _ e4 _ _ => by rw [ms_same, upd_ne _ _ e4]⟩ (by rw [cstE, if_neg hnb, if_neg hA, if_neg hB]; exact ⟨rfl, by rw [ms_same, upd_at], hp⟩)
              | (have hmk : mk = [] := List.eq_nil_of_length_eq_zero (by have := (nI_leI (a := mk.length) (b := 0) (by omega) (by omega)).mp h_118; omega)
                 refine hP _ N (RFm.rf N) ?_
                 rw [cstE, if_neg hnb, if_neg hA, if_pos ⟨h_111, hmk⟩]
                 exact ⟨rfl, h4, h3, hR.2.2.2.2.2⟩)
          · skip
            refine r_aload_n (i := 0) d_Model_readsBehind_114 rfl rfl ?_
            refine r_gx nf_Model_98 lm_0 rfl (hR.1) d_Model_readsBehind_115 ?_
            refine r_if_le 129 d_Model_readsBehind_118 (by decide) (fun h_118 => ?_) (fun h_118 => ?_)
            · skip
              refine r_iconst 0 d_Model_readsBehind_129 ic_0 ?_
              refine r_zret rfl (by decide) d_Model_readsBehind_130 ?_
              first
                | exact hP _ _ ⟨fun e e0 _ _ _ _ => ms_ne _ _ e0, fun j _ e4 _ _ => by rw [ms_same, upd_ne _ _ e4]⟩ (by rw [cstE, if_neg hnb, if_neg hA, if_neg hB]; exact ⟨rfl, by rw [ms_same, upd_at], hp⟩)
                | (have hmk : mk = [] := List.eq_nil_of_length_eq_zero (by have := (nI_leI (a := mk.length) (b := 0) (by omega) (by omega)).mp h_118; omega)
                   refine hP _ N (RFm.rf N) ?_
                   rw [cstE, if_neg hnb, if_neg hA, if_pos ⟨h_111, hmk⟩]
                   exact ⟨rfl, h4, h3, hR.2.2.2.2.2⟩)
            · skip
              have hB : ¬ (ltr tx len p = -1 ∧ mk = []) := fun q => h_118 (by rw [q.2]; exact nI_le (a := 0) (b := 0) (Nat.le_refl 0) (by decide))
              refine r_aload_n (i := 0) d_Model_readsBehind_121 rfl rfl ?_
              refine r_aload_n (i := 0) d_Model_readsBehind_122 rfl rfl ?_
              refine r_gx nf_Model_85 lm_0 rfl (h3) d_Model_readsBehind_123 ?_
              refine r_puti nf_Model_92 nfin_Model_4 lm_0 rfl d_Model_readsBehind_126 ?_
              refine r_iconst 0 d_Model_readsBehind_129 ic_0 ?_
              refine r_zret rfl (by decide) d_Model_readsBehind_130 ?_
              first
                | exact hP _ _ ⟨fun e e0 _ _ _ _ => ms_ne _ _ e0, fun j _ e4 _ _ => by rw [ms_same, upd_ne _ _ e4]⟩ (by rw [cstE, if_neg hnb, if_neg hA, if_neg hB]; exact ⟨rfl, by rw [ms_same, upd_at], hp⟩)
                | (have hmk : mk = [] := List.eq_nil_of_length_eq_zero (by have := (nI_leI (a := mk.length) (b := 0) (by omega) (by omega)).mp h_118; omega)
                   refine hP _ N (RFm.rf N) ?_
                   rw [cstE, if_neg hnb, if_neg hA, if_pos ⟨h_111, hmk⟩]
                   exact ⟨rfl, h4, h3, hR.2.2.2.2.2⟩)
        · skip
          obtain ⟨m, r, rfl⟩ : ∃ m r, mk = m :: r := by
            cases mk with
            | nil => exact absurd (nI_le (Nat.le_refl 0) (by omega)) h_80
            | cons m r => exact ⟨m, r, rfl⟩
          simp only [List.length_cons] at hml
          have hpl2 : pr.length = nb r + 1 := by
            have h1 := htop m r rfl
            rw [grip1] at h1
            have h2 := (hm m List.mem_cons_self).1
            have h40 : m.1 = 40 := by
              rcases h2 with q | q | q
              · exact q
              · exact absurd (Or.inl (Or.inl q)) h1
              · unfold o_bin at q
                rcases Bool.or_eq_true_iff.mp q with q | q
                · exact absurd (Or.inr q) h1
                · exact absurd (Or.inl (Or.inr q)) h1
            rw [hpl, nb, if_pos (Or.inl h40)]
          refine r_aload_n (i := 0) d_Model_readsBehind_83 rfl rfl ?_
          refine r_dup d_Model_readsBehind_84 rfl ?_
          refine r_gx nf_Model_98 lm_0 rfl (show N 0 18 = nI (r.length + 1) from hR.1) d_Model_readsBehind_85 ?_
          refine r_iconst 1 d_Model_readsBehind_88 ic_1 ?_
          refine r_isubN (a := (r.length + 1)) (b := 1) d_Model_readsBehind_89 rfl rfl (by omega) ?_
          refine r_puti nf_Model_98 nfin_Model_18 lm_0 rfl d_Model_readsBehind_90 ?_
          refine r_aload_n (i := 0) d_Model_readsBehind_93 rfl rfl ?_
          refine r_dup d_Model_readsBehind_94 rfl ?_
          refine r_gx nf_Model_85 lm_0 rfl ((by simp (disch := omega) only [ms_same, ms_ne, upd_ne]; exact h3 : _ = nI p)) d_Model_readsBehind_95 ?_
          refine r_iconst 1 d_Model_readsBehind_98 ic_1 ?_
          refine r_iaddN (a := p) (b := 1) d_Model_readsBehind_99 rfl rfl ?_
          refine r_puti nf_Model_85 nfin_Model_3 lm_0 rfl d_Model_readsBehind_100 ?_
          have hR2 : RQ r pr T (ms (ms N 0 (upd (N 0) 18 (nI r.length))) 0 (upd ((ms N 0 (upd (N 0) 18 (nI r.length))) 0) 3 (nI (p + 1)))) := by
            obtain ⟨h1, h2, h3, h4, h5, h6, h7⟩ := hR
            refine ⟨by simp (disch := omega) only [ms_same, upd_at, upd_ne], by simp (disch := omega) only [ms_same, upd_ne]; exact h2, ?_, ?_, ?_, ?_, fun j hj => ?_⟩
            · simp (disch := omega) only [ms_ne]; exact h3.2
            · simp (disch := omega) only [ms_ne]; exact h4.2
            · simp (disch := omega) only [ms_ne]; exact h5
            · simp (disch := omega) only [ms_ne]; exact h6
            · simp (disch := omega) only [ms_ne]; exact h7 j hj
          have h42 : (ms (ms N 0 (upd (N 0) 18 (nI r.length))) 0 (upd ((ms N 0 (upd (N 0) 18 (nI r.length))) 0) 3 (nI (p + 1)))) 0 4 = -1 := by
            simp (disch := omega) only [ms_same, upd_ne]; exact h4
          have h43 : (ms (ms N 0 (upd (N 0) 18 (nI r.length))) 0 (upd ((ms N 0 (upd (N 0) 18 (nI r.length))) 0) 3 (nI (p + 1)))) 0 3 = nI (p + 1) := by
            simp (disch := omega) only [ms_same, upd_at]
          have hf0 : RFm N (ms (ms N 0 (upd (N 0) 18 (nI r.length))) 0 (upd ((ms N 0 (upd (N 0) 18 (nI r.length))) 0) 3 (nI (p + 1)))) := ⟨fun e e0 _ _ _ _ => by simp (disch := omega) only [ms_ne], fun j e3 _ _ e18 => by simp (disch := omega) only [ms_same, upd_ne]⟩
          refine r_aload_n (i := 0) d_Model_readsBehind_103 rfl rfl ?_
          refine r_W0 v_Model_partDone w_981 lm_0 (c_Model_partDone (mk := r) hlen (fun m2 h2 => hm m2 (List.mem_cons_of_mem _ h2)) (by omega) hpl2 hT hR2 h42) (Nat.le_of_ble_eq_true rfl) (Nat.le_of_ble_eq_true rfl) d_Model_readsBehind_104 (fun v N2 hv => ?_)
          obtain ⟨rfl, f1, f2, f3⟩ := hv
          refine r_iconst 0 d_Model_readsBehind_107 ic_0 ?_
          refine r_zret rfl (by decide) d_Model_readsBehind_108 ?_
          refine hP _ N2 (hf0.tr f1) ?_
          rw [cstE, if_neg hnb, if_pos ⟨h_73, by simp⟩]
          exact ⟨rfl, f2.trans h43, f3⟩
    · skip
      have hsm := (bI_t _).mp h_60
      have hlt : p < len := ltr_lt (tx := tx) (fun q => by rw [q] at hsm; exact absurd hsm (by decide))
      have hwc : ltr tx len p = wc (ltr tx len p) := by
        unfold wc
        rw [if_neg (fun q => by rw [q] at hsm; exact absurd hsm (by decide))]
      refine r_aload_n (i := 0) d_Model_readsBehind_63 rfl rfl ?_
      refine r_iload_n (i := 1) d_Model_readsBehind_64 rfl rfl ?_
      refine r_nrm hwc ?_
      refine r_W1 v_Model_waits w_969 lm_0 (c_Model_waits (ltr tx len p) hR h3 (by omega)) (Nat.le_of_ble_eq_true rfl) (Nat.le_of_ble_eq_true rfl) d_Model_readsBehind_65 (fun v N2 hv => ?_)
      obtain ⟨rfl, f1, f2, f3, f4⟩ := hv
      refine r_iconst 1 d_Model_readsBehind_68 ic_1 ?_
      refine r_zret rfl (by decide) d_Model_readsBehind_69 ?_
      refine hP _ N2 f1 ?_
      rw [cstE, if_pos (by rw [o_bin, hsm]; rfl)]
      exact ⟨rfl, f3.trans h4, f2, f4⟩
  · exact absurd h_51 (by decide)

theorem c_Model_readsBehind {b : Bool} (hX : TXT len tx M) (hlen : len ≤ 60) (hp : p ≤ len) (h3 : M 0 3 = nI p) (h4 : M 0 4 = -1) (hR : RQ mk pr T M) (hm : ∀ m ∈ mk, mkOK m ∧ m.2 < len) (hml : mk.length ≤ p) (hpl : pr.length = nb mk + 1) (hT : TOK pr T) (hst : ¬ (lw mk = 126 ∨ o_prod (lw mk) = true)) (hord : mord mk) : CJ G LM m_Model_readsBehind 3 [.ref (G.2.2 0)] M (fun v N => RFm M N ∧ PRB (cstO (p, b, mk, pr, T) (ltr tx len p)) p len v N) := by
  refine CJ_of2 (n0 := 1) (by decide) rfl rfl ?_
  simp only [List.map_cons, List.map_nil, List.cons_append, List.nil_append, List.reduceReplicate]
  refine r_aload_n (i := 0) d_Model_readsBehind_0 rfl rfl ?_
  refine r_aload_n (i := 0) d_Model_readsBehind_1 rfl rfl ?_
  refine r_gx nf_Model_85 lm_0 rfl (h3) d_Model_readsBehind_2 ?_
  refine r_V1 v_Model_letterAt w_961 lm_0 (c_Model_letterAt hX hlen (by omega)) (Nat.le_of_ble_eq_true rfl) (Nat.le_of_ble_eq_true rfl) d_Model_readsBehind_5 ?_
  refine r_istore_n (i := 1) d_Model_readsBehind_8 rfl (Nat.le_of_ble_eq_true rfl) rfl ?_
  dsimp only [List.set]
  refine r_iload_n (i := 1) d_Model_readsBehind_9 rfl rfl ?_
  refine r_S1 f_Model_isProduct w_989 (c_Model_isProduct _ _ ) (Nat.le_of_ble_eq_true rfl) (Nat.le_of_ble_eq_true rfl) d_Model_readsBehind_10 ?_
  refine r_if_eq 23 d_Model_readsBehind_13 (by decide) (fun h_13 => ?_) (fun h_13 => ?_)
  · skip
    have hpr := (bI_f _).mp h_13
    have hg1 : (if o_bin (ltr tx len p) then o_grip (ltr tx len p) else 1) = 1 := by
      by_cases q : o_bin (ltr tx len p) = true
      · rw [if_pos q]
        refine grip_sum ?_ hpr
        rw [o_bin, hpr, Bool.or_false] at q
        exact q
      · rw [if_neg q]
    refine l_Model_readsBehind hlen hm (by omega) hpl hT hR h4 hst hord (fun N f1 f2 f3 => ?_)
    cases hs : stl 1 mk pr T with
    | inl f =>
      rw [hs] at f3
      have f3b : f < len := f3.2
      refine r_aload_n (i := 0) d_Model_readsBehind_47 rfl rfl ?_
      refine r_V0 v_Model_isWell w_953 lm_0 (c0_Model_isWell (f := f) (by omega) f3.1) (Nat.le_of_ble_eq_true rfl) (Nat.le_of_ble_eq_true rfl) d_Model_readsBehind_48 ?_
      refine r_if_ne 56 d_Model_readsBehind_51 (by decide) (fun h9 => absurd rfl h9) (fun _ => ?_)
      refine r_iconst 0 d_Model_readsBehind_54 ic_0 ?_
      refine r_zret rfl (by decide) d_Model_readsBehind_55 ?_
      refine ⟨f1, ?_⟩
      rw [cstO_f (by rw [hg1]; exact hs)]
      exact ⟨rfl, f3.1, by omega⟩
    | inr w =>
      rw [hs] at f3
      obtain ⟨a1, a2, a3, a4, a5⟩ := stl_ok mk pr T hm (by decide) hpl hT w hs
      refine t_Model_readsBehind hlen hpr hp (f2.trans h3) f3.1 f3.2 a1 (by omega) a3 a4 a5 (fun v N2 g1 g2 => ⟨f1.tr g1, ?_⟩)
      rw [cstO_of (by rw [hg1]; exact hs)]
      exact g2
  · skip
    have hsm := (bI_t _).mp h_13
    have hlt : p < len := ltr_lt (tx := tx) (fun q => by rw [q] at hsm; exact absurd hsm (by decide))
    have hwc : ltr tx len p = wc (ltr tx len p) := by
      unfold wc
      rw [if_neg (fun q => by rw [q] at hsm; exact absurd hsm (by decide))]
    refine r_aload_n (i := 0) d_Model_readsBehind_16 rfl rfl ?_
    refine r_iload_n (i := 1) d_Model_readsBehind_17 rfl rfl ?_
    refine r_nrm hwc ?_
    refine r_W1 v_Model_waits w_969 lm_0 (c_Model_waits (ltr tx len p) hR h3 (by omega)) (Nat.le_of_ble_eq_true rfl) (Nat.le_of_ble_eq_true rfl) d_Model_readsBehind_18 (fun v N2 hv => ?_)
    obtain ⟨rfl, f1, f2, f3, f4⟩ := hv
    refine r_iconst 1 d_Model_readsBehind_21 ic_1 ?_
    refine r_zret rfl (by decide) d_Model_readsBehind_22 ?_
    refine ⟨f1, ?_⟩
    rw [cstO_of (w := (mk, pr, T)) (by rw [if_pos (by rw [o_bin, hsm, Bool.or_true]), grip_prod hsm]; exact stl2_stop hst), cstE, if_pos (by rw [o_bin, hsm, Bool.or_true])]
    exact ⟨rfl, f3.trans h4, f2, f4⟩

end MMb
