-- the model: numbers, parts, what stands behind a part
/-- what a part comes to, in a memory -/
def PRD (r : Nat ⊕ (AT ⊕ AS)) (len : Nat) (N : nw_M) : Prop := match r with
  | .inl f => N 0 4 = nI f ∧ f ≤ len
  | .inr (.inl _) => False
  | .inr (.inr b) => N 0 4 = -1 ∧ N 0 3 = nI b.1 ∧ RQ b.2.2.1 b.2.2.2.1 b.2.2.2.2 N
section MMp
variable {G : nw_G} {M N B : nw_M} {len p : Nat} {tx : Nat → Int32} {mk : MK} {pr : List Nat} {T : AT}
theorem prd_lf {x y : Int32} {w : Nat} {b : Bool} (h : (adn pr T x y (-9) (-9) 1 p = .inl p ∧ N 0 4 = nI p) ∨ ∃ u, adn pr T x y (-9) (-9) 1 p = .inr u ∧ N 0 4 = -1 ∧ RQ mk u.1 u.2 N) (h3 : N 0 3 = nI (p + w)) (hp : p ≤ len) : PRD (lfS (p, b, mk, pr, T) x y w) len N := by
  unfold lfS
  rcases h with ⟨h1, h2⟩ | ⟨u, h1, h2, h4⟩
  · simp only [h1]
    exact ⟨h2, hp⟩
  · simp only [h1]
    exact ⟨h2, h3, h4⟩
theorem cstD_dg {a : AS} {d0 : Nat} (hd0 : d0 < 10) : cstD tx len a (nI (48 + d0)) = if dgs tx a.1 (len - a.1) = 1 then lfS a 48 (nI d0) 1 else if dgs tx a.1 (len - a.1) = 2 ∧ d0 ≠ 0 then lfS a 48 ((nI (48 + d0) - 48) * 10 + tx (a.1 + 1) - 48) 2 else .inl a.1 := by
  unfold cstD
  rw [if_neg, if_neg, sub48]
  · by_cases h1 : dgs tx a.1 (len - a.1) = 1
    · rw [if_pos h1, if_pos h1]
    · rw [if_neg h1, if_neg h1]
      by_cases h2 : d0 = 0
      · rw [if_neg, if_neg]
        · exact fun h => h.2 h2
        · exact fun h => h.2 (by rw [h2]; rfl)
      · by_cases h3 : dgs tx a.1 (len - a.1) = 2
        · rw [if_pos ⟨h3, fun e => h2 (by have := (nI_eq (by omega) (by omega)).mp (show nI (48 + d0) = nI 48 from e); omega)⟩, if_pos ⟨h3, h2⟩]
        · rw [if_neg (fun h => h3 h.1), if_neg (fun h => h3 h.1)]
  · intro h
    exact h.1 ((nI_ltI (b := 97) (by omega) (by omega)).mpr (by omega))
  · rintro (h | h)
    · have := (nI_eq (by omega) (by omega)).mp (show nI (48 + d0) = nI 40 from h); omega
    · have := (nI_eq (by omega) (by omega)).mp (show nI (48 + d0) = nI 126 from h); omega
set_option maxHeartbeats 1000000 in
theorem t_Model_readsNumber (hX : TXT len tx N) (hl : len ≤ 60) (h4 : N 0 4 = -1) (hR : RQ mk pr T N) (hn : T.1 ≤ 31) (hln : pr.length ≤ T.1) (hp : p < len) {d0 d1 D v : Nat} {b : Bool} (hd0 : d0 < 10) (hd1 : d1 < 10) (e0 : tx p = nI (48 + d0)) (e1 : 2 ≤ D → tx (p + 1) = nI (48 + d1)) (hD : dgs tx p (len - p) = D) (hD1 : 1 ≤ D) (hDp : p + D ≤ len) (hv : NV d0 d1 D v) (h3 : N 0 3 = nI (p + D)) {P : Option Value → nw_M → Prop} (hP : ∀ N2, RFm N N2 → PRD (cstD tx len (p, b, mk, pr, T) (tx p)) len N2 → P none N2) : RJ G LM m_Model_readsNumber 1 P 65 [some (.ref (G.2.2 0)), some (.int (nI p)), some (.int (nI v))] [] N := by
  refine r_iload_n (i := 2) d_Model_readsNumber_65 rfl rfl ?_
  refine r_bipush 99 d_Model_readsNumber_66 bp_99 ?_
  refine r_icmp_gt 91 d_Model_readsNumber_68 (by decide) (fun h_68 => ?_) (fun h_68 => ?_)
  · skip
    have hv9 : 99 < v := (nI_ltI (a := 99) (by omega) (by have := hv.1; omega)).mp h_68
    refine r_aload_n (i := 0) d_Model_readsNumber_91 rfl rfl ?_
    refine r_iload_n (i := 1) d_Model_readsNumber_92 rfl rfl ?_
    refine r_puti nf_Model_92 nfin_Model_4 lm_0 rfl d_Model_readsNumber_93 ?_
    refine r_goto 111 d_Model_readsNumber_96 (by decide) ?_
    refine r_vret rfl d_Model_readsNumber_111 ?_
    refine hP _ ⟨fun e e0 _ _ _ _ => ms_ne _ _ e0, fun j _ e4 _ _ => by rw [ms_same, upd_ne _ _ e4]⟩ ?_
    rw [e0, cstD_dg hd0]
    simp only [hD]
    rw [if_neg, if_neg]
    · exact ⟨by rw [ms_same, upd_at], by omega⟩
    · rintro ⟨q1, q2⟩
      have := hv.2.2.2.1 q1 q2; omega
    · intro q1
      have := hv.2.2.1 q1; omega
  · skip
    have hv9 : v ≤ 99 := by
      rcases Nat.lt_or_ge 99 v with q | q
      · exact absurd (nI_lt q (by have := hv.1; omega)) h_68
      · exact q
    refine r_aload_n (i := 0) d_Model_readsNumber_71 rfl rfl ?_
    refine r_gx nf_Model_85 lm_0 rfl (h3) d_Model_readsNumber_72 ?_
    refine r_iload_n (i := 1) d_Model_readsNumber_75 rfl rfl ?_
    refine r_isubN (a := (p + D)) (b := p) d_Model_readsNumber_76 rfl rfl (by omega) ?_
    refine r_iconst 1 d_Model_readsNumber_77 ic_1 ?_
    refine r_icmp_le 99 d_Model_readsNumber_78 (by decide) (fun h_78 => ?_) (fun h_78 => ?_)
    · skip
      have hD2 : D = 1 := by
        have := (nI_leI (a := p + D - p) (b := 1) (by omega) (by omega)).mp h_78
        omega
      refine r_aload_n (i := 0) d_Model_readsNumber_99 rfl rfl ?_
      refine r_bipush 48 d_Model_readsNumber_100 bp_48 ?_
      refine r_iload_n (i := 2) d_Model_readsNumber_102 rfl rfl ?_
      refine r_bipush (-9) d_Model_readsNumber_103 bp_m9 ?_
      refine r_bipush (-9) d_Model_readsNumber_105 bp_m9 ?_
      refine r_iload_n (i := 1) d_Model_readsNumber_107 rfl rfl ?_
      refine r_W5 v_Model_makes w_977 lm_0 (c_Model_makes _ _ _ _ 1 p hR hn hln) (Nat.le_of_ble_eq_true rfl) (Nat.le_of_ble_eq_true rfl) d_Model_readsNumber_108 (fun v2 N2 hv2 => ?_)
      obtain ⟨rfl, f1, f2, f3⟩ := hv2
      rw [h4] at f3
      refine r_vret rfl d_Model_readsNumber_111 ?_
      refine hP N2 f1 ?_
      rw [e0, cstD_dg hd0]
      simp only [hD]
      rw [if_pos hD2]
      have ev := hv.2.2.1 hD2
      subst ev
      exact prd_lf f3 (by rw [f2, h3, hD2]) (by omega)
    · skip
      have hD2 : 2 ≤ D := by
        rcases Nat.lt_or_ge 1 D with q | q
        · exact q
        · exact absurd (show nI (p + D - p) ≤ nI 1 from nI_le (by omega) (by omega)) h_78
      refine r_aload_n (i := 0) d_Model_readsNumber_81 rfl rfl ?_
      refine r_iload_n (i := 1) d_Model_readsNumber_82 rfl rfl ?_
      refine r_V1 v_Model_letterAt w_961 lm_0 (CF_eq (c_Model_letterAt hX hl (by omega)) (show _ = some (Value.int (nI (48 + d0))) by rw [ltr_in hp, e0]) rfl) (Nat.le_of_ble_eq_true rfl) (Nat.le_of_ble_eq_true rfl) d_Model_readsNumber_83 ?_
      refine r_bipush 48 d_Model_readsNumber_86 bp_48 ?_
      refine r_icmp_ne 99 d_Model_readsNumber_88 (by decide) (fun h_88 => ?_) (fun h_88 => ?_)
      · skip
        have h00 : d0 ≠ 0 := fun e => h_88 (by rw [e]; rfl)
        have hD3 : D = 2 := by
          rcases Nat.lt_or_ge D 3 with q | q
          · omega
          · exact absurd (hv.2.2.2.2 q h00) (by omega)
        refine r_aload_n (i := 0) d_Model_readsNumber_99 rfl rfl ?_
        refine r_bipush 48 d_Model_readsNumber_100 bp_48 ?_
        refine r_iload_n (i := 2) d_Model_readsNumber_102 rfl rfl ?_
        refine r_bipush (-9) d_Model_readsNumber_103 bp_m9 ?_
        refine r_bipush (-9) d_Model_readsNumber_105 bp_m9 ?_
        refine r_iload_n (i := 1) d_Model_readsNumber_107 rfl rfl ?_
        refine r_W5 v_Model_makes w_977 lm_0 (c_Model_makes _ _ _ _ 1 p hR hn hln) (Nat.le_of_ble_eq_true rfl) (Nat.le_of_ble_eq_true rfl) d_Model_readsNumber_108 (fun v2 N2 hv2 => ?_)
        obtain ⟨rfl, f1, f2, f3⟩ := hv2
        rw [h4] at f3
        refine r_vret rfl d_Model_readsNumber_111 ?_
        refine hP N2 f1 ?_
        rw [e0, cstD_dg hd0]
        simp only [hD]
        rw [if_neg (by omega), if_pos ⟨hD3, h00⟩, e1 (by omega), two48]
        have ev := hv.2.2.2.1 hD3 h00
        rw [← ev]
        exact prd_lf f3 (by rw [f2, h3, hD3]) (by omega)
      · skip
        have h00 : d0 = 0 := by
          have := (nI_eq (a := 48 + d0) (b := 48) (by omega) (by omega)).mp h_88
          omega
        refine r_aload_n (i := 0) d_Model_readsNumber_91 rfl rfl ?_
        refine r_iload_n (i := 1) d_Model_readsNumber_92 rfl rfl ?_
        refine r_puti nf_Model_92 nfin_Model_4 lm_0 rfl d_Model_readsNumber_93 ?_
        refine r_goto 111 d_Model_readsNumber_96 (by decide) ?_
        refine r_vret rfl d_Model_readsNumber_111 ?_
        refine hP _ ⟨fun e e0 _ _ _ _ => ms_ne _ _ e0, fun j _ e4 _ _ => by rw [ms_same, upd_ne _ _ e4]⟩ ?_
        rw [e0, cstD_dg hd0]
        simp only [hD]
        rw [if_neg, if_neg]
        · exact ⟨by rw [ms_same, upd_at], by omega⟩
        · rintro ⟨q1, q2⟩
          exact q2 h00
        · intro q1
          omega

theorem c_Model_readsNumber {b : Bool} (hX : TXT len tx M) (hl : len ≤ 60) (h3 : M 0 3 = nI p) (h4 : M 0 4 = -1) (hR : RQ mk pr T M) (hn : T.1 ≤ 31) (hln : pr.length ≤ T.1) (hd : isDg (ltr tx len p) = true) : CJ G LM m_Model_readsNumber 1 [.ref (G.2.2 0)] M (fun v N => v = none ∧ RFm M N ∧ PRD (cstD tx len (p, b, mk, pr, T) (ltr tx len p)) len N) := by
  obtain ⟨hp, hD0⟩ := dgs_go hd
  rw [ltr_in hp] at hd ⊢
  obtain ⟨d0, hd0, e0⟩ := isDg_v hd
  have hDl := dgs_le tx (len - p) p
  have hd1 : ∃ d1, d1 < 10 ∧ (2 ≤ dgs tx p (len - p) → tx (p + 1) = nI (48 + d1)) := by
    by_cases q : 2 ≤ dgs tx p (len - p)
    · obtain ⟨d1, a, b⟩ := isDg_v (dgs_2 q)
      exact ⟨d1, a, fun _ => b⟩
    · exact ⟨0, by omega, fun h => absurd h q⟩
  obtain ⟨d1, hd1, e1⟩ := hd1
  refine CJ_of2 (n0 := 2) (by decide) rfl rfl ?_
  simp only [List.map_cons, List.map_nil, List.cons_append, List.nil_append, List.reduceReplicate]
  refine r_aload_n (i := 0) d_Model_readsNumber_0 rfl rfl ?_
  refine r_gx nf_Model_85 lm_0 rfl h3 d_Model_readsNumber_1 ?_
  refine r_istore_n (i := 1) d_Model_readsNumber_4 rfl (Nat.le_of_ble_eq_true rfl) rfl ?_
  dsimp only [List.set]
  refine r_iconst 0 d_Model_readsNumber_5 ic_0 ?_
  refine r_istore_n (i := 2) d_Model_readsNumber_6 rfl (Nat.le_of_ble_eq_true rfl) rfl ?_
  dsimp only [List.set]
  refine l_Model_readsNumber hX hl hd0 hd1 e0 e1 (D := dgs tx p (len - p)) (by omega) (fun v N hv hF h0 h3n => ?_) (dgs tx p (len - p)) 0 0 M (by omega) rfl ⟨by omega, fun _ => rfl, fun h => by omega, fun h => by omega, fun h => by omega⟩ (fun _ _ => rfl) (fun _ _ => rfl) h3
  have hXn : TXT len tx N := ⟨(h0 2 (by decide)).trans hX.1, fun j hj => by rw [hF 1 (by decide)]; exact hX.2 j hj⟩
  have hRn : RQ mk pr T N := hR.cong (hF 2 (by decide)) (hF 8 (by decide)) (hF 9 (by decide)) (hF 10 (by decide)) (h0 18 (by decide)) (h0 15 (by decide))
  exact t_Model_readsNumber (b := b) hXn hl ((h0 4 (by decide)).trans h4) hRn hn hln hp hd0 hd1 e0 e1 rfl (by omega) (by omega) hv h3n (fun N2 a1 a2 => ⟨rfl, RFm.tr ⟨fun e e0 _ _ _ _ => hF e e0, fun j e3 _ _ _ => h0 j e3⟩ a1, a2⟩)
theorem cstD_nm {a : AS} {c : Int32} (h1 : ¬ c < 97) (h2 : ¬ (104 : Int32) < c) : cstD tx len a c = lfS a c (c - 97) 1 := by
  unfold cstD
  rw [if_neg, if_pos ⟨h1, h2⟩]
  rintro (h | h)
  · rw [h] at h1; exact h1 (by decide)
  · rw [h] at h2; exact h2 (by decide)
theorem cstD_no {a : AS} {c : Int32} (h : ¬ (c = 40 ∨ c = 126)) (h1 : ¬ (¬ c < 97 ∧ ¬ (104 : Int32) < c)) (h2 : dgs tx a.1 (len - a.1) = 0) : cstD tx len a c = .inl a.1 := by
  unfold cstD
  rw [if_neg h, if_neg h1, h2, if_neg (by decide), if_neg (by rintro ⟨q, _⟩; exact absurd q (by decide))]
theorem cstD_open {a : AS} {c : Int32} (h : c = 40 ∨ c = 126) : cstD tx len a c = .inr (.inr (a.1 + 1, true, (c, a.1) :: a.2.2.1, a.2.2.2.1, a.2.2.2.2)) := by
  unfold cstD
  rw [if_pos h]
theorem in_nm (c : Int32) : (decide (¬ c < 97 ∧ ¬ (104 : Int32) < c) = true) ↔ (¬ c < 97 ∧ ¬ (104 : Int32) < c) := decide_eq_true_iff
theorem o_Model_readsPart {b : Bool} (h3 : M 0 3 = nI p) (h4 : M 0 4 = -1) (hR : RQ mk pr T M) (hl : len ≤ 60) (hml : mk.length ≤ p) (hop : ltr tx len p = 40 ∨ ltr tx len p = 126) : RJ G LM m_Model_readsPart 2 (fun v N => v = some (.int (if ltr tx len p = 40 ∨ ltr tx len p = 126 then 0 else 1)) ∧ RFm M N ∧ PRD (cstD tx len (p, b, mk, pr, T) (ltr tx len p)) len N) 21 [some (.ref (G.2.2 0)), some (.int (ltr tx len p))] [] M := by
  have hlt : p < len := ltr_lt (tx := tx) (fun q => by rcases hop with r | r <;> (rw [q] at r; exact absurd r (by decide)))
  have hfin : ∀ N, RFm M N → N 0 3 = nI (p + 1) → N 0 4 = M 0 4 → RQ ((ltr tx len p, p) :: mk) pr T N → (some (Value.int 0) = some (Value.int (if ltr tx len p = 40 ∨ ltr tx len p = 126 then 0 else 1)) ∧ RFm M N ∧ PRD (cstD tx len (p, b, mk, pr, T) (ltr tx len p)) len N) := by
    intro N f1 f2 f3 f4
    refine ⟨by rw [if_pos hop], f1, ?_⟩
    rw [cstD_open hop]
    exact ⟨f3.trans h4, f2, f4⟩
  refine r_aload_n (i := 0) d_Model_readsPart_21 rfl rfl ?_
  refine r_iload_n (i := 1) d_Model_readsPart_22 rfl rfl ?_
  refine r_bipush 40 d_Model_readsPart_23 bp_40 ?_
  refine r_icmp_ne 32 d_Model_readsPart_25 (by decide) (fun h_25 => ?_) (fun h_25 => ?_)
  · skip
    have h126 : ltr tx len p = 126 := by
      rcases hop with q | q
      · exact absurd q h_25
      · exact q
    refine r_iload_n (i := 1) d_Model_readsPart_32 rfl rfl ?_
    refine r_nrm (y := wc 126) (by rw [h126]; decide) ?_
    refine r_W1 v_Model_waits w_969 lm_0 (c_Model_waits 126 hR h3 (by omega)) (Nat.le_of_ble_eq_true rfl) (Nat.le_of_ble_eq_true rfl) d_Model_readsPart_33 (fun v N hv => ?_)
    obtain ⟨rfl, f1, f2, f3, f4⟩ := hv
    refine r_iconst 0 d_Model_readsPart_36 ic_0 ?_
    refine r_zret rfl (by decide) d_Model_readsPart_37 ?_
    exact hfin N f1 f2 f3 (by rw [h126]; exact f4)
  · skip
    refine r_iconst 0 d_Model_readsPart_28 ic_0 ?_
    refine r_goto 33 d_Model_readsPart_29 (by decide) ?_
    refine r_nrm (y := wc 40) (by decide) ?_
    refine r_W1 v_Model_waits w_969 lm_0 (c_Model_waits 40 hR h3 (by omega)) (Nat.le_of_ble_eq_true rfl) (Nat.le_of_ble_eq_true rfl) d_Model_readsPart_33 (fun v N hv => ?_)
    obtain ⟨rfl, f1, f2, f3, f4⟩ := hv
    refine r_iconst 0 d_Model_readsPart_36 ic_0 ?_
    refine r_zret rfl (by decide) d_Model_readsPart_37 ?_
    exact hfin N f1 f2 f3 (by rw [h_25]; exact f4)

set_option maxHeartbeats 1000000 in
theorem c_Model_readsPart {b : Bool} (hX : TXT len tx M) (hl : len ≤ 60) (hp : p ≤ len) (h3 : M 0 3 = nI p) (h4 : M 0 4 = -1) (hR : RQ mk pr T M) (hn : T.1 ≤ 31) (hln : pr.length ≤ T.1) (hml : mk.length ≤ p) : CJ G LM m_Model_readsPart 2 [.ref (G.2.2 0)] M (fun v N => v = some (.int (if ltr tx len p = 40 ∨ ltr tx len p = 126 then 0 else 1)) ∧ RFm M N ∧ PRD (cstD tx len (p, b, mk, pr, T) (ltr tx len p)) len N) := by
  refine CJ_of2 (n0 := 1) (by decide) rfl rfl ?_
  simp only [List.map_cons, List.map_nil, List.cons_append, List.nil_append, List.reduceReplicate]
  have hop := o_Model_readsPart (G := G) (b := b) (tx := tx) (len := len) h3 h4 hR (p := p) hl hml
  refine r_aload_n (i := 0) d_Model_readsPart_0 rfl rfl ?_
  refine r_aload_n (i := 0) d_Model_readsPart_1 rfl rfl ?_
  refine r_gx nf_Model_85 lm_0 rfl (h3) d_Model_readsPart_2 ?_
  refine r_V1 v_Model_letterAt w_961 lm_0 (c_Model_letterAt hX hl (by omega)) (Nat.le_of_ble_eq_true rfl) (Nat.le_of_ble_eq_true rfl) d_Model_readsPart_5 ?_
  refine r_istore_n (i := 1) d_Model_readsPart_8 rfl (Nat.le_of_ble_eq_true rfl) rfl ?_
  dsimp only [List.set]
  refine r_iload_n (i := 1) d_Model_readsPart_9 rfl rfl ?_
  refine r_bipush 40 d_Model_readsPart_10 bp_40 ?_
  refine r_icmp_eq 21 d_Model_readsPart_12 (by decide) (fun h_12 => ?_) (fun h_12 => ?_)
  · skip
    exact hop (Or.inl h_12)
  · skip
    refine r_iload_n (i := 1) d_Model_readsPart_15 rfl rfl ?_
    refine r_bipush 126 d_Model_readsPart_16 bp_126 ?_
    refine r_icmp_ne 38 d_Model_readsPart_18 (by decide) (fun h_18 => ?_) (fun h_18 => ?_)
    · skip
      have hno : ¬ (ltr tx len p = 40 ∨ ltr tx len p = 126) := by
        rintro (q | q)
        · exact h_12 q
        · exact h_18 q
      simp only [if_neg hno]
      refine r_iload_n (i := 1) d_Model_readsPart_38 rfl rfl ?_
      refine r_bipush 48 d_Model_readsPart_39 bp_48 ?_
      refine r_bipush 57 d_Model_readsPart_41 bp_57 ?_
      refine r_S3 f_Model_in w_942 (c_Model_in _ _ _ _ ) (Nat.le_of_ble_eq_true rfl) (Nat.le_of_ble_eq_true rfl) d_Model_readsPart_43 ?_
      refine r_if_eq 56 d_Model_readsPart_46 (by decide) (fun h_46 => ?_) (fun h_46 => ?_)
      · skip
        refine r_iload_n (i := 1) d_Model_readsPart_56 rfl rfl ?_
        refine r_bipush 97 d_Model_readsPart_57 bp_97 ?_
        refine r_bipush 104 d_Model_readsPart_59 bp_104 ?_
        refine r_S3 f_Model_in w_942 (c_Model_in _ _ _ _ ) (Nat.le_of_ble_eq_true rfl) (Nat.le_of_ble_eq_true rfl) d_Model_readsPart_61 ?_
        refine r_if_eq 97 d_Model_readsPart_64 (by decide) (fun h_64 => ?_) (fun h_64 => ?_)
        · skip
          have hnm : ¬ (¬ ltr tx len p < 97 ∧ ¬ (104 : Int32) < ltr tx len p) := fun q => by
            have := (bI_f _).mp h_64
            rw [(in_nm _).mpr q] at this
            exact absurd this (by decide)
          have hdg : isDg (ltr tx len p) = false := by
            have := (bI_f _).mp h_46
            rw [in_dg] at this
            exact this
          refine r_aload_n (i := 0) d_Model_readsPart_97 rfl rfl ?_
          refine r_aload_n (i := 0) d_Model_readsPart_98 rfl rfl ?_
          refine r_gx nf_Model_85 lm_0 rfl (h3) d_Model_readsPart_99 ?_
          refine r_puti nf_Model_92 nfin_Model_4 lm_0 rfl d_Model_readsPart_102 ?_
          refine r_iconst 1 d_Model_readsPart_105 ic_1 ?_
          refine r_zret rfl (by decide) d_Model_readsPart_106 ?_
          refine ⟨rfl, ⟨fun e e0 _ _ _ _ => ms_ne _ _ e0, fun j _ e4 _ _ => by rw [ms_same, upd_ne _ _ e4]⟩, ?_⟩
          have hd0 : dgs tx p (len - p) = 0 := dgs_stop hdg
          have hcs : cstD tx len (p, b, mk, pr, T) (ltr tx len p) = .inl p := cstD_no hno hnm hd0
          rw [hcs]
          exact ⟨by rw [ms_same, upd_at], hp⟩
        · skip
          have hnm := (in_nm _).mp ((bI_t _).mp h_64)
          refine r_aload_n (i := 0) d_Model_readsPart_67 rfl rfl ?_
          refine r_iload_n (i := 1) d_Model_readsPart_68 rfl rfl ?_
          refine r_iload_n (i := 1) d_Model_readsPart_69 rfl rfl ?_
          refine r_bipush 97 d_Model_readsPart_70 bp_97 ?_
          refine r_isub d_Model_readsPart_72 ?_
          refine r_bipush (-9) d_Model_readsPart_73 bp_m9 ?_
          refine r_bipush (-9) d_Model_readsPart_75 bp_m9 ?_
          refine r_aload_n (i := 0) d_Model_readsPart_77 rfl rfl ?_
          refine r_gx nf_Model_85 lm_0 rfl (h3) d_Model_readsPart_78 ?_
          refine r_W5 v_Model_makes w_977 lm_0 (c_Model_makes _ _ _ _ 1 p hR hn hln) (Nat.le_of_ble_eq_true rfl) (Nat.le_of_ble_eq_true rfl) d_Model_readsPart_81 (fun v N hv => ?_)
          obtain ⟨rfl, f1, f2, f3⟩ := hv
          rw [h4] at f3
          refine r_aload_n (i := 0) d_Model_readsPart_84 rfl rfl ?_
          refine r_dup d_Model_readsPart_85 rfl ?_
          refine r_gx nf_Model_85 lm_0 rfl ((by rw [f2]; exact h3 : N 0 3 = nI p)) d_Model_readsPart_86 ?_
          refine r_iconst 1 d_Model_readsPart_89 ic_1 ?_
          refine r_iaddN (a := p) (b := 1) d_Model_readsPart_90 rfl rfl ?_
          refine r_puti nf_Model_85 nfin_Model_3 lm_0 rfl d_Model_readsPart_91 ?_
          refine r_goto 105 d_Model_readsPart_94 (by decide) ?_
          refine r_iconst 1 d_Model_readsPart_105 ic_1 ?_
          refine r_zret rfl (by decide) d_Model_readsPart_106 ?_
          refine ⟨rfl, ⟨fun e e0 e2 e8 e9 e10 => by rw [ms_ne _ _ e0]; exact f1.1 e e0 e2 e8 e9 e10, fun j e3 e4 e15 e18 => by rw [ms_same, upd_ne _ _ e3]; exact f1.2 j e3 e4 e15 e18⟩, ?_⟩
          rw [cstD_nm hnm.1 hnm.2]
          refine prd_lf ?_ (by rw [ms_same, upd_at]) hp
          rcases f3 with ⟨a1, a2⟩ | ⟨u, a1, a2, a3⟩
          · exact Or.inl ⟨a1, by rw [ms_same, upd_ne _ _ (by decide)]; exact a2⟩
          · exact Or.inr ⟨u, a1, by rw [ms_same, upd_ne _ _ (by decide)]; exact a2, a3.cong rfl rfl rfl rfl (by rw [ms_same, upd_ne _ _ (by decide)]) (by rw [ms_same, upd_ne _ _ (by decide)])⟩
      · skip
        have hdg : isDg (ltr tx len p) = true := by
          have := (bI_t _).mp h_46
          rw [in_dg] at this
          exact this
        refine r_aload_n (i := 0) d_Model_readsPart_49 rfl rfl ?_
        refine r_W0 v_Model_readsNumber w_973 lm_0 (c_Model_readsNumber (b := b) hX hl h3 h4 hR hn hln hdg) (Nat.le_of_ble_eq_true rfl) (Nat.le_of_ble_eq_true rfl) d_Model_readsPart_50 (fun v N hv => ?_)
        obtain ⟨rfl, f1, f2⟩ := hv
        refine r_goto 105 d_Model_readsPart_53 (by decide) ?_
        refine r_iconst 1 d_Model_readsPart_105 ic_1 ?_
        refine r_zret rfl (by decide) d_Model_readsPart_106 ?_
        exact ⟨rfl, f1, f2⟩
    · skip
      exact hop (Or.inr h_18)

end MMp
