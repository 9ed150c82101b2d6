-- the class: NeedCode, programs, what is alike
section NN3
variable {G : nw_G} {n : Nat} {z : Nat → Nat} {tp : Nat → Bool} {nd ld ak mc : Nat → Nat} {C : Nat → Nat → Nat} {Q : nP} {V : Nat → Nat} {M N : nw_M}
variable {len : Nat} {s : SN} {l : List SN} {K : Nat → Option SN} {ask trp : Int32}
theorem in2_t {w : Int32} (h1 : ¬ w < 0) (h2 : w ≤ 2) : isN 3 w = true := by
  rw [← in2]
  exact decide_eq_true ⟨h1, fun q => absurd h2 (Int32.not_le.mpr q)⟩
theorem in2_f {w : Int32} (h : ¬ w ≤ 2) : isN 3 w = false := by
  rw [← in2]
  exact decide_eq_false (fun q => q.2 (Int32.not_le.mp h))
theorem in1_t {w : Int32} (h1 : ¬ w < 0) (h2 : w ≤ 1) : isN 2 w = true := by
  rw [← in_isN (m := 1) w (by decide)]
  exact decide_eq_true ⟨h1, fun q => absurd h2 (Int32.not_le.mpr q)⟩
theorem in1_f {w : Int32} (h : ¬ w ≤ 1) : isN 2 w = false := by
  rw [← in_isN (m := 1) w (by decide)]
  exact decide_eq_false (fun q => q.2 (Int32.not_le.mp h))
theorem isN_lt {m : Nat} {w x : Int32} (e : x = nI m) (h1 : ¬ w < 0) (h2 : ¬ x ≤ w) : isN m w = true := by
  subst e
  exact decide_eq_true ⟨h1, h2⟩
theorem isN_ge {m : Nat} {w x : Int32} (e : x = nI m) (h2 : x ≤ w) : isN m w = false := by
  subst e
  exact decide_eq_false (fun q => q.2 h2)
set_option maxHeartbeats 1000000 in
theorem c_Need_program (h : NW n z tp nd ld ak mc C Q V M) (i w : Int32) : CJ G LC m_Need_program 101 [.ref (G.2.2 0), .int i, .int w] M (fun v N => v = some (.int (prA n mc C Q i w)) ∧ KF M N ∧ N 0 = M 0 ∧ PG2 n mc Q N) := by
  refine CJ_of2 (n0 := 0) (by decide) rfl rfl ?_
  simp only [List.map_cons, List.map_nil, List.cons_append, List.nil_append, List.reduceReplicate]
  refine r_aload_n (i := 0) d_Need_program_0 rfl rfl ?_
  refine r_getr nf_Need_28 lc_0 rfl d_Need_program_1 ?_
  refine r_getr nf_Need_101 image_10.1 rfl d_Need_program_4 ?_
  refine r_V0 v_Tree_isEmpty w_631 (isImage.tree image_10).1 (c2_Tree_isEmpty h.1.size h.1.n31) (Nat.le_of_ble_eq_true rfl) (Nat.le_of_ble_eq_true rfl) d_Need_program_7 ?_
  refine r_if_eq 16 d_Need_program_10 (by decide) (fun h_10 => ?_) (fun h_10 => ?_)
  · skip
    have h0 : 0 < n := by
      have := of_decide_eq_false ((bI_f _).mp h_10)
      omega
    refine r_aload_n (i := 0) d_Need_program_16 rfl rfl ?_
    refine r_iload_n (i := 1) d_Need_program_17 rfl rfl ?_
    refine r_V1 v_Need_hasRegisters w_610 lc_0 (c_Need_hasRegisters (h.1.2.2.1 0 (by decide)) _) (Nat.le_of_ble_eq_true rfl) (Nat.le_of_ble_eq_true rfl) d_Need_program_18 ?_
    refine r_if_eq 33 d_Need_program_21 (by decide) (fun h_21 => ?_) (fun h_21 => ?_)
    · skip
      have hb : (isR mc i && isN 3 w) = false := by rw [(bI_f _).mp h_21]; rfl
      refine r_iconst (-1) d_Need_program_33 ic_m1 ?_
      refine r_iret rfl d_Need_program_34 ?_
      exact ⟨by rw [prA, if_neg (by omega), hb, if_neg (by decide)], KF.rf M, rfl, h.2.2.2⟩
    · skip
      refine r_iload_n (i := 2) d_Need_program_24 rfl rfl ?_
      refine r_if_lt 33 d_Need_program_25 (by decide) (fun h_25 => ?_) (fun h_25 => ?_)
      · skip
        have hb : (isR mc i && isN 3 w) = false := by rw [isN_neg h_25, Bool.and_false]
        refine r_iconst (-1) d_Need_program_33 ic_m1 ?_
        refine r_iret rfl d_Need_program_34 ?_
        exact ⟨by rw [prA, if_neg (by omega), hb, if_neg (by decide)], KF.rf M, rfl, h.2.2.2⟩
      · skip
        refine r_iload_n (i := 2) d_Need_program_28 rfl rfl ?_
        refine r_iconst 2 d_Need_program_29 ic_2 ?_
        refine r_icmp_le 35 d_Need_program_30 (by decide) (fun h_30 => ?_) (fun h_30 => ?_)
        · skip
          have hw3 := in2_t h_25 h_30
          have hr := (bI_t _).mp h_21
          obtain ⟨a, ha1, ha2, rfl⟩ := isR_nat hr h.1.r6.2
          have hcl : (nI a).toNatClampNeg = a := nI_clamp (by have := h.1.r6; omega)
          refine r_iload_n (i := 2) d_Need_program_35 rfl rfl ?_
          refine r_iconst 2 d_Need_program_36 ic_2 ?_
          refine r_icmp_ne 59 d_Need_program_37 (by decide) (fun h_37 => ?_) (fun h_37 => ?_)
          · skip
            refine r_aload_n (i := 0) d_Need_program_59 rfl rfl ?_
            refine r_getr nf_Need_62 lc_0 rfl d_Need_program_60 ?_
            refine r_iload_n (i := 1) d_Need_program_63 rfl rfl ?_
            refine r_aload_n (i := 0) d_Need_program_64 rfl rfl ?_
            refine r_getr nf_Need_28 lc_0 rfl d_Need_program_65 ?_
            refine r_getr nf_Need_101 image_10.1 rfl d_Need_program_68 ?_
            refine r_aload_n (i := 0) d_Need_program_71 rfl rfl ?_
            refine r_getr nf_Need_55 lc_0 rfl d_Need_program_72 ?_
            refine r_W3 v_Program_makeBy w_636 lc_117 (c2_makeBy h h0 ha1 ha2) (Nat.le_of_ble_eq_true rfl) (Nat.le_of_ble_eq_true rfl) d_Need_program_75 (fun v N hv => ?_)
            obtain ⟨rfl, f1, f2, f3⟩ := hv
            have hr6 := h.1.r6
            refine r_iload_n (i := 2) d_Need_program_78 rfl rfl ?_
            refine r_if_ne 92 d_Need_program_79 (by decide) (fun h_79 => ?_) (fun h_79 => ?_)
            · skip
              refine r_aload_n (i := 0) d_Need_program_92 rfl rfl ?_
              refine r_getr nf_Need_62 lc_0 rfl d_Need_program_93 ?_
              refine r_gx nf_Need_192 lc_117 rfl (f3.2.1) d_Need_program_96 ?_
              refine r_iret rfl d_Need_program_99 ?_
              have hk := KF.of f1
              have hp : PG2 n mc Q N := ⟨a, f2, by omega, Or.inr ⟨h0, ha2, f3⟩⟩
              have q0 := f1 0 (by decide) (by decide) (by decide)
              have key : prA n mc C Q (nI a) w = if w = 0 then nI (prg n Q a).length else if w = 1 then nI (prc n Q a) else nI (C (n - 1) a) := by
                rw [prA, if_neg (by omega), hr, hw3, Bool.and_self, if_pos rfl, hcl]
              have key1 : ¬ w = 0 → w = 1 := by
                intro q
                obtain ⟨x, hx, rfl⟩ := isN_ex hw3 (by omega)
                rcases (show x = 0 ∨ x = 1 ∨ x = 2 by omega) with rfl | rfl | rfl
                · exact absurd rfl q
                · rfl
                · exact absurd rfl h_37
              by_cases e : w = 0
              · first
                  | exact absurd e h_79
                  | exact ⟨by rw [key, if_pos e], hk, q0, hp⟩
              · first
                  | exact absurd h_79 e
                  | exact ⟨by rw [key, if_neg e, if_pos (key1 e)], hk, q0, hp⟩
            · skip
              refine r_aload_n (i := 0) d_Need_program_82 rfl rfl ?_
              refine r_getr nf_Need_62 lc_0 rfl d_Need_program_83 ?_
              refine r_gx nf_Need_189 lc_117 rfl (f3.1) d_Need_program_86 ?_
              refine r_goto 99 d_Need_program_89 (by decide) ?_
              refine r_iret rfl d_Need_program_99 ?_
              have hk := KF.of f1
              have hp : PG2 n mc Q N := ⟨a, f2, by omega, Or.inr ⟨h0, ha2, f3⟩⟩
              have q0 := f1 0 (by decide) (by decide) (by decide)
              have key : prA n mc C Q (nI a) w = if w = 0 then nI (prg n Q a).length else if w = 1 then nI (prc n Q a) else nI (C (n - 1) a) := by
                rw [prA, if_neg (by omega), hr, hw3, Bool.and_self, if_pos rfl, hcl]
              have key1 : ¬ w = 0 → w = 1 := by
                intro q
                obtain ⟨x, hx, rfl⟩ := isN_ex hw3 (by omega)
                rcases (show x = 0 ∨ x = 1 ∨ x = 2 by omega) with rfl | rfl | rfl
                · exact absurd rfl q
                · rfl
                · exact absurd rfl h_37
              by_cases e : w = 0
              · first
                  | exact absurd e h_79
                  | exact ⟨by rw [key, if_pos e], hk, q0, hp⟩
              · first
                  | exact absurd h_79 e
                  | exact ⟨by rw [key, if_neg e, if_pos (key1 e)], hk, q0, hp⟩
          · skip
            refine r_aload_n (i := 0) d_Need_program_40 rfl rfl ?_
            refine r_getr nf_Need_55 lc_0 rfl d_Need_program_41 ?_
            refine r_aload_n (i := 0) d_Need_program_44 rfl rfl ?_
            refine r_getr nf_Need_28 lc_0 rfl d_Need_program_45 ?_
            refine r_getr nf_Need_101 image_10.1 rfl d_Need_program_48 ?_
            refine r_V0 v_Tree_root w_635 (isImage.tree image_10).1 (c2_Tree_root h.1.size h0) (Nat.le_of_ble_eq_true rfl) (Nat.le_of_ble_eq_true rfl) d_Need_program_51 ?_
            refine r_iload_n (i := 1) d_Need_program_54 rfl rfl ?_
            refine r_V2 v_Costs_costOf w_618 costs_110.1 (h.1.cost (k := n - 1) (by omega) ha1 ha2) (Nat.le_of_ble_eq_true rfl) (Nat.le_of_ble_eq_true rfl) d_Need_program_55 ?_
            refine r_iret rfl d_Need_program_58 ?_
            exact ⟨by rw [prA, if_neg (by omega), hr, hw3, Bool.and_self, if_pos rfl, h_37, if_neg (by decide), if_neg (by decide), hcl], KF.rf M, rfl, h.2.2.2⟩
        · skip
          have hb : (isR mc i && isN 3 w) = false := by rw [in2_f h_30, Bool.and_false]
          refine r_iconst (-1) d_Need_program_33 ic_m1 ?_
          refine r_iret rfl d_Need_program_34 ?_
          exact ⟨by rw [prA, if_neg (by omega), hb, if_neg (by decide)], KF.rf M, rfl, h.2.2.2⟩
  · skip
    have hz : n = 0 := of_decide_eq_true ((bI_t _).mp h_10)
    refine r_bipush (-2) d_Need_program_13 bp_m2 ?_
    refine r_iret rfl d_Need_program_15 ?_
    exact ⟨by rw [prA, if_pos hz], KF.rf M, rfl, h.2.2.2⟩

set_option maxHeartbeats 1000000 in
theorem c_Need_line (h : NW n z tp nd ld ak mc C Q V M) (j w : Int32) : CJ G LC m_Need_line 101 [.ref (G.2.2 0), .int j, .int w] M (fun v N => v = some (.int (lnA n mc Q j w)) ∧ KF M N ∧ N 0 = M 0 ∧ PG2 n mc Q N) := by
  refine CJ_of2 (n0 := 0) (by decide) rfl rfl ?_
  simp only [List.map_cons, List.map_nil, List.cons_append, List.nil_append, List.reduceReplicate]
  refine r_aload_n (i := 0) d_Need_line_0 rfl rfl ?_
  refine r_getr nf_Need_28 lc_0 rfl d_Need_line_1 ?_
  refine r_getr nf_Need_101 image_10.1 rfl d_Need_line_4 ?_
  refine r_V0 v_Tree_isEmpty w_631 (isImage.tree image_10).1 (c2_Tree_isEmpty h.1.size h.1.n31) (Nat.le_of_ble_eq_true rfl) (Nat.le_of_ble_eq_true rfl) d_Need_line_7 ?_
  refine r_if_eq 16 d_Need_line_10 (by decide) (fun h_10 => ?_) (fun h_10 => ?_)
  · skip
    have h0 : 0 < n := by
      have := of_decide_eq_false ((bI_f _).mp h_10)
      omega
    refine r_aload_n (i := 0) d_Need_line_16 rfl rfl ?_
    refine r_getr nf_Need_62 lc_0 rfl d_Need_line_17 ?_
    refine r_aload_n (i := 0) d_Need_line_20 rfl rfl ?_
    refine r_V0 v_Need_registers w_614 lc_0 (c_Need_registers (h.1.2.2.1 0 (by decide))) (Nat.le_of_ble_eq_true rfl) (Nat.le_of_ble_eq_true rfl) d_Need_line_21 ?_
    refine r_aload_n (i := 0) d_Need_line_24 rfl rfl ?_
    refine r_getr nf_Need_28 lc_0 rfl d_Need_line_25 ?_
    refine r_getr nf_Need_101 image_10.1 rfl d_Need_line_28 ?_
    refine r_aload_n (i := 0) d_Need_line_31 rfl rfl ?_
    refine r_getr nf_Need_55 lc_0 rfl d_Need_line_32 ?_
    refine r_W3 v_Program_makeBy w_636 lc_117 (c2_makeBy h h0 h.1.r6.1 (Nat.le_refl _)) (Nat.le_of_ble_eq_true rfl) (Nat.le_of_ble_eq_true rfl) d_Need_line_35 (fun v N hv => ?_)
    obtain ⟨rfl, f1, f2, f3⟩ := hv
    have hr6 := h.1.r6
    have hk := KF.of f1
    have hp : PG2 n mc Q N := ⟨mc 0, f2, by omega, Or.inr ⟨h0, Nat.le_refl _, f3⟩⟩
    have q0 := f1 0 (by decide) (by decide) (by decide)
    have hok := prg_ok h.1.2.1 h0 h.1.r6.1 (Nat.le_refl _)
    refine r_iload_n (i := 1) d_Need_line_38 rfl rfl ?_
    refine r_if_lt 62 d_Need_line_39 (by decide) (fun h_39 => ?_) (fun h_39 => ?_)
    · skip
      have hb : (isN (prg n Q (mc 0)).length j && isN 5 w) = false := by rw [isN_neg h_39]; rfl
      refine r_iconst (-1) d_Need_line_62 ic_m1 ?_
      refine r_iret rfl d_Need_line_63 ?_
      exact ⟨by rw [lnA, if_neg (by omega), hb, if_neg (by decide)], hk, q0, hp⟩
    · skip
      refine r_iload_n (i := 1) d_Need_line_42 rfl rfl ?_
      refine r_aload_n (i := 0) d_Need_line_43 rfl rfl ?_
      refine r_getr nf_Need_62 lc_0 rfl d_Need_line_44 ?_
      refine r_gx nf_Need_189 lc_117 rfl (f3.1) d_Need_line_47 ?_
      refine r_icmp_ge 62 d_Need_line_50 (by decide) (fun h_50 => ?_) (fun h_50 => ?_)
      · skip
        have hb : (isN (prg n Q (mc 0)).length j && isN 5 w) = false := by rw [isN_ge rfl h_50]; rfl
        refine r_iconst (-1) d_Need_line_62 ic_m1 ?_
        refine r_iret rfl d_Need_line_63 ?_
        exact ⟨by rw [lnA, if_neg (by omega), hb, if_neg (by decide)], hk, q0, hp⟩
      · skip
        refine r_iload_n (i := 2) d_Need_line_53 rfl rfl ?_
        refine r_if_lt 62 d_Need_line_54 (by decide) (fun h_54 => ?_) (fun h_54 => ?_)
        · skip
          have hb : (isN (prg n Q (mc 0)).length j && isN 5 w) = false := by rw [isN_neg h_54, Bool.and_false]
          refine r_iconst (-1) d_Need_line_62 ic_m1 ?_
          refine r_iret rfl d_Need_line_63 ?_
          exact ⟨by rw [lnA, if_neg (by omega), hb, if_neg (by decide)], hk, q0, hp⟩
        · skip
          refine r_iload_n (i := 2) d_Need_line_57 rfl rfl ?_
          refine r_iconst 5 d_Need_line_58 ic_5 ?_
          refine r_icmp_lt 64 d_Need_line_59 (by decide) (fun h_59 => ?_) (fun h_59 => ?_)
          · skip
            have hj1 := isN_lt (m := (prg n Q (mc 0)).length) rfl h_39 h_50
            have hw1 := isN_lt (m := 5) (x := 5) rfl h_54 (fun q => absurd h_59 (Int32.not_lt.mpr q))
            obtain ⟨jj, hjj, rfl⟩ := isN_ex hj1 (by omega)
            obtain ⟨ww, hww, rfl⟩ := isN_ex hw1 (by omega)
            refine r_aload_n (i := 0) d_Need_line_64 rfl rfl ?_
            refine r_getr nf_Need_62 lc_0 rfl d_Need_line_65 ?_
            refine r_iload_n (i := 1) d_Need_line_68 rfl rfl ?_
            refine r_iload_n (i := 2) d_Need_line_69 rfl rfl ?_
            refine r_V2 v_Program_part w_673 lc_117 (c2_part (j := jj) (p := ww) (x := lnP ((prg n Q (mc 0))[jj]?.getD (0, 0, 0, 0, 0)) (nI ww)) (by omega) (lsIn_at f3.2.2 hjj hww) rfl) (Nat.le_of_ble_eq_true rfl) (Nat.le_of_ble_eq_true rfl) d_Need_line_70 ?_
            refine r_iret rfl d_Need_line_73 ?_
            exact ⟨by rw [lnA, if_neg (by omega), hj1, hw1, Bool.and_self, if_pos rfl, nI_clamp (by omega)], hk, q0, hp⟩
          · skip
            have hb : (isN (prg n Q (mc 0)).length j && isN 5 w) = false := by rw [isN_ge (m := 5) rfl (Int32.not_lt.mp h_59), Bool.and_false]
            refine r_iconst (-1) d_Need_line_62 ic_m1 ?_
            refine r_iret rfl d_Need_line_63 ?_
            exact ⟨by rw [lnA, if_neg (by omega), hb, if_neg (by decide)], hk, q0, hp⟩
  · skip
    have hz : n = 0 := of_decide_eq_true ((bI_t _).mp h_10)
    refine r_bipush (-2) d_Need_line_13 bp_m2 ?_
    refine r_iret rfl d_Need_line_15 ?_
    exact ⟨by rw [lnA, if_pos hz], KF.rf M, rfl, h.2.2.2⟩

set_option maxHeartbeats 1000000 in
theorem c_Need_run (h : NW n z tp nd ld ak mc C Q V M) (k : Int32) : CJ G LC m_Need_run 101 [.ref (G.2.2 0), .int k] M (fun v N => KF M N ∧ PG2 n mc Q N ∧ ((n = 0 ∧ v = some (.int (-2)) ∧ N 0 = M 0) ∨ (0 < n ∧ isN ((prg n Q (mc 0)).length + 1) k = false ∧ v = some (.int (-1)) ∧ N 0 = M 0) ∨ ∃ nn, 0 < n ∧ nn ≤ (prg n Q (mc 0)).length ∧ k = nI nn ∧ ((∃ s, rns (M 13) (M 31) (prg n Q (mc 0)) (fun _ => 0, fun _ => 0) nn = .inl s ∧ v = some (.int 1) ∧ N 0 12 = s.1 0 ∧ N 0 13 = M 0 13) ∨ ∃ t, rns (M 13) (M 31) (prg n Q (mc 0)) (fun _ => 0, fun _ => 0) nn = .inr t ∧ v = some (.int (-4)) ∧ N 0 12 = M 0 12 ∧ N 0 13 = t))) := by
  refine CJ_of2 (n0 := 0) (by decide) rfl rfl ?_
  simp only [List.map_cons, List.map_nil, List.cons_append, List.nil_append, List.reduceReplicate]
  refine r_aload_n (i := 0) d_Need_run_0 rfl rfl ?_
  refine r_getr nf_Need_28 lc_0 rfl d_Need_run_1 ?_
  refine r_getr nf_Need_101 image_10.1 rfl d_Need_run_4 ?_
  refine r_V0 v_Tree_isEmpty w_631 (isImage.tree image_10).1 (c2_Tree_isEmpty h.1.size h.1.n31) (Nat.le_of_ble_eq_true rfl) (Nat.le_of_ble_eq_true rfl) d_Need_run_7 ?_
  refine r_if_eq 16 d_Need_run_10 (by decide) (fun h_10 => ?_) (fun h_10 => ?_)
  · skip
    have h0 : 0 < n := by
      have := of_decide_eq_false ((bI_f _).mp h_10)
      omega
    refine r_aload_n (i := 0) d_Need_run_16 rfl rfl ?_
    refine r_getr nf_Need_62 lc_0 rfl d_Need_run_17 ?_
    refine r_aload_n (i := 0) d_Need_run_20 rfl rfl ?_
    refine r_V0 v_Need_registers w_614 lc_0 (c_Need_registers (h.1.2.2.1 0 (by decide))) (Nat.le_of_ble_eq_true rfl) (Nat.le_of_ble_eq_true rfl) d_Need_run_21 ?_
    refine r_aload_n (i := 0) d_Need_run_24 rfl rfl ?_
    refine r_getr nf_Need_28 lc_0 rfl d_Need_run_25 ?_
    refine r_getr nf_Need_101 image_10.1 rfl d_Need_run_28 ?_
    refine r_aload_n (i := 0) d_Need_run_31 rfl rfl ?_
    refine r_getr nf_Need_55 lc_0 rfl d_Need_run_32 ?_
    refine r_W3 v_Program_makeBy w_636 lc_117 (c2_makeBy h h0 h.1.r6.1 (Nat.le_refl _)) (Nat.le_of_ble_eq_true rfl) (Nat.le_of_ble_eq_true rfl) d_Need_run_35 (fun v N hv => ?_)
    obtain ⟨rfl, f1, f2, f3⟩ := hv
    have hr6 := h.1.r6
    have hk := KF.of f1
    have hp : PG2 n mc Q N := ⟨mc 0, f2, by omega, Or.inr ⟨h0, Nat.le_refl _, f3⟩⟩
    have q0 := f1 0 (by decide) (by decide) (by decide)
    have hok := prg_ok h.1.2.1 h0 h.1.r6.1 (Nat.le_refl _)
    refine r_iload_n (i := 1) d_Need_run_38 rfl rfl ?_
    refine r_if_lt 53 d_Need_run_39 (by decide) (fun h_39 => ?_) (fun h_39 => ?_)
    · skip
      have hb : isN ((prg n Q (mc 0)).length + 1) k = false := isN_neg h_39
      refine r_iconst (-1) d_Need_run_53 ic_m1 ?_
      refine r_iret rfl d_Need_run_54 ?_
      exact ⟨hk, hp, Or.inr (Or.inl ⟨h0, hb, rfl, q0⟩)⟩
    · skip
      refine r_iload_n (i := 1) d_Need_run_42 rfl rfl ?_
      refine r_aload_n (i := 0) d_Need_run_43 rfl rfl ?_
      refine r_getr nf_Need_62 lc_0 rfl d_Need_run_44 ?_
      refine r_gx nf_Need_189 lc_117 rfl (f3.1) d_Need_run_47 ?_
      refine r_icmp_le 55 d_Need_run_50 (by decide) (fun h_50 => ?_) (fun h_50 => ?_)
      · skip
        have hb : isN ((prg n Q (mc 0)).length + 1) k = true := by
          rw [← in_isN (m := (prg n Q (mc 0)).length) k (by omega)]
          exact decide_eq_true ⟨h_39, fun q => absurd h_50 (Int32.not_le.mpr q)⟩
        obtain ⟨nn, hnn, rfl⟩ := isN_ex hb (by omega)
        refine r_aload_n (i := 0) d_Need_run_55 rfl rfl ?_
        refine r_aload_n (i := 0) d_Need_run_56 rfl rfl ?_
        refine r_getr nf_Need_69 lc_0 rfl d_Need_run_57 ?_
        refine r_aload_n (i := 0) d_Need_run_60 rfl rfl ?_
        refine r_getr nf_Need_62 lc_0 rfl d_Need_run_61 ?_
        refine r_iload_n (i := 1) d_Need_run_64 rfl rfl ?_
        refine r_aload_n (i := 0) d_Need_run_65 rfl rfl ?_
        refine r_getr nf_Need_28 lc_0 rfl d_Need_run_66 ?_
        refine r_getr nf_Need_101 image_10.1 rfl d_Need_run_69 ?_
        refine r_aload_n (i := 0) d_Need_run_72 rfl rfl ?_
        refine r_getr nf_Need_28 lc_0 rfl d_Need_run_73 ?_
        refine r_getr nf_Need_156 image_10.1 rfl d_Need_run_76 ?_
        refine r_W4 v_Device_goThrough w_681 lc_122 (c_Device_goThrough (n := n) (nn := nn) (ls := prg n Q (mc 0)) h.1.n31 (by omega) (by omega) f3.2.2 hok.1) (Nat.le_of_ble_eq_true rfl) (Nat.le_of_ble_eq_true rfl) d_Need_run_79 (fun v N2 hv => ?_)
        obtain ⟨q1, q2⟩ := hv
        rw [f1 13 (by decide) (by decide) (by decide), f1 31 (by decide) (by decide) (by decide)] at q1
        have hkk : ∀ x : Nat → Int32, x 11 = M 0 11 → KF M (ms N2 0 x) := fun x hx => ⟨fun e e1 e2 => by rw [ms_ne _ _ (by omega), q2 e (by omega) (by omega) (by omega)]; exact f1 e (by omega) (by omega) (by omega), by rw [ms_same]; exact hx, by rw [ms_ne _ _ (by decide), q2 129 (by decide) (by decide) (by decide)]; exact hk.2.2.1, by rw [ms_ne _ _ (by decide), q2 131 (by decide) (by decide) (by decide)]; exact hk.2.2.2.1, by rw [ms_ne _ _ (by decide), q2 133 (by decide) (by decide) (by decide)]; exact hk.2.2.2.2⟩
        have hpp : ∀ x : Nat → Int32, PG2 n mc Q (ms N2 0 x) := fun x => hp.keep (by rw [ms_ne _ _ (by decide)]; exact q2 117 (by decide) (by decide) (by decide)) (by rw [ms_ne _ _ (by decide)]; exact q2 119 (by decide) (by decide) (by decide))
        have q00 : N2 0 = M 0 := (q2 0 (by decide) (by decide) (by decide)).trans q0
        rcases q1 with ⟨s, e1, rfl, e2, e3⟩ | ⟨t, e1, rfl, e2⟩
        · skip
          skip
          refine r_V1 v_Need_tell w_602 lc_0 (c1_Need_tell) (Nat.le_of_ble_eq_true rfl) (Nat.le_of_ble_eq_true rfl) d_Need_run_82 ?_
          refine r_iret rfl d_Need_run_85 ?_
          first
            | exact ⟨hkk _ (by rw [upd_ne _ _ (by decide), q00]), hpp _, Or.inr (Or.inr ⟨nn, h0, by omega, rfl, Or.inl ⟨s, e1, rfl, by rw [ms_same, upd_at]; exact e2, by rw [ms_same, upd_ne _ _ (by decide), q00]⟩⟩)⟩
            | exact ⟨hkk _ (by rw [upd_ne _ _ (by decide), q00]), hpp _, Or.inr (Or.inr ⟨nn, h0, by omega, rfl, Or.inr ⟨t, e1, rfl, by rw [ms_same, upd_ne _ _ (by decide), q00], by rw [ms_same, upd_at]; exact e2⟩⟩)⟩
        · skip
          skip
          refine r_V1 v_Need_tell w_602 lc_0 (c0_Need_tell) (Nat.le_of_ble_eq_true rfl) (Nat.le_of_ble_eq_true rfl) d_Need_run_82 ?_
          refine r_iret rfl d_Need_run_85 ?_
          first
            | exact ⟨hkk _ (by rw [upd_ne _ _ (by decide), q00]), hpp _, Or.inr (Or.inr ⟨nn, h0, by omega, rfl, Or.inl ⟨s, e1, rfl, by rw [ms_same, upd_at]; exact e2, by rw [ms_same, upd_ne _ _ (by decide), q00]⟩⟩)⟩
            | exact ⟨hkk _ (by rw [upd_ne _ _ (by decide), q00]), hpp _, Or.inr (Or.inr ⟨nn, h0, by omega, rfl, Or.inr ⟨t, e1, rfl, by rw [ms_same, upd_ne _ _ (by decide), q00], by rw [ms_same, upd_at]; exact e2⟩⟩)⟩
      · skip
        have hb : isN ((prg n Q (mc 0)).length + 1) k = false := by
          rw [← in_isN (m := (prg n Q (mc 0)).length) k (by omega)]
          exact decide_eq_false (fun q => q.2 (Int32.not_le.mp h_50))
        refine r_iconst (-1) d_Need_run_53 ic_m1 ?_
        refine r_iret rfl d_Need_run_54 ?_
        exact ⟨hk, hp, Or.inr (Or.inl ⟨h0, hb, rfl, q0⟩)⟩
  · skip
    have hz : n = 0 := of_decide_eq_true ((bI_t _).mp h_10)
    refine r_bipush (-2) d_Need_run_13 bp_m2 ?_
    refine r_iret rfl d_Need_run_15 ?_
    exact ⟨KF.rf M, h.2.2.2, Or.inl ⟨hz, rfl, rfl⟩⟩

theorem KF.tr {A B D : nw_M} (h : KF A B) (h2 : KF B D) : KF A D := ⟨fun e a b => (h2.1 e a b).trans (h.1 e a b), h2.2.1.trans h.2.1, h2.2.2.1.trans h.2.2.1, h2.2.2.2.1.trans h.2.2.2.1, h2.2.2.2.2.trans h.2.2.2.2⟩
theorem NW.kf (h : NW n z tp nd ld ak mc C Q V M) (hk : KF M N) (hp : PG2 n mc Q N) : NW n z tp nd ld ak mc C Q V N := by
  obtain ⟨h1, h2, h3, h4⟩ := h
  have e13 := hk.1 13 (by decide) (by decide)
  have e17 := hk.1 17 (by decide) (by decide)
  have e19 := hk.1 19 (by decide) (by decide)
  refine ⟨h1.keep (fun e a b => hk.1 e (by omega) b), ?_, ?_, hp⟩
  · rw [e13, e17, e19]; exact h2
  · rw [e17]; exact h3.keep hk.2.2.1 hk.2.2.2.1 hk.2.2.2.2
set_option maxHeartbeats 1000000 in
theorem l_Need_fewest (h0 : 0 < n) {r : Int32} {P : Option Value → nw_M → Prop} (hP : ∀ N, KF M N → N 0 = M 0 → PG2 n mc Q N → P (some (.int r)) N) : ∀ (d i : Nat) (M2 : nw_M), 1 ≤ i → i + d = mc 0 + 1 → fwF n Q d i = r → NW n z tp nd ld ak mc C Q V M2 → KF M M2 → M2 0 = M 0 → RJ G LC m_Need_fewest 101 P 18 [some (.ref (G.2.2 0)), some (.int (nI i))] [] M2 := by
  intro d
  induction d with
  | zero =>
    intro i M2 h1 hi hf h hk q0
    rw [fwF] at hf
    subst hf
    refine r_iload_n (i := 1) d_Need_fewest_18 rfl rfl ?_
    refine r_aload_n (i := 0) d_Need_fewest_19 rfl rfl ?_
    refine r_V0 v_Need_registers w_614 lc_0 (c_Need_registers (h.1.2.2.1 0 (by decide))) (Nat.le_of_ble_eq_true rfl) (Nat.le_of_ble_eq_true rfl) d_Need_fewest_20 ?_
    refine r_icmp_gt 63 d_Need_fewest_23 (by decide) (fun _ => ?_) (fun h9 => absurd (nI_lt (by omega) (by have := h.1.r6; omega)) h9)
    refine r_bipush (-9) d_Need_fewest_63 bp_m9 ?_
    exact r_iret rfl d_Need_fewest_65 (hP M2 hk q0 h.2.2.2)
  | succ d ih =>
    intro i M2 h1 hi hf h hk q0
    have hr6 := h.1.r6
    refine r_iload_n (i := 1) d_Need_fewest_18 rfl rfl ?_
    refine r_aload_n (i := 0) d_Need_fewest_19 rfl rfl ?_
    refine r_V0 v_Need_registers w_614 lc_0 (c_Need_registers (h.1.2.2.1 0 (by decide))) (Nat.le_of_ble_eq_true rfl) (Nat.le_of_ble_eq_true rfl) d_Need_fewest_20 ?_
    refine r_icmp_gt 63 d_Need_fewest_23 (by decide) (fun h_23 => ?_) (fun h_23 => ?_)
    · skip
      exact absurd ((nI_ltI (a := mc 0) (b := i) (by omega) (by omega)).mp h_23) (by omega)
    · skip
      refine r_aload_n (i := 0) d_Need_fewest_26 rfl rfl ?_
      refine r_getr nf_Need_62 lc_0 rfl d_Need_fewest_27 ?_
      refine r_iload_n (i := 1) d_Need_fewest_30 rfl rfl ?_
      refine r_aload_n (i := 0) d_Need_fewest_31 rfl rfl ?_
      refine r_getr nf_Need_28 lc_0 rfl d_Need_fewest_32 ?_
      refine r_getr nf_Need_101 image_10.1 rfl d_Need_fewest_35 ?_
      refine r_aload_n (i := 0) d_Need_fewest_38 rfl rfl ?_
      refine r_getr nf_Need_55 lc_0 rfl d_Need_fewest_39 ?_
      refine r_W3 v_Program_makeBy w_636 lc_117 (c2_makeBy h h0 h1 (by omega)) (Nat.le_of_ble_eq_true rfl) (Nat.le_of_ble_eq_true rfl) d_Need_fewest_42 (fun v N hv => ?_)
      obtain ⟨rfl, f1, f2, f3⟩ := hv
      have hp : PG2 n mc Q N := ⟨i, f2, by omega, Or.inr ⟨h0, by omega, f3⟩⟩
      have hkN := KF.of f1
      have qN : N 0 = M 0 := (f1 0 (by decide) (by decide) (by decide)).trans q0
      rw [fwF] at hf
      have hpc := (prg_ok h.1.2.1 h0 h1 (show i ≤ mc 0 by omega)).2.2
      refine r_aload_n (i := 0) d_Need_fewest_45 rfl rfl ?_
      refine r_getr nf_Need_62 lc_0 rfl d_Need_fewest_46 ?_
      refine r_gx nf_Need_192 lc_117 rfl (f3.2.1) d_Need_fewest_49 ?_
      refine r_if_ne 57 d_Need_fewest_52 (by decide) (fun h_52 => ?_) (fun h_52 => ?_)
      · skip
        refine r_iinc d_Need_fewest_57 rfl (nI_inc _) (Nat.le_of_ble_eq_true rfl) rfl ?_
        dsimp only [List.set]
        refine r_goto 18 d_Need_fewest_60 (by decide) ?_
        rw [if_neg (fun e => h_52 (by rw [e]; rfl))] at hf
        exact ih (i + 1) N (by omega) (by omega) hf (h.kf hkN hp) (hk.tr hkN) qN
      · skip
        refine r_iload_n (i := 1) d_Need_fewest_55 rfl rfl ?_
        refine r_iret rfl d_Need_fewest_56 ?_
        rw [if_pos ((nI_eq (a := prc n Q i) (b := 0) (by omega) (by omega)).mp h_52)] at hf
        subst hf
        exact hP N (hk.tr hkN) qN hp

theorem c_Need_fewest (h : NW n z tp nd ld ak mc C Q V M) : CJ G LC m_Need_fewest 101 [.ref (G.2.2 0)] M (fun v N => v = some (.int (fwA n mc Q)) ∧ KF M N ∧ N 0 = M 0 ∧ PG2 n mc Q N) := by
  refine CJ_of2 (n0 := 1) (by decide) rfl rfl ?_
  simp only [List.map_cons, List.map_nil, List.cons_append, List.nil_append, List.reduceReplicate]
  refine r_aload_n (i := 0) d_Need_fewest_0 rfl rfl ?_
  refine r_getr nf_Need_28 lc_0 rfl d_Need_fewest_1 ?_
  refine r_getr nf_Need_101 image_10.1 rfl d_Need_fewest_4 ?_
  refine r_V0 v_Tree_isEmpty w_631 (isImage.tree image_10).1 (c2_Tree_isEmpty h.1.size h.1.n31) (Nat.le_of_ble_eq_true rfl) (Nat.le_of_ble_eq_true rfl) d_Need_fewest_7 ?_
  refine r_if_eq 16 d_Need_fewest_10 (by decide) (fun h_10 => ?_) (fun h_10 => ?_)
  · skip
    have h0 : 0 < n := by
      have := of_decide_eq_false ((bI_f _).mp h_10)
      omega
    refine r_iconst 1 d_Need_fewest_16 ic_1 ?_
    refine r_istore_n (i := 1) d_Need_fewest_17 rfl (Nat.le_of_ble_eq_true rfl) rfl ?_
    dsimp only [List.set]
    have e : fwA n mc Q = fwF n Q (mc 0) 1 := by rw [fwA, if_neg (by omega)]
    exact l_Need_fewest (M := M) (V := V) h0 (fun N a b c => ⟨rfl, a, b, c⟩) (mc 0) 1 M (by omega) (by omega) e.symm h (KF.rf M) rfl
  · skip
    have hz : n = 0 := of_decide_eq_true ((bI_t _).mp h_10)
    refine r_bipush (-2) d_Need_fewest_13 bp_m2 ?_
    refine r_iret rfl d_Need_fewest_15 ?_
    exact ⟨by rw [fwA, if_pos hz], KF.rf M, rfl, h.2.2.2⟩

theorem c_Need_shared (h : SR n (M 17) tp ak V M) (c w : Int32) : CF G LC m_Need_shared 1 [.ref (G.2.2 0), .int c, .int w] M (some (.int (shA n ak (shL n (M 17) tp ak) c w))) M := by
  have h5 := shL_len (n := n) (lf := M 17) (tp := tp) (ak := ak)
  refine CJ_of2 (n0 := 0) (by decide) rfl rfl ?_
  simp only [List.map_cons, List.map_nil, List.cons_append, List.nil_append, List.reduceReplicate]
  refine r_iload_n (i := 1) d_Need_shared_0 rfl rfl ?_
  refine r_if_lt 24 d_Need_shared_1 (by decide) (fun h_1 => ?_) (fun h_1 => ?_)
  · skip
    have hb : (isN 2 w && isN (shL n (M 17) tp ak).length c) = false := by rw [isN_neg h_1, Bool.and_false]
    refine r_iconst (-1) d_Need_shared_24 ic_m1 ?_
    refine r_iret rfl d_Need_shared_25 ?_
    exact ⟨by rw [shA, hb, if_neg (by decide)], rfl⟩
  · skip
    refine r_iload_n (i := 1) d_Need_shared_4 rfl rfl ?_
    refine r_aload_n (i := 0) d_Need_shared_5 rfl rfl ?_
    refine r_getr nf_Need_76 lc_0 rfl d_Need_shared_6 ?_
    refine r_gx nf_Need_249 lc_129 rfl (h.1.1) d_Need_shared_9 ?_
    refine r_icmp_ge 24 d_Need_shared_12 (by decide) (fun h_12 => ?_) (fun h_12 => ?_)
    · skip
      have hb : (isN 2 w && isN (shL n (M 17) tp ak).length c) = false := by rw [isN_ge rfl h_12, Bool.and_false]
      refine r_iconst (-1) d_Need_shared_24 ic_m1 ?_
      refine r_iret rfl d_Need_shared_25 ?_
      exact ⟨by rw [shA, hb, if_neg (by decide)], rfl⟩
    · skip
      refine r_iload_n (i := 2) d_Need_shared_15 rfl rfl ?_
      refine r_if_lt 24 d_Need_shared_16 (by decide) (fun h_16 => ?_) (fun h_16 => ?_)
      · skip
        have hb : (isN 2 w && isN (shL n (M 17) tp ak).length c) = false := by rw [isN_neg h_16]; rfl
        refine r_iconst (-1) d_Need_shared_24 ic_m1 ?_
        refine r_iret rfl d_Need_shared_25 ?_
        exact ⟨by rw [shA, hb, if_neg (by decide)], rfl⟩
      · skip
        refine r_iload_n (i := 2) d_Need_shared_19 rfl rfl ?_
        refine r_iconst 1 d_Need_shared_20 ic_1 ?_
        refine r_icmp_le 26 d_Need_shared_21 (by decide) (fun h_21 => ?_) (fun h_21 => ?_)
        · skip
          have hc1 := isN_lt (m := (shL n (M 17) tp ak).length) rfl h_1 h_12
          have hw1 := in1_t h_16 h_21
          obtain ⟨cc, hcc, rfl⟩ := isN_ex hc1 (by omega)
          obtain ⟨x, hx⟩ : ∃ x, (shL n (M 17) tp ak)[cc]? = some x := ⟨_, List.getElem?_eq_getElem hcc⟩
          have key : shA n ak (shL n (M 17) tp ak) (nI cc) w = if w = 0 then nI x else nI (occ ak x n) := by
            rw [shA, hc1, hw1]
            simp only [Bool.and_self, if_true]
            rw [nI_clamp (by omega), hx]
            rfl
          refine r_iload_n (i := 2) d_Need_shared_26 rfl rfl ?_
          refine r_if_ne 44 d_Need_shared_27 (by decide) (fun h_27 => ?_) (fun h_27 => ?_)
          · skip
            refine r_aload_n (i := 0) d_Need_shared_44 rfl rfl ?_
            refine r_getr nf_Need_76 lc_0 rfl d_Need_shared_45 ?_
            refine r_getr nf_Need_255 lc_129 rfl d_Need_shared_48 ?_
            refine r_iload_n (i := 1) d_Need_shared_51 rfl rfl ?_
            refine r_V1 v_Row_get w_580 row_132.1 (c2_Row_get (k := cc) row_132 (by omega) (h.1.2 cc x hx).2) (Nat.le_of_ble_eq_true rfl) (Nat.le_of_ble_eq_true rfl) d_Need_shared_52 ?_
            refine r_iret rfl d_Need_shared_55 ?_
            first
              | exact ⟨by rw [key, if_pos h_27], rfl⟩
              | exact ⟨by rw [key, if_neg h_27], rfl⟩
          · skip
            refine r_aload_n (i := 0) d_Need_shared_30 rfl rfl ?_
            refine r_getr nf_Need_76 lc_0 rfl d_Need_shared_31 ?_
            refine r_getr nf_Need_252 lc_129 rfl d_Need_shared_34 ?_
            refine r_iload_n (i := 1) d_Need_shared_37 rfl rfl ?_
            refine r_V1 v_Row_get w_580 row_130.1 (c2_Row_get (k := cc) row_130 (by omega) (h.1.2 cc x hx).1) (Nat.le_of_ble_eq_true rfl) (Nat.le_of_ble_eq_true rfl) d_Need_shared_38 ?_
            refine r_goto 55 d_Need_shared_41 (by decide) ?_
            refine r_iret rfl d_Need_shared_55 ?_
            first
              | exact ⟨by rw [key, if_pos h_27], rfl⟩
              | exact ⟨by rw [key, if_neg h_27], rfl⟩
        · skip
          have hb : (isN 2 w && isN (shL n (M 17) tp ak).length c) = false := by rw [in1_f h_21]; rfl
          refine r_iconst (-1) d_Need_shared_24 ic_m1 ?_
          refine r_iret rfl d_Need_shared_25 ?_
          exact ⟨by rw [shA, hb, if_neg (by decide)], rfl⟩

theorem c_Need_cheapest (h : NW n z tp nd ld ak mc C Q V M) (w : Int32) : CJ G LC m_Need_cheapest 7 [.ref (G.2.2 0), .int w] M (fun v N => v = some (.int (chA n V (shL n (M 17) tp ak).length w)) ∧ (∀ e, e ≤ 128 → N e = M e) ∧ SR n (M 17) tp ak V N) := by
  refine CJ_of2 (n0 := 0) (by decide) rfl rfl ?_
  simp only [List.map_cons, List.map_nil, List.cons_append, List.nil_append, List.reduceReplicate]
  refine r_aload_n (i := 0) d_Need_cheapest_0 rfl rfl ?_
  refine r_getr nf_Need_28 lc_0 rfl d_Need_cheapest_1 ?_
  refine r_getr nf_Need_101 image_10.1 rfl d_Need_cheapest_4 ?_
  refine r_V0 v_Tree_isEmpty w_631 (isImage.tree image_10).1 (c2_Tree_isEmpty h.1.size h.1.n31) (Nat.le_of_ble_eq_true rfl) (Nat.le_of_ble_eq_true rfl) d_Need_cheapest_7 ?_
  refine r_if_eq 16 d_Need_cheapest_10 (by decide) (fun h_10 => ?_) (fun h_10 => ?_)
  · skip
    have h0 : 0 < n := by
      have := of_decide_eq_false ((bI_f _).mp h_10)
      omega
    refine r_iload_n (i := 1) d_Need_cheapest_16 rfl rfl ?_
    refine r_if_lt 25 d_Need_cheapest_17 (by decide) (fun h_17 => ?_) (fun h_17 => ?_)
    · skip
      have hb : isN 2 w = false := isN_neg h_17
      refine r_iconst (-1) d_Need_cheapest_25 ic_m1 ?_
      refine r_iret rfl d_Need_cheapest_26 ?_
      exact ⟨by rw [chA, if_neg (by omega), hb, if_neg (by decide)], fun _ _ => rfl, h.2.2.1⟩
    · skip
      refine r_iload_n (i := 1) d_Need_cheapest_20 rfl rfl ?_
      refine r_iconst 1 d_Need_cheapest_21 ic_1 ?_
      refine r_icmp_le 27 d_Need_cheapest_22 (by decide) (fun h_22 => ?_) (fun h_22 => ?_)
      · skip
        have hb := in1_t h_17 h_22
        have hxs : ∀ x ∈ shL n (M 17) tp ak, x < n ∧ M 17 x ≠ -9 := by
          intro x hx
          obtain ⟨c, hc⟩ := List.getElem?_of_mem hx
          obtain ⟨a1, a2⟩ := shL_at hc
          refine ⟨a1, ?_⟩
          unfold shQ at a2
          simp only [Bool.and_eq_true, decide_eq_true_eq] at a2
          exact a2.1.1.1
        refine r_aload_n (i := 0) d_Need_cheapest_27 rfl rfl ?_
        refine r_getr nf_Need_76 lc_0 rfl d_Need_cheapest_28 ?_
        refine r_aload_n (i := 0) d_Need_cheapest_31 rfl rfl ?_
        refine r_getr nf_Need_28 lc_0 rfl d_Need_cheapest_32 ?_
        refine r_getr nf_Need_101 image_10.1 rfl d_Need_cheapest_35 ?_
        refine r_aload_n (i := 0) d_Need_cheapest_38 rfl rfl ?_
        refine r_getr nf_Need_28 lc_0 rfl d_Need_cheapest_39 ?_
        refine r_getr nf_Need_84 image_10.1 rfl d_Need_cheapest_42 ?_
        refine r_W2 v_Shares_weigh w_787 lc_129 (c_Shares_weigh (n := n) (z := z) (tp := tp) (ak := ak) (mc := mc) (l := shL n (M 17) tp ak) (V := V) h.1.2.1.1.1 h0 h.1.size (fun j hj => (h.1.1.2.2 j hj).2.1) (fun j hj => (h.1.1.2.2 j hj).2.2.2.2) (gh_ak h.1.2.1.1) h.1.2.2.1 h.1.2.1.2.1 shL_len hxs h.2.1 (fun S hS => sum_lt h.1.2.1.1.1 h.1.2.1.2.1 h0 (h.2.1 S hS)) h.2.2.1.1 h.2.2.1.2) (Nat.le_of_ble_eq_true rfl) (Nat.le_of_ble_eq_true rfl) d_Need_cheapest_45 (fun v N hv => ?_)
        obtain ⟨rfl, f1, f2, f3, f4, f5⟩ := hv
        have hsr : SR n (M 17) tp ak V N := ⟨⟨f2, fun c x hx => by rw [f1 131 (by decide) (by decide) (by decide) (by decide) (by decide), f1 133 (by decide) (by decide) (by decide) (by decide) (by decide)]; exact h.2.2.1.1.2 c x hx⟩, Or.inr ⟨f3, f4, f5⟩⟩
        have hke : ∀ e, e ≤ 128 → N e = M e := fun e he => f1 e (by omega) (by omega) (by omega) (by omega) (by omega)
        refine r_iload_n (i := 1) d_Need_cheapest_48 rfl rfl ?_
        refine r_if_ne 62 d_Need_cheapest_49 (by decide) (fun h_49 => ?_) (fun h_49 => ?_)
        · skip
          refine r_aload_n (i := 0) d_Need_cheapest_62 rfl rfl ?_
          refine r_getr nf_Need_76 lc_0 rfl d_Need_cheapest_63 ?_
          refine r_gx nf_Need_265 lc_129 rfl (f5) d_Need_cheapest_66 ?_
          refine r_iret rfl d_Need_cheapest_69 ?_
          first
            | exact ⟨by rw [chA, if_neg (by omega), hb, if_pos rfl, if_pos h_49], hke, hsr⟩
            | exact ⟨by rw [chA, if_neg (by omega), hb, if_pos rfl, if_neg h_49], hke, hsr⟩
        · skip
          refine r_aload_n (i := 0) d_Need_cheapest_52 rfl rfl ?_
          refine r_getr nf_Need_76 lc_0 rfl d_Need_cheapest_53 ?_
          refine r_gx nf_Need_262 lc_129 rfl (f4) d_Need_cheapest_56 ?_
          refine r_goto 69 d_Need_cheapest_59 (by decide) ?_
          refine r_iret rfl d_Need_cheapest_69 ?_
          first
            | exact ⟨by rw [chA, if_neg (by omega), hb, if_pos rfl, if_pos h_49], hke, hsr⟩
            | exact ⟨by rw [chA, if_neg (by omega), hb, if_pos rfl, if_neg h_49], hke, hsr⟩
      · skip
        have hb : isN 2 w = false := in1_f h_22
        refine r_iconst (-1) d_Need_cheapest_25 ic_m1 ?_
        refine r_iret rfl d_Need_cheapest_26 ?_
        exact ⟨by rw [chA, if_neg (by omega), hb, if_neg (by decide)], fun _ _ => rfl, h.2.2.1⟩
  · skip
    have hz : n = 0 := of_decide_eq_true ((bI_t _).mp h_10)
    refine r_bipush (-2) d_Need_cheapest_13 bp_m2 ?_
    refine r_iret rfl d_Need_cheapest_15 ?_
    exact ⟨by rw [chA, if_pos hz], fun _ _ => rfl, h.2.2.1⟩

end NN3
