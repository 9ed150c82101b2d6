-- the model: program, line, run, fewest
section MMa
variable {G : nw_G} {n : Nat} {le nu lf rt nm : Nat → Int32} {z nd ld ak mc : Nat → Nat} {tp : Nat → Bool} {C : Nat → Nat → Nat} {Q : nP} {M : nw_M}
def PO (n : Nat) (mc : Nat → Nat) (C W : Nat → Nat → Nat) (Q : nP) (a : Nat) (M N : nw_M) : Prop := (∀ e, e ≠ 0 → (e < 11 ∨ 17 < e) → N e = M e) ∧ (∀ j, j ≠ 24 → j ≠ 26 → j ≠ 28 → N 0 j = M 0 j) ∧ TB n mc C W N ∧ N 0 26 = nI (prg n Q a).length ∧ lsIn (N 16) (prg n Q a) ∧ N 0 28 = nI (prc n Q a)
theorem PO.mf {W : Nat → Nat → Nat} {a : Nat} {N : nw_M} (h : PO n mc C W Q a M N) : MF M N (M 0 12) (M 0 13) := ⟨h.1 1 (by decide) (by decide), h.1 3 (by decide) (by decide), h.1 5 (by decide) (by decide), h.1 6 (by decide) (by decide), h.1 7 (by decide) (by decide), h.2.1 2 (by decide) (by decide) (by decide), h.2.1 9 (by decide) (by decide) (by decide), h.2.1 12 (by decide) (by decide) (by decide), h.2.1 13 (by decide) (by decide) (by decide)⟩
set_option maxHeartbeats 1000000 in
theorem c_Model_programs (hS : MS n le nu lf rt nm mc (M 3)) (hg : GS n le nu lf rt z tp nd ld ak mc C Q) (h0 : 0 < n) {a : Nat} (ha1 : 1 ≤ a) (ha2 : a ≤ mc 0) : CJ G LM m_Model_programs 5 [.ref (G.2.2 0), .int (nI a)] M (fun v N => v = none ∧ PO n mc C (wy0 mc le lf rt z tp C) Q a M N) := by
  have hw := hg.1.1
  have hn := hw.1
  have h6 := hg.2.1.2.1
  refine CJ_of2 (n0 := 5) (by decide) rfl rfl ?_
  simp only [List.map_cons, List.map_nil, List.cons_append, List.nil_append, List.reduceReplicate]
  refine r_aload_n (i := 0) d_Model_programs_0 rfl rfl ?_
  refine r_W0 v_Model_reckonsAll w_1074 lm_0 (c_Model_reckonsAll hS hw (fun i hi => (hg.1.2 i hi).1) hg.2.1 hg.2.2.1) (Nat.le_of_ble_eq_true rfl) (Nat.le_of_ble_eq_true rfl) d_Model_programs_1 (fun v N1 hv => ?_)
  obtain ⟨rfl, h1, h2, h3⟩ := hv
  have hS2 : MS n le nu lf rt nm mc (N1 3) := by rw [h1 3 (by decide) (by decide) (by decide)]; exact hS
  refine r_aload_n (i := 0) d_Model_programs_4 rfl rfl ?_
  refine r_iconst 0 d_Model_programs_5 ic_0 ?_
  refine r_puti nf_Model_216 nfin_Model_24 lm_0 rfl d_Model_programs_6 ?_
  refine r_aload_n (i := 0) d_Model_programs_9 rfl rfl ?_
  refine r_iconst 0 d_Model_programs_10 ic_0 ?_
  refine r_puti nf_Model_222 nfin_Model_26 lm_0 rfl d_Model_programs_11 ?_
  refine r_aload_n (i := 0) d_Model_programs_14 rfl rfl ?_
  refine r_iconst 0 d_Model_programs_15 ic_0 ?_
  refine r_puti nf_Model_235 nfin_Model_28 lm_0 rfl d_Model_programs_16 ?_
  have hPG : PG (ms (ms (ms N1 0 (upd (N1 0) 24 0)) 0 (upd ((ms N1 0 (upd (N1 0) 24 0)) 0) 26 0)) 0 (upd ((ms (ms N1 0 (upd (N1 0) 24 0)) 0 (upd ((ms N1 0 (upd (N1 0) 24 0)) 0) 26 0)) 0) 28 0)) [] [] 0 (ms (ms (ms N1 0 (upd (N1 0) 24 0)) 0 (upd ((ms N1 0 (upd (N1 0) 24 0)) 0) 26 0)) 0 (upd ((ms (ms N1 0 (upd (N1 0) 24 0)) 0 (upd ((ms N1 0 (upd (N1 0) 24 0)) 0) 26 0)) 0) 28 0)) := ⟨fun _ _ _ _ _ => rfl, fun _ _ _ _ => rfl, rfl, trivial, rfl, fun j x hj => by simp at hj, rfl⟩
  have hB1 : ∀ e, e ≠ 0 → (ms (ms (ms N1 0 (upd (N1 0) 24 0)) 0 (upd ((ms N1 0 (upd (N1 0) 24 0)) 0) 26 0)) 0 (upd ((ms (ms N1 0 (upd (N1 0) 24 0)) 0 (upd ((ms N1 0 (upd (N1 0) 24 0)) 0) 26 0)) 0) 28 0)) e = N1 e := fun e he => by rw [ms_ne _ _ he, ms_ne _ _ he, ms_ne _ _ he]
  have hB2 : ∀ j, j ≠ 24 → j ≠ 26 → j ≠ 28 → (ms (ms (ms N1 0 (upd (N1 0) 24 0)) 0 (upd ((ms N1 0 (upd (N1 0) 24 0)) 0) 26 0)) 0 (upd ((ms (ms N1 0 (upd (N1 0) 24 0)) 0 (upd ((ms N1 0 (upd (N1 0) 24 0)) 0) 26 0)) 0) 28 0)) 0 j = N1 0 j := fun j a1 a2 a3 => by rw [ms_same, upd_ne _ _ a3, ms_same, upd_ne _ _ a2, ms_same, upd_ne _ _ a1]
  generalize (ms (ms (ms N1 0 (upd (N1 0) 24 0)) 0 (upd ((ms N1 0 (upd (N1 0) 24 0)) 0) 26 0)) 0 (upd ((ms (ms N1 0 (upd (N1 0) 24 0)) 0 (upd ((ms N1 0 (upd (N1 0) 24 0)) 0) 26 0)) 0) 28 0)) = B at *
  have hS2 : MS n le nu lf rt nm mc (B 3) := by rw [hB1 3 (by decide)]; exact hS2
  refine r_aload_n (i := 0) d_Model_programs_19 rfl rfl ?_
  refine r_iconst 0 d_Model_programs_20 ic_0 ?_
  refine r_aload_n (i := 0) d_Model_programs_21 rfl rfl ?_
  refine r_getr nf_Model_16 lm_0 rfl d_Model_programs_22 ?_
  refine r_iconst 0 d_Model_programs_25 ic_0 ?_
  refine r_ia (q := 0) lm_3 rfl (by omega) (by decide) (hS2.1) d_Model_programs_26 ?_
  refine r_iconst 1 d_Model_programs_27 ic_1 ?_
  refine r_isubN (a := n) (b := 1) d_Model_programs_28 rfl rfl (by omega) ?_
  refine r_iconst 0 d_Model_programs_29 ic_0 ?_
  refine r_iload_n (i := 1) d_Model_programs_30 rfl rfl ?_
  refine r_iconst 0 d_Model_programs_31 ic_0 ?_
  refine r_W5 v_Model_toDo w_1107 lm_0 (c_Model_toDo hPG (by decide) _ _ _ _ _) (Nat.le_of_ble_eq_true rfl) (Nat.le_of_ble_eq_true rfl) d_Model_programs_32 (fun v N4 hv => ?_)
  obtain ⟨rfl, hP4, e4⟩ := hv
  have zb := hw.zb (n - 1) (by omega)
  have hPS : PSm n le nu lf rt nm mc z (wy0 mc le lf rt z tp C) Q B := ⟨hS2, hw, by rw [hB1 11 (by decide)]; exact h2, h6, fun k i hk i1 i2 => by rw [hB1 13 (by decide)]; exact (h3 k hk i i1 i2).2, fun k i hk hr => wy_pair hw hk hr, fun k i hk hr => wy_zero hw hk hr, hg.2.2.2⟩
  refine hm_all hPS (n - 1) (by omega) 0 a 0 [] [] N4 ha1 ha2 (by simp only [List.length_nil]; omega) (by simp only [List.length_nil]; omega) hP4 (fun N5 h5 g5 => ?_) _ _ _ _ _
  refine st_end h5 ⟨rfl, fun e e0 e1 => ?_, fun j j1 j2 j3 => ?_, fun j hj i i1 i2 => ?_, h5.2.2.2.2.1, h5.2.2.2.2.2.1, h5.2.2.2.2.2.2⟩
  · rw [h5.1 e e0 (by omega) (by omega) (by omega), hB1 e e0, h1 e (by omega) (by omega) (by omega)]
  · rw [h5.2.1 j j1 j2 j3, hB2 j j1 j2 j3, h1 0 (by decide) (by decide) (by decide)]
  · rw [h5.1 12 (by decide) (by decide) (by decide) (by decide), h5.1 13 (by decide) (by decide) (by decide) (by decide), hB1 12 (by decide), hB1 13 (by decide)]
    exact h3 j hj i i1 i2

/-- whether a number of REGISTERS may be asked for -/
def isR (mc : Nat → Nat) (i : Int32) : Bool := decide (¬ i < 1 ∧ ¬ nI (mc 0) < i)
def prA (n : Nat) (mc : Nat → Nat) (C : Nat → Nat → Nat) (Q : nP) (i w : Int32) : Int32 := if n = 0 then -2 else if isR mc i && isN 3 w then (if w = 0 then nI (prg n Q i.toNatClampNeg).length else if w = 1 then nI (prc n Q i.toNatClampNeg) else nI (C (n - 1) i.toNatClampNeg)) else -1
theorem in2 (w : Int32) : decide (¬ w < 0 ∧ ¬ (2 : Int32) < w) = isN 3 w := in_isN (m := 2) w (by decide)
theorem in4 (w : Int32) : decide (¬ w < 0 ∧ ¬ (4 : Int32) < w) = isN 5 w := in_isN (m := 4) w (by decide)
theorem n0_of {n : Nat} (hn : n ≤ 31) (h : nI n = 0) : n = 0 := (nI_eq (by omega) (by omega)).mp (show nI n = nI 0 from h)
theorem c_Model_program (hS : MS n le nu lf rt nm mc (M 3)) (hg : GS n le nu lf rt z tp nd ld ak mc C Q) (i w : Int32) : CJ G LM m_Model_program 6 [.ref (G.2.2 0), .int i, .int w] M (fun v N => v = some (.int (prA n mc C Q i w)) ∧ MF M N (M 0 12) (M 0 13)) := by
  have hw := hg.1.1
  have hn := hw.1
  have h6 := hg.2.1.2.1
  refine CJ_of2 (n0 := 0) (by decide) rfl rfl ?_
  simp only [List.map_cons, List.map_nil, List.cons_append, List.nil_append, List.reduceReplicate]
  refine r_aload_n (i := 0) d_Model_program_0 rfl rfl ?_
  refine r_iconst 0 d_Model_program_1 ic_0 ?_
  refine r_puti nf_Model_75 nfin_Model_0 lm_0 rfl d_Model_program_2 ?_
  refine r_aload_n (i := 0) d_Model_program_5 rfl rfl ?_
  refine r_getr nf_Model_16 lm_0 rfl d_Model_program_6 ?_
  refine r_iconst 0 d_Model_program_9 ic_0 ?_
  refine r_ia (q := 0) lm_3 rfl (by omega) (by decide) (hS.1) d_Model_program_10 ?_
  refine r_if_ne 17 d_Model_program_11 (by decide) (fun h_11 => ?_) (fun h_11 => ?_)
  · skip
    have h0 : 0 < n := Nat.pos_of_ne_zero (fun q => h_11 (by rw [q]; rfl))
    have hne : n ≠ 0 := by omega
    refine r_aload_n (i := 0) d_Model_program_17 rfl rfl ?_
    refine r_iload_n (i := 1) d_Model_program_18 rfl rfl ?_
    refine r_V1 v_Model_isRegisters w_1070 lm_0 (c_Model_isRegisters (M := m0 M) (mc := mc) hS i) (Nat.le_of_ble_eq_true rfl) (Nat.le_of_ble_eq_true rfl) d_Model_program_19 ?_
    refine r_if_eq 34 d_Model_program_22 (by decide) (fun h_22 => ?_) (fun h_22 => ?_)
    · skip
      refine r_iconst (-1) d_Model_program_34 ic_m1 ?_
      refine r_iret rfl d_Model_program_35 ?_
      first
        | (have r1 : isR mc i = false := (bI_f _).mp h_22
           exact ⟨by rw [prA, if_neg hne, r1]; rfl, MF.th M⟩)
        | (have r2 := (bI_f _).mp h_31
           rw [in2] at r2
           exact ⟨by rw [prA, if_neg hne, r2, Bool.and_false]; rfl, MF.th M⟩)
    · skip
      refine r_iload_n (i := 2) d_Model_program_25 rfl rfl ?_
      refine r_iconst 0 d_Model_program_26 ic_0 ?_
      refine r_iconst 2 d_Model_program_27 ic_2 ?_
      refine r_S3 f_Model_in w_942 (c_Model_in _ _ _ _ ) (Nat.le_of_ble_eq_true rfl) (Nat.le_of_ble_eq_true rfl) d_Model_program_28 ?_
      refine r_if_ne 36 d_Model_program_31 (by decide) (fun h_31 => ?_) (fun h_31 => ?_)
      · skip
        have r1 : isR mc i = true := (bI_t _).mp h_22
        have r2 := (bI_t _).mp h_31
        rw [in2] at r2
        obtain ⟨a, ha1, ha2, rfl⟩ := isR_ex (by omega) r1
        refine r_aload_n (i := 0) d_Model_program_36 rfl rfl ?_
        refine r_iload_n (i := 1) d_Model_program_37 rfl rfl ?_
        refine r_W1 v_Model_programs w_1103 lm_0 (c_Model_programs (M := m0 M) hS hg h0 ha1 ha2) (Nat.le_of_ble_eq_true rfl) (Nat.le_of_ble_eq_true rfl) d_Model_program_38 (fun v N hv => ?_)
        obtain ⟨rfl, hv⟩ := hv
        have hSx : MS n le nu lf rt nm mc (N 3) := by rw [hv.1 3 (by decide) (by decide)]; exact hS
        refine r_iload_n (i := 2) d_Model_program_41 rfl rfl ?_
        refine r_if_ne 52 d_Model_program_42 (by decide) (fun h_42 => ?_) (fun h_42 => ?_)
        · skip
          refine r_iload_n (i := 2) d_Model_program_52 rfl rfl ?_
          refine r_iconst 1 d_Model_program_53 ic_1 ?_
          refine r_icmp_ne 64 d_Model_program_54 (by decide) (fun h_54 => ?_) (fun h_54 => ?_)
          · skip
            refine r_aload_n (i := 0) d_Model_program_64 rfl rfl ?_
            refine r_aload_n (i := 0) d_Model_program_65 rfl rfl ?_
            refine r_getr nf_Model_16 lm_0 rfl d_Model_program_66 ?_
            refine r_iconst 0 d_Model_program_69 ic_0 ?_
            refine r_ia (q := 0) lm_3 rfl (by omega) (by decide) (hSx.1) d_Model_program_70 ?_
            refine r_iconst 1 d_Model_program_71 ic_1 ?_
            refine r_isubN (a := n) (b := 1) d_Model_program_72 rfl rfl (by omega) ?_
            refine r_iload_n (i := 1) d_Model_program_73 rfl rfl ?_
            refine r_V2 v_Model_costAt w_1083 lm_0 (c_Model_costAt (by omega) (hv.2.2.1 (n - 1) (by omega) a ha1 ha2).1) (Nat.le_of_ble_eq_true rfl) (Nat.le_of_ble_eq_true rfl) d_Model_program_74 ?_
            refine r_iret rfl d_Model_program_77 ?_
            refine ⟨?_, (MF.th M).tr hv.mf⟩
            rw [prA, if_neg hne, r1, r2, nI_clamp (by omega)]
            first
              | (have q : w = 0 := h_42
                 rw [q]; exact congrArg (fun x => some (Value.int x)) hv.2.2.2.1)
              | (have q : w = 1 := h_54
                 rw [q]; exact congrArg (fun x => some (Value.int x)) hv.2.2.2.2.2)
              | (show some (Value.int (nI (C (n - 1) a))) = some (Value.int (if w = 0 then _ else if w = 1 then _ else nI (C (n - 1) a)))
                 rw [if_neg h_42, if_neg h_54])
          · skip
            refine r_aload_n (i := 0) d_Model_program_57 rfl rfl ?_
            refine r_geti nf_Model_235 lm_0 rfl d_Model_program_58 ?_
            refine r_goto 77 d_Model_program_61 (by decide) ?_
            refine r_iret rfl d_Model_program_77 ?_
            refine ⟨?_, (MF.th M).tr hv.mf⟩
            rw [prA, if_neg hne, r1, r2, nI_clamp (by omega)]
            first
              | (have q : w = 0 := h_42
                 rw [q]; exact congrArg (fun x => some (Value.int x)) hv.2.2.2.1)
              | (have q : w = 1 := h_54
                 rw [q]; exact congrArg (fun x => some (Value.int x)) hv.2.2.2.2.2)
              | (show some (Value.int (nI (C (n - 1) a))) = some (Value.int (if w = 0 then _ else if w = 1 then _ else nI (C (n - 1) a)))
                 rw [if_neg h_42, if_neg h_54])
        · skip
          refine r_aload_n (i := 0) d_Model_program_45 rfl rfl ?_
          refine r_geti nf_Model_222 lm_0 rfl d_Model_program_46 ?_
          refine r_goto 77 d_Model_program_49 (by decide) ?_
          refine r_iret rfl d_Model_program_77 ?_
          refine ⟨?_, (MF.th M).tr hv.mf⟩
          rw [prA, if_neg hne, r1, r2, nI_clamp (by omega)]
          first
            | (have q : w = 0 := h_42
               rw [q]; exact congrArg (fun x => some (Value.int x)) hv.2.2.2.1)
            | (have q : w = 1 := h_54
               rw [q]; exact congrArg (fun x => some (Value.int x)) hv.2.2.2.2.2)
            | (show some (Value.int (nI (C (n - 1) a))) = some (Value.int (if w = 0 then _ else if w = 1 then _ else nI (C (n - 1) a)))
               rw [if_neg h_42, if_neg h_54])
      · skip
        refine r_iconst (-1) d_Model_program_34 ic_m1 ?_
        refine r_iret rfl d_Model_program_35 ?_
        first
          | (have r1 : isR mc i = false := (bI_f _).mp h_22
             exact ⟨by rw [prA, if_neg hne, r1]; rfl, MF.th M⟩)
          | (have r2 := (bI_f _).mp h_31
             rw [in2] at r2
             exact ⟨by rw [prA, if_neg hne, r2, Bool.and_false]; rfl, MF.th M⟩)
  · skip
    refine r_bipush (-2) d_Model_program_14 bp_m2 ?_
    refine r_iret rfl d_Model_program_16 ?_
    have n0 : n = 0 := n0_of hn h_11
    exact ⟨by rw [prA, if_pos n0], MF.th M⟩

def lnP (x : Ln) (w : Int32) : Int32 := if w = 0 then x.1 else if w = 1 then x.2.1 else if w = 2 then x.2.2.1 else if w = 3 then x.2.2.2.1 else x.2.2.2.2
def lnA (n : Nat) (mc : Nat → Nat) (Q : nP) (j w : Int32) : Int32 := if n = 0 then -2 else if isN (prg n Q (mc 0)).length j && isN 5 w then lnP ((prg n Q (mc 0))[j.toNatClampNeg]?.getD (0, 0, 0, 0, 0)) w else -1
theorem isN_m1b {m : Nat} {k : Int32} (hm : m < 2 ^ 30) : decide (¬ k < 0 ∧ ¬ nI m - 1 < k) = isN m k := by
  unfold isN
  congr 1
  have e : (nI m - 1).toInt = (m : Int) - 1 := by
    rw [show (1 : Int32) = nI 1 from rfl, pk_sub_toInt (by omega) (by omega)]; rfl
  have e2 := nI_toInt (n := m) (by omega)
  simp only [Int32.lt_iff_toInt_lt, Int32.le_iff_toInt_le, e, e2]
  apply propext
  constructor
  · rintro ⟨a, b⟩; exact ⟨a, by omega⟩
  · rintro ⟨a, b⟩; exact ⟨a, by omega⟩
theorem lsIn_at {f : Nat → Int32} {ls : List Ln} (h : lsIn f ls) {j w : Nat} (hj : j < ls.length) (hw : w < 5) : f (5 * j + w) = lnP (ls[j]?.getD (0, 0, 0, 0, 0)) (nI w) := by
  obtain ⟨x, hx⟩ : ∃ x, ls[j]? = some x := ⟨_, List.getElem?_eq_getElem hj⟩
  have := h j x hx
  rw [hx, Option.getD_some]
  have q : w = 0 ∨ w = 1 ∨ w = 2 ∨ w = 3 ∨ w = 4 := by omega
  rcases q with rfl | rfl | rfl | rfl | rfl
  · exact this.1
  · exact this.2.1
  · exact this.2.2.1
  · exact this.2.2.2.1
  · exact this.2.2.2.2
theorem c_Model_line (hS : MS n le nu lf rt nm mc (M 3)) (hg : GS n le nu lf rt z tp nd ld ak mc C Q) (j w : Int32) : CJ G LM m_Model_line 6 [.ref (G.2.2 0), .int j, .int w] M (fun v N => v = some (.int (lnA n mc Q j w)) ∧ MF M N (M 0 12) (M 0 13)) := by
  have hw := hg.1.1
  have hn := hw.1
  have h6 := hg.2.1.2.1
  refine CJ_of2 (n0 := 0) (by decide) rfl rfl ?_
  simp only [List.map_cons, List.map_nil, List.cons_append, List.nil_append, List.reduceReplicate]
  refine r_aload_n (i := 0) d_Model_line_0 rfl rfl ?_
  refine r_iconst 0 d_Model_line_1 ic_0 ?_
  refine r_puti nf_Model_75 nfin_Model_0 lm_0 rfl d_Model_line_2 ?_
  refine r_aload_n (i := 0) d_Model_line_5 rfl rfl ?_
  refine r_getr nf_Model_16 lm_0 rfl d_Model_line_6 ?_
  refine r_iconst 0 d_Model_line_9 ic_0 ?_
  refine r_ia (q := 0) lm_3 rfl (by omega) (by decide) (hS.1) d_Model_line_10 ?_
  refine r_if_ne 17 d_Model_line_11 (by decide) (fun h_11 => ?_) (fun h_11 => ?_)
  · skip
    have h0 : 0 < n := Nat.pos_of_ne_zero (fun q => h_11 (by rw [q]; rfl))
    have hne : n ≠ 0 := by omega
    refine r_aload_n (i := 0) d_Model_line_17 rfl rfl ?_
    refine r_aload_n (i := 0) d_Model_line_18 rfl rfl ?_
    refine r_getr nf_Model_16 lm_0 rfl d_Model_line_19 ?_
    refine r_sipush 133 d_Model_line_22 sp_133 ?_
    refine r_ia (q := 133) lm_3 rfl (by omega) (by decide) ((hS.gmc (j := 0) (by omega))) d_Model_line_25 ?_
    refine r_W1 v_Model_programs w_1103 lm_0 (c_Model_programs (M := m0 M) hS hg h0 hg.2.1.1 (Nat.le_refl _)) (Nat.le_of_ble_eq_true rfl) (Nat.le_of_ble_eq_true rfl) d_Model_line_26 (fun v N hv => ?_)
    obtain ⟨rfl, hv⟩ := hv
    have hSx : MS n le nu lf rt nm mc (N 3) := by rw [hv.1 3 (by decide) (by decide)]; exact hS
    have pk := prg_ok hg h0 hg.2.1.1 (Nat.le_refl _)
    refine r_iload_n (i := 1) d_Model_line_29 rfl rfl ?_
    refine r_iconst 0 d_Model_line_30 ic_0 ?_
    refine r_aload_n (i := 0) d_Model_line_31 rfl rfl ?_
    refine r_gx nf_Model_222 lm_0 rfl (hv.2.2.2.1) d_Model_line_32 ?_
    refine r_iconst 1 d_Model_line_35 ic_1 ?_
    refine r_isub d_Model_line_36 ?_
    refine r_S3 f_Model_in w_942 (c_Model_in _ _ _ _ ) (Nat.le_of_ble_eq_true rfl) (Nat.le_of_ble_eq_true rfl) d_Model_line_37 ?_
    rw [isN_m1b (by omega)]
    refine r_if_eq 65 d_Model_line_40 (by decide) (fun h_40 => ?_) (fun h_40 => ?_)
    · skip
      refine r_iconst (-1) d_Model_line_65 ic_m1 ?_
      refine r_iret rfl d_Model_line_66 ?_
      first
        | (refine ⟨?_, (MF.th M).tr hv.mf⟩
           rw [lnA, if_neg hne, r1, r2, nI_clamp (by omega)]; rfl)
        | (have r2 := (bI_f _).mp h_49
           rw [in4] at r2
           exact ⟨by rw [lnA, if_neg hne, r2, Bool.and_false]; rfl, (MF.th M).tr hv.mf⟩)
        | (have r1 := (bI_f _).mp h_40
           exact ⟨by rw [lnA, if_neg hne, r1]; rfl, (MF.th M).tr hv.mf⟩)
    · skip
      refine r_iload_n (i := 2) d_Model_line_43 rfl rfl ?_
      refine r_iconst 0 d_Model_line_44 ic_0 ?_
      refine r_iconst 4 d_Model_line_45 ic_4 ?_
      refine r_S3 f_Model_in w_942 (c_Model_in _ _ _ _ ) (Nat.le_of_ble_eq_true rfl) (Nat.le_of_ble_eq_true rfl) d_Model_line_46 ?_
      refine r_if_eq 65 d_Model_line_49 (by decide) (fun h_49 => ?_) (fun h_49 => ?_)
      · skip
        refine r_iconst (-1) d_Model_line_65 ic_m1 ?_
        refine r_iret rfl d_Model_line_66 ?_
        first
          | (refine ⟨?_, (MF.th M).tr hv.mf⟩
             rw [lnA, if_neg hne, r1, r2, nI_clamp (by omega)]; rfl)
          | (have r2 := (bI_f _).mp h_49
             rw [in4] at r2
             exact ⟨by rw [lnA, if_neg hne, r2, Bool.and_false]; rfl, (MF.th M).tr hv.mf⟩)
          | (have r1 := (bI_f _).mp h_40
             exact ⟨by rw [lnA, if_neg hne, r1]; rfl, (MF.th M).tr hv.mf⟩)
      · skip
        have r1 := (bI_t _).mp h_40
        have r2 := (bI_t _).mp h_49
        rw [in4] at r2
        obtain ⟨jj, hjj, rfl⟩ := isN_ex r1 (by omega)
        obtain ⟨ww, hww, rfl⟩ := isN_ex r2 (by omega)
        refine r_aload_n (i := 0) d_Model_line_52 rfl rfl ?_
        refine r_getr nf_Model_56 lm_0 rfl d_Model_line_53 ?_
        refine r_iconst 5 d_Model_line_56 ic_5 ?_
        refine r_iload_n (i := 1) d_Model_line_57 rfl rfl ?_
        refine r_imulN (a := 5) (b := jj) d_Model_line_58 rfl rfl ?_
        refine r_iload_n (i := 2) d_Model_line_59 rfl rfl ?_
        refine r_iaddN (a := (5 * jj)) (b := ww) d_Model_line_60 rfl rfl ?_
        refine r_ia (q := ((5 * jj) + ww)) lm_16 rfl (by omega) (by decide) (lsIn_at hv.2.2.2.2.1 (by omega) (by omega)) d_Model_line_61 ?_
        refine r_goto 66 d_Model_line_62 (by decide) ?_
        refine r_iret rfl d_Model_line_66 ?_
        first
          | (refine ⟨?_, (MF.th M).tr hv.mf⟩
             rw [lnA, if_neg hne, r1, r2, nI_clamp (by omega)]; rfl)
          | (have r2 := (bI_f _).mp h_49
             rw [in4] at r2
             exact ⟨by rw [lnA, if_neg hne, r2, Bool.and_false]; rfl, (MF.th M).tr hv.mf⟩)
          | (have r1 := (bI_f _).mp h_40
             exact ⟨by rw [lnA, if_neg hne, r1]; rfl, (MF.th M).tr hv.mf⟩)
  · skip
    refine r_bipush (-2) d_Model_line_14 bp_m2 ?_
    refine r_iret rfl d_Model_line_16 ?_
    have n0 : n = 0 := n0_of hn h_11
    exact ⟨by rw [lnA, if_pos n0], MF.th M⟩

/-- the fewest REGISTERS that need no cell, from i on -/
def fwF (n : Nat) (Q : nP) : Nat → Nat → Int32
  | 0, _ => -9
  | d + 1, i => if prc n Q i = 0 then nI i else fwF n Q d (i + 1)
def fwA (n : Nat) (mc : Nat → Nat) (Q : nP) : Int32 := if n = 0 then -2 else fwF n Q (mc 0) 1
theorem l_Model_fewest (hS : MS n le nu lf rt nm mc (M 3)) (hg : GS n le nu lf rt z tp nd ld ak mc C Q) (h0 : 0 < n) {P : Option Value → nw_M → Prop} {r : Int32} (hP : ∀ N, MF M N (M 0 12) (M 0 13) → P (some (.int r)) N) : ∀ (d i : Nat) (N : nw_M), 1 ≤ i → i + d = mc 0 + 1 → fwF n Q d i = r → MF M N (M 0 12) (M 0 13) → RJ G LM m_Model_fewest 6 P 19 [some (.ref (G.2.2 0)), some (.int (nI i))] [] N := by
  have hw := hg.1.1
  have hn := hw.1
  have h6 := hg.2.1.2.1
  intro d
  induction d with
  | zero =>
    intro i N hi1 hd hr hF
    have hSx : MS n le nu lf rt nm mc (N 3) := by rw [hF.2.1]; exact hS
    simp only [Nat.add_zero] at hd
    subst hd
    refine r_iload_n (i := 1) d_Model_fewest_19 rfl rfl ?_
    refine r_aload_n (i := 0) d_Model_fewest_20 rfl rfl ?_
    refine r_getr nf_Model_16 lm_0 rfl d_Model_fewest_21 ?_
    refine r_sipush 133 d_Model_fewest_24 sp_133 ?_
    refine r_ia (q := 133) lm_3 rfl (by omega) (by decide) (hSx.gmc (j := 0) (by omega)) d_Model_fewest_27 ?_
    refine r_icmp_gt 51 d_Model_fewest_28 (by decide) (fun _ => ?_) (fun h9 => absurd (nI_lt (by omega) (by omega)) h9)
    refine r_bipush (-9) d_Model_fewest_51 bp_m9 ?_
    refine r_iret rfl d_Model_fewest_53 ?_
    subst hr
    exact hP N hF
  | succ d ih =>
    intro i N hi1 hd hr hF
    have hSx : MS n le nu lf rt nm mc (N 3) := by rw [hF.2.1]; exact hS
    refine r_iload_n (i := 1) d_Model_fewest_19 rfl rfl ?_
    refine r_aload_n (i := 0) d_Model_fewest_20 rfl rfl ?_
    refine r_getr nf_Model_16 lm_0 rfl d_Model_fewest_21 ?_
    refine r_sipush 133 d_Model_fewest_24 sp_133 ?_
    refine r_ia (q := 133) lm_3 rfl (by omega) (by decide) ((hSx.gmc (j := 0) (by omega))) d_Model_fewest_27 ?_
    refine r_icmp_gt 51 d_Model_fewest_28 (by decide) (fun h_28 => ?_) (fun h_28 => ?_)
    · skip
      exact absurd h_28 (Int32.not_lt.mpr (nI_le (by omega) (by omega)))
    · skip
      refine r_aload_n (i := 0) d_Model_fewest_31 rfl rfl ?_
      refine r_iload_n (i := 1) d_Model_fewest_32 rfl rfl ?_
      refine r_W1 v_Model_programs w_1103 lm_0 (c_Model_programs hSx hg h0 hi1 (show i ≤ mc 0 by omega)) (Nat.le_of_ble_eq_true rfl) (Nat.le_of_ble_eq_true rfl) d_Model_fewest_33 (fun v N2 hv => ?_)
      obtain ⟨rfl, hv⟩ := hv
      have hc := hv.2.2.2.2.2
      have pc := (prg_ok hg h0 hi1 (show i ≤ mc 0 by omega)).2.2
      have hm2 := hF.tr hv.mf
      rw [hF.2.2.2.2.2.2.2.1, hF.2.2.2.2.2.2.2.2] at hm2
      refine r_aload_n (i := 0) d_Model_fewest_36 rfl rfl ?_
      refine r_gx nf_Model_235 lm_0 rfl (hc) d_Model_fewest_37 ?_
      refine r_if_ne 45 d_Model_fewest_40 (by decide) (fun h_40 => ?_) (fun h_40 => ?_)
      · skip
        refine r_iinc d_Model_fewest_45 rfl (nI_inc _) (Nat.le_of_ble_eq_true rfl) rfl ?_
        dsimp only [List.set]
        refine r_goto 19 d_Model_fewest_48 (by decide) ?_
        rw [fwF, if_neg (fun q => h_40 (by rw [q]; rfl))] at hr
        exact ih (i + 1) N2 (by omega) (by omega) hr hm2
      · skip
        refine r_iload_n (i := 1) d_Model_fewest_43 rfl rfl ?_
        refine r_iret rfl d_Model_fewest_44 ?_
        have q : prc n Q i = 0 := (nI_eq (by omega) (by omega)).mp (show nI (prc n Q i) = nI 0 from h_40)
        rw [fwF, if_pos q] at hr
        rw [hr]
        exact hP N2 hm2

theorem c_Model_fewest (hS : MS n le nu lf rt nm mc (M 3)) (hg : GS n le nu lf rt z tp nd ld ak mc C Q) : CJ G LM m_Model_fewest 6 [.ref (G.2.2 0)] M (fun v N => v = some (.int (fwA n mc Q)) ∧ MF M N (M 0 12) (M 0 13)) := by
  have hw := hg.1.1
  have hn := hw.1
  have h6 := hg.2.1.2.1
  refine CJ_of2 (n0 := 1) (by decide) rfl rfl ?_
  simp only [List.map_cons, List.map_nil, List.cons_append, List.nil_append, List.reduceReplicate]
  refine r_aload_n (i := 0) d_Model_fewest_0 rfl rfl ?_
  refine r_iconst 0 d_Model_fewest_1 ic_0 ?_
  refine r_puti nf_Model_75 nfin_Model_0 lm_0 rfl d_Model_fewest_2 ?_
  refine r_aload_n (i := 0) d_Model_fewest_5 rfl rfl ?_
  refine r_getr nf_Model_16 lm_0 rfl d_Model_fewest_6 ?_
  refine r_iconst 0 d_Model_fewest_9 ic_0 ?_
  refine r_ia (q := 0) lm_3 rfl (by omega) (by decide) (hS.1) d_Model_fewest_10 ?_
  refine r_if_ne 17 d_Model_fewest_11 (by decide) (fun h_11 => ?_) (fun h_11 => ?_)
  · skip
    refine r_iconst 1 d_Model_fewest_17 ic_1 ?_
    refine r_istore_n (i := 1) d_Model_fewest_18 rfl (Nat.le_of_ble_eq_true rfl) rfl ?_
    dsimp only [List.set]
    have h0 : 0 < n := Nat.pos_of_ne_zero (fun q => h_11 (by rw [q]; rfl))
    exact l_Model_fewest (M := m0 M) hS hg h0 (fun N hF => ⟨rfl, (MF.th M).tr hF⟩) (mc 0) 1 _ (by omega) (by omega) (by rw [fwA, if_neg (by omega)]) (MF.rf _)
  · skip
    refine r_bipush (-2) d_Model_fewest_14 bp_m2 ?_
    refine r_iret rfl d_Model_fewest_16 ?_
    have n0 : n = 0 := n0_of hn h_11
    exact ⟨by rw [fwA, if_pos n0], MF.th M⟩

theorem c_Model_from {N : nw_M} (hS : MS n le nu lf rt nm mc (N 3)) {cells : Nat → Int32} (hc : ∀ c, c < 31 → N 19 c = cells c) {t f : Int32} (hs : sOK t f) : CF G LM m_Model_from 0 [.ref (G.2.2 0), .int t, .int f] N (some (.int (rsrc nm cells t f))) N := by
  refine CJ_of (by decide) rfl (Nat.le_of_ble_eq_true rfl) ?_
  refine r_iload_n (i := 1) d_Model_from_0 rfl rfl ?_
  refine r_if_ne 8 d_Model_from_1 (by decide) (fun h_1 => ?_) (fun h_1 => ?_)
  · skip
    refine r_iload_n (i := 1) d_Model_from_8 rfl rfl ?_
    refine r_iconst 1 d_Model_from_9 ic_1 ?_
    refine r_icmp_ne 25 d_Model_from_10 (by decide) (fun h_10 => ?_) (fun h_10 => ?_)
    · skip
      obtain ⟨q, hq, rfl⟩ : ∃ c, c < 31 ∧ f = nI c := by
        rcases hs with h | h | h
        · exact absurd h h_1
        · exact absurd h.1 h_10
        · exact h.2
      refine r_aload_n (i := 0) d_Model_from_25 rfl rfl ?_
      refine r_getr nf_Model_65 lm_0 rfl d_Model_from_26 ?_
      refine r_iload_n (i := 2) d_Model_from_29 rfl rfl ?_
      refine r_ia (q := q) lm_19 rfl (by omega) (by decide) (hc q hq) d_Model_from_30 ?_
      refine r_iret rfl d_Model_from_31 ?_
      refine ⟨?_, rfl⟩
      unfold rsrc
      first
        | (rw [if_pos h_1])
        | (rw [if_neg h_1, if_pos h_10, nI_clamp (by omega)])
        | (rw [if_neg h_1, if_neg h_10, nI_clamp (by omega)])
    · skip
      obtain ⟨q, hq, rfl⟩ : ∃ c, c < 8 ∧ f = nI c := by
        rcases hs with h | h | h
        · exact absurd h h_1
        · exact h.2
        · rw [h.1] at h_10; exact absurd h_10 (by decide)
      refine r_aload_n (i := 0) d_Model_from_13 rfl rfl ?_
      refine r_getr nf_Model_16 lm_0 rfl d_Model_from_14 ?_
      refine r_bipush 125 d_Model_from_17 bp_125 ?_
      refine r_iload_n (i := 2) d_Model_from_19 rfl rfl ?_
      refine r_iaddN (a := 125) (b := q) d_Model_from_20 rfl rfl ?_
      refine r_ia (q := (125 + q)) lm_3 rfl (by omega) (by decide) ((hS.gnm (j := q) (by omega))) d_Model_from_21 ?_
      refine r_goto 31 d_Model_from_22 (by decide) ?_
      refine r_iret rfl d_Model_from_31 ?_
      refine ⟨?_, rfl⟩
      unfold rsrc
      first
        | (rw [if_pos h_1])
        | (rw [if_neg h_1, if_pos h_10, nI_clamp (by omega)])
        | (rw [if_neg h_1, if_neg h_10, nI_clamp (by omega)])
  · skip
    refine r_iload_n (i := 2) d_Model_from_4 rfl rfl ?_
    refine r_goto 31 d_Model_from_5 (by decide) ?_
    refine r_iret rfl d_Model_from_31 ?_
    refine ⟨?_, rfl⟩
    unfold rsrc
    first
      | (rw [if_pos h_1])
      | (rw [if_neg h_1, if_pos h_10, nI_clamp (by omega)])
      | (rw [if_neg h_1, if_neg h_10, nI_clamp (by omega)])

end MMa
