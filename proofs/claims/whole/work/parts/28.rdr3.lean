-- Reader: parts, operators
/-- a memory holds a state of the reading -/
def RM (a : AS) (M : nw_M) : Prop := RP a.2.2.1 a.2.2.2.1 a.2.2.2.2 M ∧ M 3 5 = nI a.1 ∧ M 3 6 = -9 ∧ M 3 7 = bI a.2.1 ∧ M 3 8 = 0
/-- what a step leaves -/
def RO (r : Nat ⊕ (AT ⊕ AS)) (len : Nat) (N : nw_M) : Prop := match r with
  | .inl f => N 3 6 = nI f ∧ f ≤ len
  | .inr (.inl T) => N 3 6 = -9 ∧ N 3 8 = 1 ∧ TR 82 T N
  | .inr (.inr b) => RM b N
section MRdr3
variable {G : nw_G}
theorem c_Reader_pile (c : Int32) {p : Nat} {mk : MK} {pr : List Nat} {T : AT} {M : nw_M} (hP : RP mk pr T M) (h5 : M 3 5 = nI p) (hl : mk.length < 60) : CJ G LC m_Reader_pile 1 [.ref (G.2.2 3), .int c] M (fun v N => v = none ∧ RF M N ∧ N 3 6 = M 3 6 ∧ N 3 7 = M 3 7 ∧ N 3 8 = M 3 8 ∧ N 3 5 = nI (p + 1) ∧ RP ((c, p) :: mk) pr T N) := by
  refine CJ_of (by decide) rfl (Nat.le_of_ble_eq_true rfl) ?_
  refine r_aload_n (i := 0) d_Reader_pile_0 rfl rfl ?_
  refine r_getr nf_Reader_14 lc_3 rfl d_Reader_pile_1 ?_
  refine r_aload_n (i := 0) d_Reader_pile_4 rfl rfl ?_
  refine r_geti nf_Reader_26 lc_3 rfl d_Reader_pile_5 ?_
  refine r_iload_n (i := 1) d_Reader_pile_8 rfl rfl ?_
  refine r_V2 v_Row_put w_389 row_4.1 (c_Row_put row_4 _ _ _ ) (Nat.le_of_ble_eq_true rfl) (Nat.le_of_ble_eq_true rfl) d_Reader_pile_9 ?_
  refine r_aload_n (i := 0) d_Reader_pile_12 rfl rfl ?_
  refine r_getr nf_Reader_20 lc_3 rfl d_Reader_pile_13 ?_
  refine r_aload_n (i := 0) d_Reader_pile_16 rfl rfl ?_
  refine r_geti nf_Reader_26 lc_3 rfl d_Reader_pile_17 ?_
  refine r_aload_n (i := 0) d_Reader_pile_20 rfl rfl ?_
  refine r_geti nf_Reader_33 lc_3 rfl d_Reader_pile_21 ?_
  refine r_V2 v_Row_put w_389 row_6.1 (c_Row_put row_6 _ _ _ ) (Nat.le_of_ble_eq_true rfl) (Nat.le_of_ble_eq_true rfl) d_Reader_pile_24 ?_
  refine r_aload_n (i := 0) d_Reader_pile_27 rfl rfl ?_
  refine r_dup d_Reader_pile_28 rfl ?_
  refine r_geti nf_Reader_26 lc_3 rfl d_Reader_pile_29 ?_
  refine r_iconst 1 d_Reader_pile_32 ic_1 ?_
  refine r_iadd d_Reader_pile_33 ?_
  refine r_puti nf_Reader_26 nfin_Reader_3 lc_3 rfl d_Reader_pile_34 ?_
  refine r_aload_n (i := 0) d_Reader_pile_37 rfl rfl ?_
  refine r_dup d_Reader_pile_38 rfl ?_
  refine r_geti nf_Reader_33 lc_3 rfl d_Reader_pile_39 ?_
  refine r_iconst 1 d_Reader_pile_42 ic_1 ?_
  refine r_iadd d_Reader_pile_43 ?_
  refine r_puti nf_Reader_33 nfin_Reader_5 lc_3 rfl d_Reader_pile_44 ?_
  refine r_vret rfl d_Reader_pile_47 ?_
  obtain ⟨a1, a2, a3, a4, a5, a6, a7⟩ := hP
  simp (disch := omega) only [ms_same, ms_ne, upd_ne, upd_at, a1, h5, rp_nI, nI_1]
  refine ⟨trivial, fun e e1 e2 e3 e4 e5 e6 e7 e8 e9 => by simp (disch := omega) only [ms_ne], ?_, ?_, ?_, ?_, ?_, ?_, ?_, ?_, ?_, ?_, fun j hj => ?_⟩
  · simp (disch := omega) only [ms_same, ms_ne, upd_ne]
  · simp (disch := omega) only [ms_same, ms_ne, upd_ne]
  · simp (disch := omega) only [ms_same, ms_ne, upd_ne]
  · simp (disch := omega) only [ms_same, ms_ne, upd_at]
  · simp (disch := omega) only [ms_same, ms_ne, upd_ne, upd_at, List.length_cons]
  · simp (disch := omega) only [ms_same, ms_ne, upd_ne]; exact a2
  · simp (disch := omega) only [ms_same, ms_ne]
    have := stk_push (x := c) a3
    rw [List.length_map] at this
    exact this
  · simp (disch := omega) only [ms_same, ms_ne]
    have := stk_push (x := nI p) a4
    rw [List.length_map] at this
    exact this
  · simp (disch := omega) only [ms_ne]; exact a5
  · simp (disch := omega) only [ms_ne]; exact a6
  · simp (disch := omega) only [ms_ne]; exact a7 j hj

theorem l_Reader_digitsHere {len p : Nat} {M : nw_M} (hlen : len ≤ 60) (h5 : M 3 5 = nI p) {P : Option Value → nw_M → Prop} (hP : P (some (.int (nI (dgs (M 2) p (len - p))))) M) : ∀ (f j : Nat), f = len - (p + j) → dgs (M 2) p (len - p) = j + dgs (M 2) (p + j) f → p + j ≤ len ∨ j = 0 → p ≤ 60 → RJ G LC m_Reader_digitsHere 1 P 2 [some (.ref (G.2.2 3)), some (.ref (G.2.2 1)), some (.int (nI len)), some (.int (nI j))] [] M := by
  intro f
  induction f with
  | zero =>
    intro j hf he hj hp
    rw [dgs, Nat.add_zero] at he
    refine r_aload_n (i := 0) d_Reader_digitsHere_2 rfl rfl ?_
    refine r_geti nf_Reader_33 lc_3 rfl d_Reader_digitsHere_3 ?_
    refine r_iload_n (i := 3) d_Reader_digitsHere_6 rfl rfl ?_
    refine r_iadd d_Reader_digitsHere_7 ?_
    refine r_iload_n (i := 2) d_Reader_digitsHere_8 rfl rfl ?_
    rw [h5, nI_add]
    refine r_icmp_ge 34 d_Reader_digitsHere_9 (by decide) (fun _ => ?_) (fun h9 => absurd (nI_le (by omega) (by omega)) h9)
    refine r_iload_n (i := 3) d_Reader_digitsHere_34 rfl rfl ?_
    refine r_iret rfl d_Reader_digitsHere_35 ?_
    rw [← he]
    exact hP
  | succ f ih =>
    intro j hf he hj hp
    have hlt : p + j < len := by omega
    refine r_aload_n (i := 0) d_Reader_digitsHere_2 rfl rfl ?_
    refine r_geti nf_Reader_33 lc_3 rfl d_Reader_digitsHere_3 ?_
    refine r_iload_n (i := 3) d_Reader_digitsHere_6 rfl rfl ?_
    refine r_iadd d_Reader_digitsHere_7 ?_
    refine r_iload_n (i := 2) d_Reader_digitsHere_8 rfl rfl ?_
    rw [h5, nI_add]
    refine r_icmp_ge 34 d_Reader_digitsHere_9 (by decide) (fun h_9 => ?_) (fun h_9 => ?_)
    · skip
      exact absurd h_9 (nI_ge hlt (by omega))
    · skip
      refine r_aload_n (i := 1) d_Reader_digitsHere_12 rfl rfl ?_
      refine r_aload_n (i := 0) d_Reader_digitsHere_13 rfl rfl ?_
      refine r_geti nf_Reader_33 lc_3 rfl d_Reader_digitsHere_14 ?_
      refine r_iload_n (i := 3) d_Reader_digitsHere_17 rfl rfl ?_
      refine r_iadd d_Reader_digitsHere_18 ?_
      rw [h5, nI_add]
      refine r_V1 v_Row_get w_370 row_1.1 (c2_Row_get row_1 (by omega) (show M 2 (p + j) = M 2 (p + j) from rfl)) (Nat.le_of_ble_eq_true rfl) (Nat.le_of_ble_eq_true rfl) d_Reader_digitsHere_19 ?_
      refine r_S1 f_Reader_isDigit w_382 (c_Reader_isDigit _ _ ) (Nat.le_of_ble_eq_true rfl) (Nat.le_of_ble_eq_true rfl) d_Reader_digitsHere_22 ?_
      refine r_if_eq 34 d_Reader_digitsHere_25 (by decide) (fun h_25 => ?_) (fun h_25 => ?_)
      · skip
        refine r_iload_n (i := 3) d_Reader_digitsHere_34 rfl rfl ?_
        refine r_iret rfl d_Reader_digitsHere_35 ?_
        rw [bI_f] at h_25
        rw [dgs, h_25, if_neg (by decide), Nat.add_zero] at he
        rw [← he]
        exact hP
      · skip
        refine r_iinc d_Reader_digitsHere_28 rfl (nI_inc j) (Nat.le_of_ble_eq_true rfl) rfl ?_
        refine r_goto 2 d_Reader_digitsHere_31 (by decide) ?_
        rw [bI_t] at h_25
        rw [dgs, if_pos h_25] at he
        exact ih (j + 1) (by omega) (by rw [he, Nat.add_assoc p j 1]; omega) (Or.inl (by omega)) hp

theorem c_Reader_digitsHere {len p : Nat} {M : nw_M} (hlen : len ≤ 60) (hp : p ≤ 60) (h5 : M 3 5 = nI p) : CF G LC m_Reader_digitsHere 1 [.ref (G.2.2 3), .ref (G.2.2 1), .int (nI len)] M (some (.int (nI (dgs (M 2) p (len - p))))) M := by
  refine CJ_of (by decide) rfl (Nat.le_of_ble_eq_true rfl) ?_
  refine r_iconst 0 d_Reader_digitsHere_0 ic_0 ?_
  refine r_istore_n (i := 3) d_Reader_digitsHere_1 rfl (Nat.le_of_ble_eq_true rfl) rfl ?_
  exact l_Reader_digitsHere hlen h5 ⟨rfl, rfl⟩ (len - p) 0 (by omega) (by rw [Nat.zero_add, Nat.add_zero]) (Or.inr rfl) hp

theorem lfS_some {a : AS} {x y : Int32} {w : Nat} {v : List Nat × AT} (h : adn a.2.2.2.1 a.2.2.2.2 x y (-9) (-9) 1 a.1 = .inr v) : lfS a x y w = .inr (.inr (a.1 + w, false, a.2.2.1, v.1, v.2)) := by unfold lfS; rw [h]
theorem lfS_none {a : AS} {x y : Int32} {w f : Nat} (h : adn a.2.2.2.1 a.2.2.2.2 x y (-9) (-9) 1 a.1 = .inl f) : lfS a x y w = .inl f := by unfold lfS; rw [h]
theorem c_Reader_addLeaf (x y : Int32) (w : Nat) {len : Nat} {a : AS} {M : nw_M} (hR : RM a M) (hA : AOK len a) : CJ G LC m_Reader_addLeaf 3 [.ref (G.2.2 3), .ref (G.2.2 82), .int x, .int y, .int (nI w)] M (fun v N => v = none ∧ RF M N ∧ RO (lfS a x y w) len N) := by
  refine CJ_of2 (n0 := 0) (by decide) rfl rfl ?_
  simp only [List.map_cons, List.map_nil, List.cons_append, List.nil_append, List.reduceReplicate]
  refine r_aload_n (i := 0) d_Reader_addLeaf_0 rfl rfl ?_
  refine r_aload_n (i := 1) d_Reader_addLeaf_1 rfl rfl ?_
  refine r_iload_n (i := 2) d_Reader_addLeaf_2 rfl rfl ?_
  refine r_iload_n (i := 3) d_Reader_addLeaf_3 rfl rfl ?_
  refine r_bipush (-9) d_Reader_addLeaf_4 bp_m9 ?_
  refine r_bipush (-9) d_Reader_addLeaf_6 bp_m9 ?_
  refine r_aload_n (i := 0) d_Reader_addLeaf_8 rfl rfl ?_
  refine r_geti nf_Reader_33 lc_3 rfl d_Reader_addLeaf_9 ?_
  rw [hR.2.1]
  refine r_W6 v_Reader_addNode w_394 lc_3 (c_Reader_addNode _ _ _ _ 1 a.1 hR.1 hA.2.2.2.2.1.1 (tok_len hA.2.2.2.2) hR.2.2.1) (Nat.le_of_ble_eq_true rfl) (Nat.le_of_ble_eq_true rfl) d_Reader_addLeaf_12 (fun v N hv => ?_)
  obtain ⟨rfl, hF, hK, hD⟩ := hv
  refine r_aload_n (i := 0) d_Reader_addLeaf_15 rfl rfl ?_
  refine r_iconst 0 d_Reader_addLeaf_16 ic_0 ?_
  refine r_putz nf_Reader_39 nfin_Reader_7 (by decide) lc_3 rfl d_Reader_addLeaf_17 ?_
  refine r_aload_n (i := 0) d_Reader_addLeaf_20 rfl rfl ?_
  refine r_dup d_Reader_addLeaf_21 rfl ?_
  refine r_geti nf_Reader_33 lc_3 rfl d_Reader_addLeaf_22 ?_
  refine r_iload d_Reader_addLeaf_25 rfl ?_
  refine r_iadd d_Reader_addLeaf_27 ?_
  refine r_puti nf_Reader_33 nfin_Reader_5 lc_3 rfl d_Reader_addLeaf_28 ?_
  refine r_vret rfl d_Reader_addLeaf_31 ?_
  have k5 : N 3 5 = nI a.1 := hK.1.trans hR.2.1
  simp (disch := omega) only [ms_same, ms_ne, upd_ne, k5, nI_add]
  refine ⟨trivial, fun e e1 e2 e3 e4 e5 e6 e7 e8 e9 => by simp (disch := omega) only [ms_ne]; exact hF e e1 e2 e3 e4 e5 e6 e7 e8 e9, ?_⟩
  rcases hD with ⟨hd, h6⟩ | ⟨v, hd, h6, hP⟩
  · rw [lfS_none hd]
    exact ⟨by simp (disch := omega) only [ms_same, upd_ne]; exact h6, hA.1⟩
  · rw [lfS_some hd]
    obtain ⟨a1, a2, a3, a4, a5, a6, a7⟩ := hP
    refine ⟨⟨?_, ?_, ?_, ?_, ?_, ?_, fun j hj => ?_⟩, ?_, ?_, ?_, ?_⟩
    · simp (disch := omega) only [ms_same, upd_ne]; exact a1
    · simp (disch := omega) only [ms_same, upd_ne]; exact a2
    · simp (disch := omega) only [ms_ne]; exact a3
    · simp (disch := omega) only [ms_ne]; exact a4
    · simp (disch := omega) only [ms_ne]; exact a5
    · simp (disch := omega) only [ms_ne]; exact a6
    · simp (disch := omega) only [ms_ne]; exact a7 j hj
    · simp (disch := omega) only [ms_same, upd_at]
    · simp (disch := omega) only [ms_same, upd_ne]; exact h6
    · simp (disch := omega) only [ms_same, upd_ne, upd_at]; rfl
    · simp (disch := omega) only [ms_same, upd_ne]; rw [hK.2.2]; exact hR.2.2.2.2

theorem c_Reader_takePart (c : Int32) {len : Nat} (hlen : len ≤ 60) {a : AS} {M : nw_M} (hR : RM a M) (hA : AOK len a) (hdue : a.2.1 = true) (hcl : a.1 < len ∨ c = -1) : CJ G LC m_Reader_takePart 4 [.ref (G.2.2 3), .int c, .ref (G.2.2 1), .int (nI len), .ref (G.2.2 82)] M (fun v N => v = none ∧ RF M N ∧ RO (cstD (M 2) len a c) len N) := by
  have hlp := hA.1
  have hd60 : dgs (M 2) a.1 (len - a.1) < 2 ^ 31 := by
    have : ∀ (f p : Nat), dgs (M 2) p f ≤ f := by
      intro f
      induction f with
      | zero => intro p; exact Nat.le_refl _
      | succ f ih => intro p; rw [dgs]; split
                     · have := ih (p + 1); omega
                     · omega
    have := this (len - a.1) a.1
    omega
  refine CJ_of2 (n0 := 1) (by decide) rfl rfl ?_
  simp only [List.map_cons, List.map_nil, List.cons_append, List.nil_append, List.reduceReplicate]
  refine r_aload_n (i := 0) d_Reader_takePart_0 rfl rfl ?_
  refine r_aload_n (i := 2) d_Reader_takePart_1 rfl rfl ?_
  refine r_iload_n (i := 3) d_Reader_takePart_2 rfl rfl ?_
  refine r_V2 v_Reader_digitsHere w_378 lc_3 (c_Reader_digitsHere hlen (by omega) hR.2.1) (Nat.le_of_ble_eq_true rfl) (Nat.le_of_ble_eq_true rfl) d_Reader_takePart_3 ?_
  refine r_istore d_Reader_takePart_6 (Nat.le_of_ble_eq_true rfl) rfl ?_
  dsimp only [List.set]
  refine r_iload_n (i := 1) d_Reader_takePart_8 rfl rfl ?_
  refine r_bipush 40 d_Reader_takePart_9 bp_40 ?_
  refine r_icmp_eq 20 d_Reader_takePart_11 (by decide) (fun h_11 => ?_) (fun h_11 => ?_)
  · skip
    have hpl : a.2.2.1.length < 60 := by
      have h1 := hA.2.1
      rcases hcl with q | q
      · omega
      · rw [q] at h_11; exact absurd h_11 (by decide)
    refine r_aload_n (i := 0) d_Reader_takePart_20 rfl rfl ?_
    refine r_iload_n (i := 1) d_Reader_takePart_21 rfl rfl ?_
    refine r_W1 v_Reader_pile w_385 lc_3 (c_Reader_pile _ hR.1 hR.2.1 hpl) (Nat.le_of_ble_eq_true rfl) (Nat.le_of_ble_eq_true rfl) d_Reader_takePart_22 (fun v N hv => ?_)
    obtain ⟨rfl, hF, k6, k7, k8, k5, kP⟩ := hv
    refine r_goto 130 d_Reader_takePart_25 (by decide) ?_
    refine r_vret rfl d_Reader_takePart_130 ?_
    refine ⟨rfl, hF, ?_⟩
    unfold cstD
    rw [if_pos (Or.inl h_11)]
    exact ⟨kP, k5, k6.trans hR.2.2.1, by rw [k7, hR.2.2.2.1, hdue], k8.trans hR.2.2.2.2⟩
  · skip
    refine r_iload_n (i := 1) d_Reader_takePart_14 rfl rfl ?_
    refine r_bipush 126 d_Reader_takePart_15 bp_126 ?_
    refine r_icmp_ne 28 d_Reader_takePart_17 (by decide) (fun h_17 => ?_) (fun h_17 => ?_)
    · skip
      have n1 : ¬ (c = 40 ∨ c = 126) := fun e => e.elim h_11 h_17
      refine r_iload_n (i := 1) d_Reader_takePart_28 rfl rfl ?_
      refine r_bipush 97 d_Reader_takePart_29 bp_97 ?_
      refine r_icmp_lt 55 d_Reader_takePart_31 (by decide) (fun h_31 => ?_) (fun h_31 => ?_)
      · skip
        refine r_iload d_Reader_takePart_55 rfl ?_
        refine r_iconst 1 d_Reader_takePart_57 ic_1 ?_
        refine r_icmp_ne 77 d_Reader_takePart_58 (by decide) (fun h_58 => ?_) (fun h_58 => ?_)
        · skip
          have d1 : ¬ dgs (M 2) a.1 (len - a.1) = 1 := fun e => h_58 (by rw [e]; rfl)
          refine r_iload d_Reader_takePart_77 rfl ?_
          refine r_iconst 2 d_Reader_takePart_79 ic_2 ?_
          refine r_icmp_ne 122 d_Reader_takePart_80 (by decide) (fun h_80 => ?_) (fun h_80 => ?_)
          · skip
            refine r_aload_n (i := 0) d_Reader_takePart_122 rfl rfl ?_
            refine r_aload_n (i := 0) d_Reader_takePart_123 rfl rfl ?_
            refine r_geti nf_Reader_33 lc_3 rfl d_Reader_takePart_124 ?_
            refine r_puti nf_Reader_36 nfin_Reader_6 lc_3 rfl d_Reader_takePart_127 ?_
            refine r_vret rfl d_Reader_takePart_130 ?_
            refine ⟨rfl, fun e e1 e2 e3 e4 e5 e6 e7 e8 e9 => by simp (disch := omega) only [ms_ne], ?_⟩
            unfold cstD
            rw [if_neg n1, if_neg (fun e => e.1 h_31), if_neg d1, if_neg (fun e => h_80 (by rw [e.1]; rfl))]
            exact ⟨by simp (disch := omega) only [ms_same, upd_at]; exact hR.2.1, hA.1⟩
          · skip
            refine r_iload_n (i := 1) d_Reader_takePart_83 rfl rfl ?_
            refine r_bipush 48 d_Reader_takePart_84 bp_48 ?_
            refine r_icmp_eq 122 d_Reader_takePart_86 (by decide) (fun h_86 => ?_) (fun h_86 => ?_)
            · skip
              refine r_aload_n (i := 0) d_Reader_takePart_122 rfl rfl ?_
              refine r_aload_n (i := 0) d_Reader_takePart_123 rfl rfl ?_
              refine r_geti nf_Reader_33 lc_3 rfl d_Reader_takePart_124 ?_
              refine r_puti nf_Reader_36 nfin_Reader_6 lc_3 rfl d_Reader_takePart_127 ?_
              refine r_vret rfl d_Reader_takePart_130 ?_
              refine ⟨rfl, fun e e1 e2 e3 e4 e5 e6 e7 e8 e9 => by simp (disch := omega) only [ms_ne], ?_⟩
              unfold cstD
              rw [if_neg n1, if_neg (fun e => e.1 h_31), if_neg d1, if_neg (fun e => e.2 h_86)]
              exact ⟨by simp (disch := omega) only [ms_same, upd_at]; exact hR.2.1, hA.1⟩
            · skip
              have d2 : dgs (M 2) a.1 (len - a.1) = 2 := (nI_eq (b := 2) hd60 (by omega)).mp h_80
              have hp2 : a.1 + 1 < 60 := by
                have : ∀ (f p : Nat), dgs (M 2) p f ≤ f := by
                  intro f
                  induction f with
                  | zero => intro p; exact Nat.le_refl _
                  | succ f ih =>
                    intro p; rw [dgs]; split
                    · have := ih (p + 1); omega
                    · omega
                have := this (len - a.1) a.1
                omega
              refine r_aload_n (i := 0) d_Reader_takePart_89 rfl rfl ?_
              refine r_aload d_Reader_takePart_90 rfl ?_
              refine r_bipush 48 d_Reader_takePart_92 bp_48 ?_
              refine r_iload_n (i := 1) d_Reader_takePart_94 rfl rfl ?_
              refine r_bipush 48 d_Reader_takePart_95 bp_48 ?_
              refine r_isub d_Reader_takePart_97 ?_
              refine r_bipush 10 d_Reader_takePart_98 bp_10 ?_
              refine r_imul d_Reader_takePart_100 ?_
              refine r_aload_n (i := 2) d_Reader_takePart_101 rfl rfl ?_
              refine r_aload_n (i := 0) d_Reader_takePart_102 rfl rfl ?_
              refine r_geti nf_Reader_33 lc_3 rfl d_Reader_takePart_103 ?_
              refine r_iconst 1 d_Reader_takePart_106 ic_1 ?_
              refine r_iadd d_Reader_takePart_107 ?_
              rw [hR.2.1, nI_1]
              refine r_V1 v_Row_get w_370 row_1.1 (c2_Row_get row_1 (k := a.1 + 1) (by omega) (show M 2 (a.1 + 1) = M 2 (a.1 + 1) from rfl)) (Nat.le_of_ble_eq_true rfl) (Nat.le_of_ble_eq_true rfl) d_Reader_takePart_108 ?_
              refine r_iadd d_Reader_takePart_111 ?_
              refine r_bipush 48 d_Reader_takePart_112 bp_48 ?_
              refine r_isub d_Reader_takePart_114 ?_
              refine r_iconst 2 d_Reader_takePart_115 ic_2 ?_
              refine r_W4 v_Reader_addLeaf w_390 lc_3 (c_Reader_addLeaf _ _ 2 hR hA) (Nat.le_of_ble_eq_true rfl) (Nat.le_of_ble_eq_true rfl) d_Reader_takePart_116 (fun v N hv => ?_)
              obtain ⟨rfl, hF, hO⟩ := hv
              refine r_goto 130 d_Reader_takePart_119 (by decide) ?_
              refine r_vret rfl d_Reader_takePart_130 ?_
              refine ⟨rfl, hF, ?_⟩
              unfold cstD
              rw [if_neg n1, if_neg (fun e => e.1 h_31), if_neg d1, if_pos ⟨d2, h_86⟩]
              exact hO
        · skip
          have d1 : dgs (M 2) a.1 (len - a.1) = 1 := (nI_eq (b := 1) hd60 (by omega)).mp h_58
          refine r_aload_n (i := 0) d_Reader_takePart_61 rfl rfl ?_
          refine r_aload d_Reader_takePart_62 rfl ?_
          refine r_bipush 48 d_Reader_takePart_64 bp_48 ?_
          refine r_iload_n (i := 1) d_Reader_takePart_66 rfl rfl ?_
          refine r_bipush 48 d_Reader_takePart_67 bp_48 ?_
          refine r_isub d_Reader_takePart_69 ?_
          refine r_iconst 1 d_Reader_takePart_70 ic_1 ?_
          refine r_W4 v_Reader_addLeaf w_390 lc_3 (c_Reader_addLeaf _ _ 1 hR hA) (Nat.le_of_ble_eq_true rfl) (Nat.le_of_ble_eq_true rfl) d_Reader_takePart_71 (fun v N hv => ?_)
          obtain ⟨rfl, hF, hO⟩ := hv
          refine r_goto 130 d_Reader_takePart_74 (by decide) ?_
          refine r_vret rfl d_Reader_takePart_130 ?_
          refine ⟨rfl, hF, ?_⟩
          unfold cstD
          rw [if_neg n1, if_neg (fun e => e.1 h_31), if_pos d1]
          exact hO
      · skip
        refine r_iload_n (i := 1) d_Reader_takePart_34 rfl rfl ?_
        refine r_bipush 104 d_Reader_takePart_35 bp_104 ?_
        refine r_icmp_gt 55 d_Reader_takePart_37 (by decide) (fun h_37 => ?_) (fun h_37 => ?_)
        · skip
          refine r_iload d_Reader_takePart_55 rfl ?_
          refine r_iconst 1 d_Reader_takePart_57 ic_1 ?_
          refine r_icmp_ne 77 d_Reader_takePart_58 (by decide) (fun h_58 => ?_) (fun h_58 => ?_)
          · skip
            have d1 : ¬ dgs (M 2) a.1 (len - a.1) = 1 := fun e => h_58 (by rw [e]; rfl)
            refine r_iload d_Reader_takePart_77 rfl ?_
            refine r_iconst 2 d_Reader_takePart_79 ic_2 ?_
            refine r_icmp_ne 122 d_Reader_takePart_80 (by decide) (fun h_80 => ?_) (fun h_80 => ?_)
            · skip
              refine r_aload_n (i := 0) d_Reader_takePart_122 rfl rfl ?_
              refine r_aload_n (i := 0) d_Reader_takePart_123 rfl rfl ?_
              refine r_geti nf_Reader_33 lc_3 rfl d_Reader_takePart_124 ?_
              refine r_puti nf_Reader_36 nfin_Reader_6 lc_3 rfl d_Reader_takePart_127 ?_
              refine r_vret rfl d_Reader_takePart_130 ?_
              refine ⟨rfl, fun e e1 e2 e3 e4 e5 e6 e7 e8 e9 => by simp (disch := omega) only [ms_ne], ?_⟩
              unfold cstD
              rw [if_neg n1, if_neg (fun e => e.2 h_37), if_neg d1, if_neg (fun e => h_80 (by rw [e.1]; rfl))]
              exact ⟨by simp (disch := omega) only [ms_same, upd_at]; exact hR.2.1, hA.1⟩
            · skip
              refine r_iload_n (i := 1) d_Reader_takePart_83 rfl rfl ?_
              refine r_bipush 48 d_Reader_takePart_84 bp_48 ?_
              refine r_icmp_eq 122 d_Reader_takePart_86 (by decide) (fun h_86 => ?_) (fun h_86 => ?_)
              · skip
                refine r_aload_n (i := 0) d_Reader_takePart_122 rfl rfl ?_
                refine r_aload_n (i := 0) d_Reader_takePart_123 rfl rfl ?_
                refine r_geti nf_Reader_33 lc_3 rfl d_Reader_takePart_124 ?_
                refine r_puti nf_Reader_36 nfin_Reader_6 lc_3 rfl d_Reader_takePart_127 ?_
                refine r_vret rfl d_Reader_takePart_130 ?_
                refine ⟨rfl, fun e e1 e2 e3 e4 e5 e6 e7 e8 e9 => by simp (disch := omega) only [ms_ne], ?_⟩
                unfold cstD
                rw [if_neg n1, if_neg (fun e => e.2 h_37), if_neg d1, if_neg (fun e => e.2 h_86)]
                exact ⟨by simp (disch := omega) only [ms_same, upd_at]; exact hR.2.1, hA.1⟩
              · skip
                have d2 : dgs (M 2) a.1 (len - a.1) = 2 := (nI_eq (b := 2) hd60 (by omega)).mp h_80
                have hp2 : a.1 + 1 < 60 := by
                  have : ∀ (f p : Nat), dgs (M 2) p f ≤ f := by
                    intro f
                    induction f with
                    | zero => intro p; exact Nat.le_refl _
                    | succ f ih =>
                      intro p; rw [dgs]; split
                      · have := ih (p + 1); omega
                      · omega
                  have := this (len - a.1) a.1
                  omega
                refine r_aload_n (i := 0) d_Reader_takePart_89 rfl rfl ?_
                refine r_aload d_Reader_takePart_90 rfl ?_
                refine r_bipush 48 d_Reader_takePart_92 bp_48 ?_
                refine r_iload_n (i := 1) d_Reader_takePart_94 rfl rfl ?_
                refine r_bipush 48 d_Reader_takePart_95 bp_48 ?_
                refine r_isub d_Reader_takePart_97 ?_
                refine r_bipush 10 d_Reader_takePart_98 bp_10 ?_
                refine r_imul d_Reader_takePart_100 ?_
                refine r_aload_n (i := 2) d_Reader_takePart_101 rfl rfl ?_
                refine r_aload_n (i := 0) d_Reader_takePart_102 rfl rfl ?_
                refine r_geti nf_Reader_33 lc_3 rfl d_Reader_takePart_103 ?_
                refine r_iconst 1 d_Reader_takePart_106 ic_1 ?_
                refine r_iadd d_Reader_takePart_107 ?_
                rw [hR.2.1, nI_1]
                refine r_V1 v_Row_get w_370 row_1.1 (c2_Row_get row_1 (k := a.1 + 1) (by omega) (show M 2 (a.1 + 1) = M 2 (a.1 + 1) from rfl)) (Nat.le_of_ble_eq_true rfl) (Nat.le_of_ble_eq_true rfl) d_Reader_takePart_108 ?_
                refine r_iadd d_Reader_takePart_111 ?_
                refine r_bipush 48 d_Reader_takePart_112 bp_48 ?_
                refine r_isub d_Reader_takePart_114 ?_
                refine r_iconst 2 d_Reader_takePart_115 ic_2 ?_
                refine r_W4 v_Reader_addLeaf w_390 lc_3 (c_Reader_addLeaf _ _ 2 hR hA) (Nat.le_of_ble_eq_true rfl) (Nat.le_of_ble_eq_true rfl) d_Reader_takePart_116 (fun v N hv => ?_)
                obtain ⟨rfl, hF, hO⟩ := hv
                refine r_goto 130 d_Reader_takePart_119 (by decide) ?_
                refine r_vret rfl d_Reader_takePart_130 ?_
                refine ⟨rfl, hF, ?_⟩
                unfold cstD
                rw [if_neg n1, if_neg (fun e => e.2 h_37), if_neg d1, if_pos ⟨d2, h_86⟩]
                exact hO
          · skip
            have d1 : dgs (M 2) a.1 (len - a.1) = 1 := (nI_eq (b := 1) hd60 (by omega)).mp h_58
            refine r_aload_n (i := 0) d_Reader_takePart_61 rfl rfl ?_
            refine r_aload d_Reader_takePart_62 rfl ?_
            refine r_bipush 48 d_Reader_takePart_64 bp_48 ?_
            refine r_iload_n (i := 1) d_Reader_takePart_66 rfl rfl ?_
            refine r_bipush 48 d_Reader_takePart_67 bp_48 ?_
            refine r_isub d_Reader_takePart_69 ?_
            refine r_iconst 1 d_Reader_takePart_70 ic_1 ?_
            refine r_W4 v_Reader_addLeaf w_390 lc_3 (c_Reader_addLeaf _ _ 1 hR hA) (Nat.le_of_ble_eq_true rfl) (Nat.le_of_ble_eq_true rfl) d_Reader_takePart_71 (fun v N hv => ?_)
            obtain ⟨rfl, hF, hO⟩ := hv
            refine r_goto 130 d_Reader_takePart_74 (by decide) ?_
            refine r_vret rfl d_Reader_takePart_130 ?_
            refine ⟨rfl, hF, ?_⟩
            unfold cstD
            rw [if_neg n1, if_neg (fun e => e.2 h_37), if_pos d1]
            exact hO
        · skip
          refine r_aload_n (i := 0) d_Reader_takePart_40 rfl rfl ?_
          refine r_aload d_Reader_takePart_41 rfl ?_
          refine r_iload_n (i := 1) d_Reader_takePart_43 rfl rfl ?_
          refine r_iload_n (i := 1) d_Reader_takePart_44 rfl rfl ?_
          refine r_bipush 97 d_Reader_takePart_45 bp_97 ?_
          refine r_isub d_Reader_takePart_47 ?_
          refine r_iconst 1 d_Reader_takePart_48 ic_1 ?_
          refine r_W4 v_Reader_addLeaf w_390 lc_3 (c_Reader_addLeaf _ _ 1 hR hA) (Nat.le_of_ble_eq_true rfl) (Nat.le_of_ble_eq_true rfl) d_Reader_takePart_49 (fun v N hv => ?_)
          obtain ⟨rfl, hF, hO⟩ := hv
          refine r_goto 130 d_Reader_takePart_52 (by decide) ?_
          refine r_vret rfl d_Reader_takePart_130 ?_
          refine ⟨rfl, hF, ?_⟩
          unfold cstD
          rw [if_neg n1, if_pos ⟨h_31, h_37⟩]
          exact hO
    · skip
      have hpl : a.2.2.1.length < 60 := by
        have h1 := hA.2.1
        rcases hcl with q | q
        · omega
        · rw [q] at h_17; exact absurd h_17 (by decide)
      refine r_aload_n (i := 0) d_Reader_takePart_20 rfl rfl ?_
      refine r_iload_n (i := 1) d_Reader_takePart_21 rfl rfl ?_
      refine r_W1 v_Reader_pile w_385 lc_3 (c_Reader_pile _ hR.1 hR.2.1 hpl) (Nat.le_of_ble_eq_true rfl) (Nat.le_of_ble_eq_true rfl) d_Reader_takePart_22 (fun v N hv => ?_)
      obtain ⟨rfl, hF, k6, k7, k8, k5, kP⟩ := hv
      refine r_goto 130 d_Reader_takePart_25 (by decide) ?_
      refine r_vret rfl d_Reader_takePart_130 ?_
      refine ⟨rfl, hF, ?_⟩
      unfold cstD
      rw [if_pos (Or.inr h_17)]
      exact ⟨kP, k5, k6.trans hR.2.2.1, by rw [k7, hR.2.2.2.1, hdue], k8.trans hR.2.2.2.2⟩

theorem c_Reader_takeOperator (c : Int32) {len : Nat} (hlen : len ≤ 60) {a : AS} {M : nw_M} (hR : RM a M) (hA : AOK len a) (hdue : a.2.1 = false) (hcl : a.1 < len ∨ c = -1) : CJ G LC m_Reader_takeOperator 4 [.ref (G.2.2 3), .int c, .ref (G.2.2 82)] M (fun v N => v = none ∧ RF M N ∧ RO (cstO a c) len N) := by
  refine CJ_of2 (n0 := 1) (by decide) rfl rfl ?_
  simp only [List.map_cons, List.map_nil, List.cons_append, List.nil_append, List.reduceReplicate]
  refine r_iload_n (i := 1) d_Reader_takeOperator_0 rfl rfl ?_
  refine r_S1 f_Ops_isOfSum w_415 (c_Ops_isOfSum _ _ ) (Nat.le_of_ble_eq_true rfl) (Nat.le_of_ble_eq_true rfl) d_Reader_takeOperator_1 ?_
  refine r_if_ne 14 d_Reader_takeOperator_4 (by decide) (fun h_4 => ?_) (fun h_4 => ?_)
  · skip
    rw [bI_t] at h_4
    have hgo : o_sum c = true ∨ o_prod c = true := Or.inl h_4
    have hbin : o_bin c = true := by simp [o_bin, h_4]
    refine r_iconst 1 d_Reader_takeOperator_14 ic_1 ?_
    refine r_goto 19 d_Reader_takeOperator_15 (by decide) ?_
    refine r_istore_n (i := 3) d_Reader_takeOperator_19 rfl (Nat.le_of_ble_eq_true rfl) rfl ?_
    dsimp only [List.set]
    refine r_aload_n (i := 0) d_Reader_takeOperator_20 rfl rfl ?_
    refine r_iload_n (i := 3) d_Reader_takeOperator_21 rfl rfl ?_
    refine r_if_eq 32 d_Reader_takeOperator_22 (by decide) (fun h_22 => ?_) (fun h_22 => ?_)
    · exact absurd h_22 (by decide)
    · skip
      have hgp : 0 < o_grip c := by
        have : ∀ s p : Bool, (s = true ∨ p = true) → (0 : Int32) < (if c = 126 then 3 else if p then 2 else if s then 1 else 0) := by
          intro s p h
          split
          · decide
          · cases p <;> cases s <;> simp at h ⊢ <;> decide
        exact this _ _ hgo
      have hcne : c ≠ -1 := by
        intro e
        rw [e] at hbin
        exact absurd hbin (by decide)
      have hlt : a.1 < len := hcl.resolve_right hcne
      refine r_iload_n (i := 1) d_Reader_takeOperator_25 rfl rfl ?_
      refine r_S1 f_Ops_grip w_421 (c_Ops_grip _ _ ) (Nat.le_of_ble_eq_true rfl) (Nat.le_of_ble_eq_true rfl) d_Reader_takeOperator_26 ?_
      refine r_goto 33 d_Reader_takeOperator_29 (by decide) ?_
      refine r_aload_n (i := 2) d_Reader_takeOperator_33 rfl rfl ?_
      refine r_W2 v_Reader_settle w_426 lc_3 (c_Reader_settle hlen (g := o_grip c) hgp hA.2.2.1 (by have := hA.2.1; have := hA.1; omega) (by rw [hA.2.2.2.1, hdue]; rfl) hA.2.2.2.2 hR.2.2.1 hR.1) (Nat.le_of_ble_eq_true rfl) (Nat.le_of_ble_eq_true rfl) d_Reader_takeOperator_34 (fun v N hv => ?_)
      obtain ⟨rfl, hF, hK, hD⟩ := hv
      have k5 : N 3 5 = nI a.1 := hK.1.trans hR.2.1
      have k7 : N 3 7 = bI a.2.1 := hK.2.1.trans hR.2.2.2.1
      have k8 : N 3 8 = 0 := hK.2.2.trans hR.2.2.2.2
      rcases hD with ⟨f, hs, hf, h6⟩ | ⟨w, hs, h6, hP⟩
      · skip
        skip
        refine r_aload_n (i := 0) d_Reader_takeOperator_37 rfl rfl ?_
        refine r_geti nf_Reader_36 lc_3 rfl d_Reader_takeOperator_38 ?_
        refine r_bipush (-9) d_Reader_takeOperator_41 bp_m9 ?_
        skip
        refine r_icmp_eq 47 d_Reader_takeOperator_43 (by decide) (fun h_43 => ?_) (fun h_43 => ?_)
        · skip
          exact absurd (h6.symm.trans h_43) (nI_ne9 (by have := hA.1; omega))
        · skip
          refine r_vret rfl d_Reader_takeOperator_46 ⟨rfl, hF, ?_⟩
          unfold cstO
          rw [show stl (if o_bin c then o_grip c else 1) a.2.2.1 a.2.2.2.1 a.2.2.2.2 = .inl f by rw [if_pos hbin]; exact hs]
          have := hA.1
          exact ⟨h6, by omega⟩
      · skip
        have hok := stl_ok a.2.2.1 a.2.2.2.1 a.2.2.2.2 hA.2.2.1 (g := o_grip c) hgp (by rw [hA.2.2.2.1, hdue]; rfl) hA.2.2.2.2 w hs
        have hA1 := hA.1
        have hA2 := hA.2.1
        refine r_aload_n (i := 0) d_Reader_takeOperator_37 rfl rfl ?_
        refine r_geti nf_Reader_36 lc_3 rfl d_Reader_takeOperator_38 ?_
        refine r_bipush (-9) d_Reader_takeOperator_41 bp_m9 ?_
        skip
        refine r_icmp_eq 47 d_Reader_takeOperator_43 (by decide) (fun h_43 => ?_) (fun h_43 => ?_)
        · skip
          refine r_iload_n (i := 3) d_Reader_takeOperator_47 rfl rfl ?_
          refine r_if_eq 64 d_Reader_takeOperator_48 (by decide) (fun h_48 => ?_) (fun h_48 => ?_)
          · exact absurd h_48 (by decide)
          · skip
            refine r_aload_n (i := 0) d_Reader_takeOperator_51 rfl rfl ?_
            refine r_iload_n (i := 1) d_Reader_takeOperator_52 rfl rfl ?_
            refine r_W1 v_Reader_pile w_385 lc_3 (c_Reader_pile _ hP k5 (by omega)) (Nat.le_of_ble_eq_true rfl) (Nat.le_of_ble_eq_true rfl) d_Reader_takeOperator_53 (fun v N2 hv2 => ?_)
            obtain ⟨rfl, hF2, l6, l7, l8, l5, lP⟩ := hv2
            refine r_aload_n (i := 0) d_Reader_takeOperator_56 rfl rfl ?_
            refine r_iconst 1 d_Reader_takeOperator_57 ic_1 ?_
            refine r_putz nf_Reader_39 nfin_Reader_7 (by decide) lc_3 rfl d_Reader_takeOperator_58 ?_
            refine r_goto 128 d_Reader_takeOperator_61 (by decide) ?_
            refine r_vret rfl d_Reader_takeOperator_128 ?_
            have hF3 := RF.tr hF hF2
            refine ⟨rfl, fun e e1 e2 e3 e4 e5 e6 e7 e8 e9 => by simp (disch := omega) only [ms_ne]; exact hF3 e e1 e2 e3 e4 e5 e6 e7 e8 e9, ?_⟩
            unfold cstO
            rw [show stl (if o_bin c then o_grip c else 1) a.2.2.1 a.2.2.2.1 a.2.2.2.2 = .inr w by rw [if_pos hbin]; exact hs]
            simp only [hbin, if_true]
            obtain ⟨a1, a2, a3, a4, a5, a6, a7⟩ := lP
            refine ⟨⟨?_, ?_, ?_, ?_, ?_, ?_, fun j hj => ?_⟩, ?_, ?_, ?_, ?_⟩
            · simp (disch := omega) only [ms_same, upd_ne]; exact a1
            · simp (disch := omega) only [ms_same, upd_ne]; exact a2
            · simp (disch := omega) only [ms_ne]; exact a3
            · simp (disch := omega) only [ms_ne]; exact a4
            · simp (disch := omega) only [ms_ne]; exact a5
            · simp (disch := omega) only [ms_ne]; exact a6
            · simp (disch := omega) only [ms_ne]; exact a7 j hj
            · simp (disch := omega) only [ms_same, upd_ne]; exact l5
            · simp (disch := omega) only [ms_same, upd_ne]; exact l6.trans h6
            · simp (disch := omega) only [ms_same, upd_at]; rfl
            · simp (disch := omega) only [ms_same, upd_ne]; exact l8.trans k8
        · skip
          exact absurd h6 h_43
  · skip
    refine r_iload_n (i := 1) d_Reader_takeOperator_7 rfl rfl ?_
    refine r_S1 f_Ops_isOfProduct w_418 (c_Ops_isOfProduct _ _ ) (Nat.le_of_ble_eq_true rfl) (Nat.le_of_ble_eq_true rfl) d_Reader_takeOperator_8 ?_
    refine r_if_eq 18 d_Reader_takeOperator_11 (by decide) (fun h_11 => ?_) (fun h_11 => ?_)
    · skip
      rw [bI_f] at h_4 h_11
      have hbin : o_bin c = false := by simp [o_bin, h_4, h_11]
      refine r_iconst 0 d_Reader_takeOperator_18 ic_0 ?_
      refine r_istore_n (i := 3) d_Reader_takeOperator_19 rfl (Nat.le_of_ble_eq_true rfl) rfl ?_
      dsimp only [List.set]
      refine r_aload_n (i := 0) d_Reader_takeOperator_20 rfl rfl ?_
      refine r_iload_n (i := 3) d_Reader_takeOperator_21 rfl rfl ?_
      refine r_if_eq 32 d_Reader_takeOperator_22 (by decide) (fun h_22 => ?_) (fun h_22 => ?_)
      · skip
        refine r_iconst 1 d_Reader_takeOperator_32 ic_1 ?_
        refine r_aload_n (i := 2) d_Reader_takeOperator_33 rfl rfl ?_
        refine r_W2 v_Reader_settle w_426 lc_3 (c_Reader_settle hlen (g := 1) (by decide) hA.2.2.1 (by have := hA.2.1; have := hA.1; omega) (by rw [hA.2.2.2.1, hdue]; rfl) hA.2.2.2.2 hR.2.2.1 hR.1) (Nat.le_of_ble_eq_true rfl) (Nat.le_of_ble_eq_true rfl) d_Reader_takeOperator_34 (fun v N hv => ?_)
        obtain ⟨rfl, hF, hK, hD⟩ := hv
        have k5 : N 3 5 = nI a.1 := hK.1.trans hR.2.1
        have k7 : N 3 7 = bI a.2.1 := hK.2.1.trans hR.2.2.2.1
        have k8 : N 3 8 = 0 := hK.2.2.trans hR.2.2.2.2
        rcases hD with ⟨f, hs, hf, h6⟩ | ⟨w, hs, h6, hP⟩
        · skip
          skip
          refine r_aload_n (i := 0) d_Reader_takeOperator_37 rfl rfl ?_
          refine r_geti nf_Reader_36 lc_3 rfl d_Reader_takeOperator_38 ?_
          refine r_bipush (-9) d_Reader_takeOperator_41 bp_m9 ?_
          skip
          refine r_icmp_eq 47 d_Reader_takeOperator_43 (by decide) (fun h_43 => ?_) (fun h_43 => ?_)
          · skip
            exact absurd (h6.symm.trans h_43) (nI_ne9 (by have := hA.1; omega))
          · skip
            refine r_vret rfl d_Reader_takeOperator_46 ⟨rfl, hF, ?_⟩
            unfold cstO
            rw [show stl (if o_bin c then o_grip c else 1) a.2.2.1 a.2.2.2.1 a.2.2.2.2 = .inl f by rw [hbin, if_neg (by decide)]; exact hs]
            have := hA.1
            exact ⟨h6, by omega⟩
        · skip
          have hok := stl_ok a.2.2.1 a.2.2.2.1 a.2.2.2.2 hA.2.2.1 (g := 1) (by decide) (by rw [hA.2.2.2.1, hdue]; rfl) hA.2.2.2.2 w hs
          have hA1 := hA.1
          have hA2 := hA.2.1
          refine r_aload_n (i := 0) d_Reader_takeOperator_37 rfl rfl ?_
          refine r_geti nf_Reader_36 lc_3 rfl d_Reader_takeOperator_38 ?_
          refine r_bipush (-9) d_Reader_takeOperator_41 bp_m9 ?_
          skip
          refine r_icmp_eq 47 d_Reader_takeOperator_43 (by decide) (fun h_43 => ?_) (fun h_43 => ?_)
          · skip
            refine r_iload_n (i := 3) d_Reader_takeOperator_47 rfl rfl ?_
            refine r_if_eq 64 d_Reader_takeOperator_48 (by decide) (fun h_48 => ?_) (fun h_48 => ?_)
            · skip
              refine r_iload_n (i := 1) d_Reader_takeOperator_64 rfl rfl ?_
              refine r_bipush 41 d_Reader_takeOperator_65 bp_41 ?_
              refine r_icmp_ne 100 d_Reader_takeOperator_67 (by decide) (fun h_67 => ?_) (fun h_67 => ?_)
              · skip
                refine r_iload_n (i := 1) d_Reader_takeOperator_100 rfl rfl ?_
                refine r_iconst (-1) d_Reader_takeOperator_101 ic_m1 ?_
                refine r_icmp_ne 120 d_Reader_takeOperator_102 (by decide) (fun h_102 => ?_) (fun h_102 => ?_)
                · skip
                  refine r_aload_n (i := 0) d_Reader_takeOperator_120 rfl rfl ?_
                  refine r_aload_n (i := 0) d_Reader_takeOperator_121 rfl rfl ?_
                  refine r_geti nf_Reader_33 lc_3 rfl d_Reader_takeOperator_122 ?_
                  refine r_puti nf_Reader_36 nfin_Reader_6 lc_3 rfl d_Reader_takeOperator_125 ?_
                  refine r_vret rfl d_Reader_takeOperator_128 ?_
                  refine ⟨rfl, fun e e1 e2 e3 e4 e5 e6 e7 e8 e9 => by simp (disch := omega) only [ms_ne]; exact hF e e1 e2 e3 e4 e5 e6 e7 e8 e9, ?_⟩
                  unfold cstO
                  rw [show stl (if o_bin c then o_grip c else 1) a.2.2.1 a.2.2.2.1 a.2.2.2.2 = .inr w by rw [hbin, if_neg (by decide)]; exact hs]
                  simp only [hbin, if_false, Bool.false_eq_true]
                  rw [if_neg (fun e => h_67 e.1), if_neg (fun e => h_102 e.1)]
                  exact ⟨by simp (disch := omega) only [ms_same, upd_at]; exact k5, hA1⟩
                · skip
                  refine r_aload_n (i := 0) d_Reader_takeOperator_105 rfl rfl ?_
                  refine r_geti nf_Reader_26 lc_3 rfl d_Reader_takeOperator_106 ?_
                  refine r_if_ne 120 d_Reader_takeOperator_109 (by decide) (fun h_109 => ?_) (fun h_109 => ?_)
                  · skip
                    refine r_aload_n (i := 0) d_Reader_takeOperator_120 rfl rfl ?_
                    refine r_aload_n (i := 0) d_Reader_takeOperator_121 rfl rfl ?_
                    refine r_geti nf_Reader_33 lc_3 rfl d_Reader_takeOperator_122 ?_
                    refine r_puti nf_Reader_36 nfin_Reader_6 lc_3 rfl d_Reader_takeOperator_125 ?_
                    refine r_vret rfl d_Reader_takeOperator_128 ?_
                    have hne : ¬ (c = -1 ∧ w.1 = []) := by
                      intro q
                      rw [hP.1, q.2] at h_109
                      exact h_109 rfl
                    refine ⟨rfl, fun e e1 e2 e3 e4 e5 e6 e7 e8 e9 => by simp (disch := omega) only [ms_ne]; exact hF e e1 e2 e3 e4 e5 e6 e7 e8 e9, ?_⟩
                    unfold cstO
                    rw [show stl (if o_bin c then o_grip c else 1) a.2.2.1 a.2.2.2.1 a.2.2.2.2 = .inr w by rw [hbin, if_neg (by decide)]; exact hs]
                    simp only [hbin, if_false, Bool.false_eq_true]
                    rw [if_neg (fun e => h_67 e.1), if_neg (hne)]
                    exact ⟨by simp (disch := omega) only [ms_same, upd_at]; exact k5, hA1⟩
                  · skip
                    refine r_aload_n (i := 0) d_Reader_takeOperator_112 rfl rfl ?_
                    refine r_iconst 1 d_Reader_takeOperator_113 ic_1 ?_
                    refine r_putz nf_Reader_43 nfin_Reader_8 (by decide) lc_3 rfl d_Reader_takeOperator_114 ?_
                    refine r_goto 128 d_Reader_takeOperator_117 (by decide) ?_
                    refine r_vret rfl d_Reader_takeOperator_128 ?_
                    have hem : w.1 = [] := by
                      rw [hP.1] at h_109
                      have := (nI_eq (b := 0) (by have := hok.2.1; omega) (by omega)).mp h_109
                      exact List.length_eq_zero_iff.mp this
                    refine ⟨rfl, fun e e1 e2 e3 e4 e5 e6 e7 e8 e9 => by simp (disch := omega) only [ms_ne]; exact hF e e1 e2 e3 e4 e5 e6 e7 e8 e9, ?_⟩
                    unfold cstO
                    rw [show stl (if o_bin c then o_grip c else 1) a.2.2.1 a.2.2.2.1 a.2.2.2.2 = .inr w by rw [hbin, if_neg (by decide)]; exact hs]
                    simp only [hbin, if_false, Bool.false_eq_true]
                    rw [if_neg (fun e => h_67 e.1), if_pos ⟨h_102, hem⟩]
                    refine ⟨by simp (disch := omega) only [ms_same, upd_ne]; exact h6, by simp (disch := omega) only [ms_same, upd_at], by simp (disch := omega) only [ms_ne]; exact hP.2.2.2.2.2.1, fun j hj => by simp (disch := omega) only [ms_ne]; exact hP.2.2.2.2.2.2 j hj⟩
              · skip
                refine r_aload_n (i := 0) d_Reader_takeOperator_70 rfl rfl ?_
                refine r_geti nf_Reader_26 lc_3 rfl d_Reader_takeOperator_71 ?_
                refine r_if_le 100 d_Reader_takeOperator_74 (by decide) (fun h_74 => ?_) (fun h_74 => ?_)
                · skip
                  refine r_iload_n (i := 1) d_Reader_takeOperator_100 rfl rfl ?_
                  refine r_iconst (-1) d_Reader_takeOperator_101 ic_m1 ?_
                  refine r_icmp_ne 120 d_Reader_takeOperator_102 (by decide) (fun h_102 => ?_) (fun h_102 => ?_)
                  · skip
                    refine r_aload_n (i := 0) d_Reader_takeOperator_120 rfl rfl ?_
                    refine r_aload_n (i := 0) d_Reader_takeOperator_121 rfl rfl ?_
                    refine r_geti nf_Reader_33 lc_3 rfl d_Reader_takeOperator_122 ?_
                    refine r_puti nf_Reader_36 nfin_Reader_6 lc_3 rfl d_Reader_takeOperator_125 ?_
                    refine r_vret rfl d_Reader_takeOperator_128 ?_
                    have hno : ¬ (c = 41 ∧ w.1 ≠ []) := by
                      intro q
                      have : 0 < w.1.length := List.length_pos_iff.mpr q.2
                      rw [hP.1] at h_74
                      exact nI_nle this (by have := hok.2.1; omega) h_74
                    refine ⟨rfl, fun e e1 e2 e3 e4 e5 e6 e7 e8 e9 => by simp (disch := omega) only [ms_ne]; exact hF e e1 e2 e3 e4 e5 e6 e7 e8 e9, ?_⟩
                    unfold cstO
                    rw [show stl (if o_bin c then o_grip c else 1) a.2.2.1 a.2.2.2.1 a.2.2.2.2 = .inr w by rw [hbin, if_neg (by decide)]; exact hs]
                    simp only [hbin, if_false, Bool.false_eq_true]
                    rw [if_neg (hno), if_neg (fun e => h_102 e.1)]
                    exact ⟨by simp (disch := omega) only [ms_same, upd_at]; exact k5, hA1⟩
                  · skip
                    refine r_aload_n (i := 0) d_Reader_takeOperator_105 rfl rfl ?_
                    refine r_geti nf_Reader_26 lc_3 rfl d_Reader_takeOperator_106 ?_
                    refine r_if_ne 120 d_Reader_takeOperator_109 (by decide) (fun h_109 => ?_) (fun h_109 => ?_)
                    · skip
                      refine r_aload_n (i := 0) d_Reader_takeOperator_120 rfl rfl ?_
                      refine r_aload_n (i := 0) d_Reader_takeOperator_121 rfl rfl ?_
                      refine r_geti nf_Reader_33 lc_3 rfl d_Reader_takeOperator_122 ?_
                      refine r_puti nf_Reader_36 nfin_Reader_6 lc_3 rfl d_Reader_takeOperator_125 ?_
                      refine r_vret rfl d_Reader_takeOperator_128 ?_
                      have hno : ¬ (c = 41 ∧ w.1 ≠ []) := by
                        intro q
                        have : 0 < w.1.length := List.length_pos_iff.mpr q.2
                        rw [hP.1] at h_74
                        exact nI_nle this (by have := hok.2.1; omega) h_74
                      have hne : ¬ (c = -1 ∧ w.1 = []) := by
                        intro q
                        rw [hP.1, q.2] at h_109
                        exact h_109 rfl
                      refine ⟨rfl, fun e e1 e2 e3 e4 e5 e6 e7 e8 e9 => by simp (disch := omega) only [ms_ne]; exact hF e e1 e2 e3 e4 e5 e6 e7 e8 e9, ?_⟩
                      unfold cstO
                      rw [show stl (if o_bin c then o_grip c else 1) a.2.2.1 a.2.2.2.1 a.2.2.2.2 = .inr w by rw [hbin, if_neg (by decide)]; exact hs]
                      simp only [hbin, if_false, Bool.false_eq_true]
                      rw [if_neg (hno), if_neg (hne)]
                      exact ⟨by simp (disch := omega) only [ms_same, upd_at]; exact k5, hA1⟩
                    · skip
                      refine r_aload_n (i := 0) d_Reader_takeOperator_112 rfl rfl ?_
                      refine r_iconst 1 d_Reader_takeOperator_113 ic_1 ?_
                      refine r_putz nf_Reader_43 nfin_Reader_8 (by decide) lc_3 rfl d_Reader_takeOperator_114 ?_
                      refine r_goto 128 d_Reader_takeOperator_117 (by decide) ?_
                      refine r_vret rfl d_Reader_takeOperator_128 ?_
                      have hno : ¬ (c = 41 ∧ w.1 ≠ []) := by
                        intro q
                        have : 0 < w.1.length := List.length_pos_iff.mpr q.2
                        rw [hP.1] at h_74
                        exact nI_nle this (by have := hok.2.1; omega) h_74
                      have hem : w.1 = [] := by
                        rw [hP.1] at h_109
                        have := (nI_eq (b := 0) (by have := hok.2.1; omega) (by omega)).mp h_109
                        exact List.length_eq_zero_iff.mp this
                      refine ⟨rfl, fun e e1 e2 e3 e4 e5 e6 e7 e8 e9 => by simp (disch := omega) only [ms_ne]; exact hF e e1 e2 e3 e4 e5 e6 e7 e8 e9, ?_⟩
                      unfold cstO
                      rw [show stl (if o_bin c then o_grip c else 1) a.2.2.1 a.2.2.2.1 a.2.2.2.2 = .inr w by rw [hbin, if_neg (by decide)]; exact hs]
                      simp only [hbin, if_false, Bool.false_eq_true]
                      rw [if_neg (hno), if_pos ⟨h_102, hem⟩]
                      refine ⟨by simp (disch := omega) only [ms_same, upd_ne]; exact h6, by simp (disch := omega) only [ms_same, upd_at], by simp (disch := omega) only [ms_ne]; exact hP.2.2.2.2.2.1, fun j hj => by simp (disch := omega) only [ms_ne]; exact hP.2.2.2.2.2.2 j hj⟩
                · skip
                  have hne : w.1 ≠ [] := by
                    intro e
                    rw [hP.1, e] at h_74
                    exact h_74 (by decide)
                  refine r_aload_n (i := 0) d_Reader_takeOperator_77 rfl rfl ?_
                  refine r_dup d_Reader_takeOperator_78 rfl ?_
                  refine r_geti nf_Reader_26 lc_3 rfl d_Reader_takeOperator_79 ?_
                  refine r_iconst 1 d_Reader_takeOperator_82 ic_1 ?_
                  refine r_isub d_Reader_takeOperator_83 ?_
                  refine r_puti nf_Reader_26 nfin_Reader_3 lc_3 rfl d_Reader_takeOperator_84 ?_
                  refine r_aload_n (i := 0) d_Reader_takeOperator_87 rfl rfl ?_
                  refine r_dup d_Reader_takeOperator_88 rfl ?_
                  refine r_geti nf_Reader_33 lc_3 rfl d_Reader_takeOperator_89 ?_
                  refine r_iconst 1 d_Reader_takeOperator_92 ic_1 ?_
                  refine r_iadd d_Reader_takeOperator_93 ?_
                  refine r_puti nf_Reader_33 nfin_Reader_5 lc_3 rfl d_Reader_takeOperator_94 ?_
                  refine r_goto 128 d_Reader_takeOperator_97 (by decide) ?_
                  refine r_vret rfl d_Reader_takeOperator_128 ?_
                  refine ⟨rfl, fun e e1 e2 e3 e4 e5 e6 e7 e8 e9 => by simp (disch := omega) only [ms_ne]; exact hF e e1 e2 e3 e4 e5 e6 e7 e8 e9, ?_⟩
                  unfold cstO
                  rw [show stl (if o_bin c then o_grip c else 1) a.2.2.1 a.2.2.2.1 a.2.2.2.2 = .inr w by rw [hbin, if_neg (by decide)]; exact hs]
                  simp only [hbin, if_false, Bool.false_eq_true]
                  rw [if_pos ⟨h_67, hne⟩]
                  obtain ⟨m, r, hmr⟩ : ∃ m r, w.1 = m :: r := by
                    cases hq : w.1 with
                    | nil => exact absurd hq hne
                    | cons m r => exact ⟨m, r, rfl⟩
                  rw [hmr] at hP ⊢
                  have hc := hP.1
                  simp only [List.length_cons] at hc
                  obtain ⟨a1, a2, a3, a4, a5, a6, a7⟩ := hP
                  simp (disch := omega) only [ms_same, ms_ne, upd_ne, hc, nI_pred, k5, nI_1]
                  refine ⟨⟨?_, ?_, ?_, ?_, ?_, ?_, fun j hj => ?_⟩, ?_, ?_, ?_, ?_⟩
                  · simp (disch := omega) only [ms_same, upd_ne, upd_at]; rfl
                  · simp (disch := omega) only [ms_same, upd_ne]; exact a2
                  · simp (disch := omega) only [ms_ne]; exact a3.2
                  · simp (disch := omega) only [ms_ne]; exact a4.2
                  · simp (disch := omega) only [ms_ne]; exact a5
                  · simp (disch := omega) only [ms_ne]; exact a6
                  · simp (disch := omega) only [ms_ne]; exact a7 j hj
                  · simp (disch := omega) only [ms_same, upd_at]
                  · simp (disch := omega) only [ms_same, upd_ne]; exact h6
                  · simp (disch := omega) only [ms_same, upd_ne]; rw [k7, hdue]
                  · simp (disch := omega) only [ms_same, upd_ne]; exact k8
            · exact absurd h_48 (by decide)
          · skip
            exact absurd h6 h_43
      · exact absurd h_22 (by decide)
    · skip
      rw [bI_t] at h_11
      have hgo : o_sum c = true ∨ o_prod c = true := Or.inr h_11
      have hbin : o_bin c = true := by simp [o_bin, h_11]
      refine r_iconst 1 d_Reader_takeOperator_14 ic_1 ?_
      refine r_goto 19 d_Reader_takeOperator_15 (by decide) ?_
      refine r_istore_n (i := 3) d_Reader_takeOperator_19 rfl (Nat.le_of_ble_eq_true rfl) rfl ?_
      dsimp only [List.set]
      refine r_aload_n (i := 0) d_Reader_takeOperator_20 rfl rfl ?_
      refine r_iload_n (i := 3) d_Reader_takeOperator_21 rfl rfl ?_
      refine r_if_eq 32 d_Reader_takeOperator_22 (by decide) (fun h_22 => ?_) (fun h_22 => ?_)
      · exact absurd h_22 (by decide)
      · skip
        have hgp : 0 < o_grip c := by
          have : ∀ s p : Bool, (s = true ∨ p = true) → (0 : Int32) < (if c = 126 then 3 else if p then 2 else if s then 1 else 0) := by
            intro s p h
            split
            · decide
            · cases p <;> cases s <;> simp at h ⊢ <;> decide
          exact this _ _ hgo
        have hcne : c ≠ -1 := by
          intro e
          rw [e] at hbin
          exact absurd hbin (by decide)
        have hlt : a.1 < len := hcl.resolve_right hcne
        refine r_iload_n (i := 1) d_Reader_takeOperator_25 rfl rfl ?_
        refine r_S1 f_Ops_grip w_421 (c_Ops_grip _ _ ) (Nat.le_of_ble_eq_true rfl) (Nat.le_of_ble_eq_true rfl) d_Reader_takeOperator_26 ?_
        refine r_goto 33 d_Reader_takeOperator_29 (by decide) ?_
        refine r_aload_n (i := 2) d_Reader_takeOperator_33 rfl rfl ?_
        refine r_W2 v_Reader_settle w_426 lc_3 (c_Reader_settle hlen (g := o_grip c) hgp hA.2.2.1 (by have := hA.2.1; have := hA.1; omega) (by rw [hA.2.2.2.1, hdue]; rfl) hA.2.2.2.2 hR.2.2.1 hR.1) (Nat.le_of_ble_eq_true rfl) (Nat.le_of_ble_eq_true rfl) d_Reader_takeOperator_34 (fun v N hv => ?_)
        obtain ⟨rfl, hF, hK, hD⟩ := hv
        have k5 : N 3 5 = nI a.1 := hK.1.trans hR.2.1
        have k7 : N 3 7 = bI a.2.1 := hK.2.1.trans hR.2.2.2.1
        have k8 : N 3 8 = 0 := hK.2.2.trans hR.2.2.2.2
        rcases hD with ⟨f, hs, hf, h6⟩ | ⟨w, hs, h6, hP⟩
        · skip
          skip
          refine r_aload_n (i := 0) d_Reader_takeOperator_37 rfl rfl ?_
          refine r_geti nf_Reader_36 lc_3 rfl d_Reader_takeOperator_38 ?_
          refine r_bipush (-9) d_Reader_takeOperator_41 bp_m9 ?_
          skip
          refine r_icmp_eq 47 d_Reader_takeOperator_43 (by decide) (fun h_43 => ?_) (fun h_43 => ?_)
          · skip
            exact absurd (h6.symm.trans h_43) (nI_ne9 (by have := hA.1; omega))
          · skip
            refine r_vret rfl d_Reader_takeOperator_46 ⟨rfl, hF, ?_⟩
            unfold cstO
            rw [show stl (if o_bin c then o_grip c else 1) a.2.2.1 a.2.2.2.1 a.2.2.2.2 = .inl f by rw [if_pos hbin]; exact hs]
            have := hA.1
            exact ⟨h6, by omega⟩
        · skip
          have hok := stl_ok a.2.2.1 a.2.2.2.1 a.2.2.2.2 hA.2.2.1 (g := o_grip c) hgp (by rw [hA.2.2.2.1, hdue]; rfl) hA.2.2.2.2 w hs
          have hA1 := hA.1
          have hA2 := hA.2.1
          refine r_aload_n (i := 0) d_Reader_takeOperator_37 rfl rfl ?_
          refine r_geti nf_Reader_36 lc_3 rfl d_Reader_takeOperator_38 ?_
          refine r_bipush (-9) d_Reader_takeOperator_41 bp_m9 ?_
          skip
          refine r_icmp_eq 47 d_Reader_takeOperator_43 (by decide) (fun h_43 => ?_) (fun h_43 => ?_)
          · skip
            refine r_iload_n (i := 3) d_Reader_takeOperator_47 rfl rfl ?_
            refine r_if_eq 64 d_Reader_takeOperator_48 (by decide) (fun h_48 => ?_) (fun h_48 => ?_)
            · exact absurd h_48 (by decide)
            · skip
              refine r_aload_n (i := 0) d_Reader_takeOperator_51 rfl rfl ?_
              refine r_iload_n (i := 1) d_Reader_takeOperator_52 rfl rfl ?_
              refine r_W1 v_Reader_pile w_385 lc_3 (c_Reader_pile _ hP k5 (by omega)) (Nat.le_of_ble_eq_true rfl) (Nat.le_of_ble_eq_true rfl) d_Reader_takeOperator_53 (fun v N2 hv2 => ?_)
              obtain ⟨rfl, hF2, l6, l7, l8, l5, lP⟩ := hv2
              refine r_aload_n (i := 0) d_Reader_takeOperator_56 rfl rfl ?_
              refine r_iconst 1 d_Reader_takeOperator_57 ic_1 ?_
              refine r_putz nf_Reader_39 nfin_Reader_7 (by decide) lc_3 rfl d_Reader_takeOperator_58 ?_
              refine r_goto 128 d_Reader_takeOperator_61 (by decide) ?_
              refine r_vret rfl d_Reader_takeOperator_128 ?_
              have hF3 := RF.tr hF hF2
              refine ⟨rfl, fun e e1 e2 e3 e4 e5 e6 e7 e8 e9 => by simp (disch := omega) only [ms_ne]; exact hF3 e e1 e2 e3 e4 e5 e6 e7 e8 e9, ?_⟩
              unfold cstO
              rw [show stl (if o_bin c then o_grip c else 1) a.2.2.1 a.2.2.2.1 a.2.2.2.2 = .inr w by rw [if_pos hbin]; exact hs]
              simp only [hbin, if_true]
              obtain ⟨a1, a2, a3, a4, a5, a6, a7⟩ := lP
              refine ⟨⟨?_, ?_, ?_, ?_, ?_, ?_, fun j hj => ?_⟩, ?_, ?_, ?_, ?_⟩
              · simp (disch := omega) only [ms_same, upd_ne]; exact a1
              · simp (disch := omega) only [ms_same, upd_ne]; exact a2
              · simp (disch := omega) only [ms_ne]; exact a3
              · simp (disch := omega) only [ms_ne]; exact a4
              · simp (disch := omega) only [ms_ne]; exact a5
              · simp (disch := omega) only [ms_ne]; exact a6
              · simp (disch := omega) only [ms_ne]; exact a7 j hj
              · simp (disch := omega) only [ms_same, upd_ne]; exact l5
              · simp (disch := omega) only [ms_same, upd_ne]; exact l6.trans h6
              · simp (disch := omega) only [ms_same, upd_at]; rfl
              · simp (disch := omega) only [ms_same, upd_ne]; exact l8.trans k8
          · skip
            exact absurd h6 h_43

end MRdr3
