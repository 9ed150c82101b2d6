-- Acts, Image
theorem ic_rem {a : Nat} (h : a < 2 ^ 31) : nI a - nI a / 10 * 10 = nI (a % 10) := pk_rem (d := 10) h (by omega) (by omega)
def acM (M : nw_M) (p q : Nat) (kind place number : Int32) : nw_M := ms (ms (ms (ms M 101 (upd (upd (M 101) 4 (nI p)) 5 (nI q))) 103 (upd (M 103) p kind)) 105 (upd (M 105) p place)) 107 (upd (M 107) p number)
theorem nI_min10 {q : Nat} (h : q ≤ 10) : (if (10 : Int32) < nI q + 1 then (10 : Int32) else nI q + 1) = nI (min (q + 1) 10) := by
  rw [nI_1]
  have e : (10 : Int32) < nI (q + 1) ↔ 10 < q + 1 := nI_ltI (a := 10) (b := q + 1) (by omega) (by omega)
  by_cases h1 : 10 < q + 1
  · rw [if_pos (e.mpr h1), Nat.min_eq_right (by omega)]; rfl
  · rw [if_neg (fun z => h1 (e.mp z)), Nat.min_eq_left (by omega)]
section MActs
variable {G : nw_G}
theorem c_Acts_forget (M : nw_M) : CF G LC m_Acts_forget 0 [.ref (G.2.2 101)] M none (ms M 101 (upd (M 101) 5 0)) := by
  refine CJ_of (by decide) rfl (Nat.le_of_ble_eq_true rfl) ?_
  refine r_aload_n (i := 0) d_Acts_forget_0 rfl rfl ?_
  refine r_iconst 0 d_Acts_forget_1 ic_0 ?_
  refine r_puti nf_Acts_29 nfin_Acts_5 lc_101 rfl d_Acts_forget_2 ?_
  refine r_vret rfl d_Acts_forget_5 ?_
  exact ⟨rfl, rfl⟩

theorem c_Acts_add (p q : Nat) (hp : p < 10) (hq : q ≤ 10) (kind place number : Int32) (M : nw_M) (h4 : M 101 4 = nI p) (h5 : M 101 5 = nI q) : CF G LC m_Acts_add 1 [.ref (G.2.2 101), .int kind, .int place, .int number] M none (acM M ((p + 1) % 10) (min (q + 1) 10) kind place number) := by
  refine CJ_of (by decide) rfl (Nat.le_of_ble_eq_true rfl) ?_
  refine r_aload_n (i := 0) d_Acts_add_0 rfl rfl ?_
  refine r_aload_n (i := 0) d_Acts_add_1 rfl rfl ?_
  refine r_geti nf_Acts_37 lc_101 rfl d_Acts_add_2 ?_
  refine r_iconst 1 d_Acts_add_5 ic_1 ?_
  refine r_iadd d_Acts_add_6 ?_
  refine r_bipush 10 d_Acts_add_7 bp_10 ?_
  refine r_irem d_Acts_add_9 (by decide) ?_
  rw [h4, nI_1, ic_rem (by omega)]
  refine r_puti nf_Acts_37 nfin_Acts_4 lc_101 rfl d_Acts_add_10 ?_
  refine r_aload_n (i := 0) d_Acts_add_13 rfl rfl ?_
  refine r_aload_n (i := 0) d_Acts_add_14 rfl rfl ?_
  refine r_geti nf_Acts_29 lc_101 rfl d_Acts_add_15 ?_
  refine r_iconst 1 d_Acts_add_18 ic_1 ?_
  refine r_iadd d_Acts_add_19 ?_
  refine r_bipush 10 d_Acts_add_20 bp_10 ?_
  refine r_mmin w_719 (Nat.le_of_ble_eq_true rfl) (Nat.le_of_ble_eq_true rfl) d_Acts_add_22 ?_
  simp (disch := omega) only [ms_same, ms_ne, upd_at, upd_ne, h5]
  refine r_puti nf_Acts_29 nfin_Acts_5 lc_101 rfl d_Acts_add_25 ?_
  refine r_aload_n (i := 0) d_Acts_add_28 rfl rfl ?_
  refine r_getr nf_Acts_14 lc_101 rfl d_Acts_add_29 ?_
  refine r_aload_n (i := 0) d_Acts_add_32 rfl rfl ?_
  refine r_geti nf_Acts_37 lc_101 rfl d_Acts_add_33 ?_
  refine r_iload_n (i := 1) d_Acts_add_36 rfl rfl ?_
  refine r_V2 v_Row_put w_720 row_102.1 (c_Row_put row_102 _ _ _ ) (Nat.le_of_ble_eq_true rfl) (Nat.le_of_ble_eq_true rfl) d_Acts_add_37 ?_
  refine r_aload_n (i := 0) d_Acts_add_40 rfl rfl ?_
  refine r_getr nf_Acts_20 lc_101 rfl d_Acts_add_41 ?_
  refine r_aload_n (i := 0) d_Acts_add_44 rfl rfl ?_
  refine r_geti nf_Acts_37 lc_101 rfl d_Acts_add_45 ?_
  refine r_iload_n (i := 2) d_Acts_add_48 rfl rfl ?_
  refine r_V2 v_Row_put w_720 row_104.1 (c_Row_put row_104 _ _ _ ) (Nat.le_of_ble_eq_true rfl) (Nat.le_of_ble_eq_true rfl) d_Acts_add_49 ?_
  refine r_aload_n (i := 0) d_Acts_add_52 rfl rfl ?_
  refine r_getr nf_Acts_23 lc_101 rfl d_Acts_add_53 ?_
  refine r_aload_n (i := 0) d_Acts_add_56 rfl rfl ?_
  refine r_geti nf_Acts_37 lc_101 rfl d_Acts_add_57 ?_
  refine r_iload_n (i := 3) d_Acts_add_60 rfl rfl ?_
  refine r_V2 v_Row_put w_720 row_106.1 (c_Row_put row_106 _ _ _ ) (Nat.le_of_ble_eq_true rfl) (Nat.le_of_ble_eq_true rfl) d_Acts_add_61 ?_
  refine r_vret rfl d_Acts_add_64 ?_
  refine ⟨rfl, ?_⟩
  have hlt := Nat.mod_lt (p + 1) (show 10 > 0 by decide)
  first | rw [nI_min10 hq] | skip
  unfold acM
  simp (disch := omega) only [ms_same, ms_ne, upd_at, upd_ne, rp_nI, rg_nI, ms_ms]

theorem c_Acts_addExchange (p q : Nat) (hp : p < 10) (hq : q ≤ 10) (k : Int32) (M : nw_M) (h4 : M 101 4 = nI p) (h5 : M 101 5 = nI q) : CF G LC m_Acts_addExchange 2 [.ref (G.2.2 101), .int k] M none (acM M ((p + 1) % 10) (min (q + 1) 10) 0 k 0) := by
  refine CJ_of (by decide) rfl (Nat.le_of_ble_eq_true rfl) ?_
  refine r_aload_n (i := 0) d_Acts_addExchange_0 rfl rfl ?_
  refine r_iconst 0 d_Acts_addExchange_1 ic_0 ?_
  refine r_iload_n (i := 1) d_Acts_addExchange_2 rfl rfl ?_
  refine r_iconst 0 d_Acts_addExchange_3 ic_0 ?_
  refine r_V3 v_Acts_add w_715 lc_101 (c_Acts_add p q hp hq _ _ _ _ h4 h5) (Nat.le_of_ble_eq_true rfl) (Nat.le_of_ble_eq_true rfl) d_Acts_addExchange_4 ?_
  refine r_vret rfl d_Acts_addExchange_7 ?_
  exact ⟨rfl, rfl⟩

theorem c_Acts_addLet (p q : Nat) (hp : p < 10) (hq : q ≤ 10) (k v : Int32) (M : nw_M) (h4 : M 101 4 = nI p) (h5 : M 101 5 = nI q) : CF G LC m_Acts_addLet 2 [.ref (G.2.2 101), .int k, .int v] M none (acM M ((p + 1) % 10) (min (q + 1) 10) 1 k v) := by
  refine CJ_of (by decide) rfl (Nat.le_of_ble_eq_true rfl) ?_
  refine r_aload_n (i := 0) d_Acts_addLet_0 rfl rfl ?_
  refine r_iconst 1 d_Acts_addLet_1 ic_1 ?_
  refine r_iload_n (i := 1) d_Acts_addLet_2 rfl rfl ?_
  refine r_iload_n (i := 2) d_Acts_addLet_3 rfl rfl ?_
  refine r_V3 v_Acts_add w_715 lc_101 (c_Acts_add p q hp hq _ _ _ _ h4 h5) (Nat.le_of_ble_eq_true rfl) (Nat.le_of_ble_eq_true rfl) d_Acts_addLet_4 ?_
  refine r_vret rfl d_Acts_addLet_7 ?_
  exact ⟨rfl, rfl⟩

theorem ix5 (p i : Nat) : nI p * 5 + nI i = nI (p * 5 + i) := by rw [show (5 : Int32) = nI 5 from rfl, pk_mul, nI_add]
theorem l_Acts_addMachine {c b p : Nat} (h : isRow c b 5) (hb : b < 101) (hp : p < 10) (M1 : nw_M) (h4 : M1 101 4 = nI p) {P : Option Value → nw_M → Prop} (hP : P none (ms M1 109 (pt (M1 109) (M1 b) (p * 5) 5))) : ∀ (m i : Nat), i + m = 5 → RJ G LC m_Acts_addMachine 2 P 9 [some (.ref (G.2.2 101)), some (.ref (G.2.2 c)), some (.int (nI i))] [] (ms M1 109 (pt (M1 109) (M1 b) (p * 5) i)) := by
  intro m
  induction m with
  | zero =>
    intro i hi
    simp only [Nat.add_zero] at hi
    subst hi
    refine r_iload_n (i := 2) d_Acts_addMachine_9 rfl rfl ?_
    refine r_iconst 5 d_Acts_addMachine_10 ic_5 ?_
    refine r_icmp_ge 40 d_Acts_addMachine_11 (by decide) (fun _ => ?_) (fun h9 => absurd (show (5 : Int32) ≤ nI 5 by decide) h9)
    exact r_vret rfl d_Acts_addMachine_40 hP
  | succ m ih =>
    intro i hi
    refine r_iload_n (i := 2) d_Acts_addMachine_9 rfl rfl ?_
    refine r_iconst 5 d_Acts_addMachine_10 ic_5 ?_
    refine r_icmp_ge 40 d_Acts_addMachine_11 (by decide) (fun h_11 => ?_) (fun h_11 => ?_)
    · skip
      exact absurd (show nI 5 ≤ nI i from h_11) (nI_ge (by omega) (by omega))
    · skip
      refine r_aload_n (i := 0) d_Acts_addMachine_14 rfl rfl ?_
      refine r_getr nf_Acts_26 lc_101 rfl d_Acts_addMachine_15 ?_
      refine r_aload_n (i := 0) d_Acts_addMachine_18 rfl rfl ?_
      refine r_geti nf_Acts_37 lc_101 rfl d_Acts_addMachine_19 ?_
      refine r_iconst 5 d_Acts_addMachine_22 ic_5 ?_
      refine r_imul d_Acts_addMachine_23 ?_
      refine r_iload_n (i := 2) d_Acts_addMachine_24 rfl rfl ?_
      refine r_iadd d_Acts_addMachine_25 ?_
      refine r_aload_n (i := 1) d_Acts_addMachine_26 rfl rfl ?_
      refine r_iload_n (i := 2) d_Acts_addMachine_27 rfl rfl ?_
      refine r_V1 v_Row_get w_754 h.1 (c_Row_get h _ _ ) (Nat.le_of_ble_eq_true rfl) (Nat.le_of_ble_eq_true rfl) d_Acts_addMachine_28 ?_
      simp (disch := omega) only [ms_same, ms_ne, h4, ix5, rg_nI]
      refine r_V2 v_Row_put w_720 row_108.1 (c_Row_put row_108 _ _ _ ) (Nat.le_of_ble_eq_true rfl) (Nat.le_of_ble_eq_true rfl) d_Acts_addMachine_31 ?_
      refine r_iinc d_Acts_addMachine_34 rfl (nI_inc i) (Nat.le_of_ble_eq_true rfl) rfl ?_
      refine r_goto 9 d_Acts_addMachine_37 (by decide) ?_
      refine r_eq rfl rfl ?_ (ih (i + 1) (by omega))
      simp (disch := omega) only [ms_same, ms_ne, rp_nI, ms_ms]
      rw [pt_s _ _ _ _ rfl]

theorem c_Acts_addMachine {c b : Nat} (h : isRow c b 5) (hb : b < 101) (p q : Nat) (hp : p < 10) (hq : q ≤ 10) (M : nw_M) (h4 : M 101 4 = nI p) (h5 : M 101 5 = nI q) : CF G LC m_Acts_addMachine 2 [.ref (G.2.2 101), .ref (G.2.2 c)] M none (ms (acM M ((p + 1) % 10) (min (q + 1) 10) 2 0 0) 109 (pt (M 109) (M b) ((p + 1) % 10 * 5) 5)) := by
  refine CJ_of (by decide) rfl (Nat.le_of_ble_eq_true rfl) ?_
  refine r_aload_n (i := 0) d_Acts_addMachine_0 rfl rfl ?_
  refine r_iconst 2 d_Acts_addMachine_1 ic_2 ?_
  refine r_iconst 0 d_Acts_addMachine_2 ic_0 ?_
  refine r_iconst 0 d_Acts_addMachine_3 ic_0 ?_
  refine r_V3 v_Acts_add w_715 lc_101 (c_Acts_add p q hp hq _ _ _ _ h4 h5) (Nat.le_of_ble_eq_true rfl) (Nat.le_of_ble_eq_true rfl) d_Acts_addMachine_4 ?_
  refine r_iconst 0 d_Acts_addMachine_7 ic_0 ?_
  refine r_istore_n (i := 2) d_Acts_addMachine_8 rfl (Nat.le_of_ble_eq_true rfl) rfl ?_
  have hlt := Nat.mod_lt (p + 1) (show 10 > 0 by decide)
  have e9 : acM M ((p + 1) % 10) (min (q + 1) 10) 2 0 0 109 = M 109 := by unfold acM; simp (disch := omega) only [ms_ne]
  have eb : acM M ((p + 1) % 10) (min (q + 1) 10) 2 0 0 b = M b := by unfold acM; simp (disch := omega) only [ms_ne]
  refine r_eq rfl rfl ?_ (l_Acts_addMachine h hb hlt (acM M ((p + 1) % 10) (min (q + 1) 10) 2 0 0) (by unfold acM; simp (disch := omega) only [ms_same, ms_ne, upd_at, upd_ne]) ?_ 5 0 (by omega))
  · rw [pt_0, ms_self]
  · rw [e9, eb]
    exact ⟨rfl, rfl⟩

theorem c_Acts_latestKind (p : Nat) (hp : p < 10) (M : nw_M) (h4 : M 101 4 = nI p) : CF G LC m_Acts_latestKind 1 [.ref (G.2.2 101)] M (some (.int (M 103 p))) M := by
  refine CJ_of (by decide) rfl (Nat.le_of_ble_eq_true rfl) ?_
  refine r_aload_n (i := 0) d_Acts_latestKind_0 rfl rfl ?_
  refine r_getr nf_Acts_14 lc_101 rfl d_Acts_latestKind_1 ?_
  refine r_aload_n (i := 0) d_Acts_latestKind_4 rfl rfl ?_
  refine r_geti nf_Acts_37 lc_101 rfl d_Acts_latestKind_5 ?_
  refine r_V1 v_Row_get w_754 row_102.1 (c_Row_get row_102 _ _ ) (Nat.le_of_ble_eq_true rfl) (Nat.le_of_ble_eq_true rfl) d_Acts_latestKind_8 ?_
  refine r_iret rfl d_Acts_latestKind_11 ?_
  exact ⟨by simp (disch := omega) only [h4, rg_nI], rfl⟩

theorem c_Acts_latestPlace (p : Nat) (hp : p < 10) (M : nw_M) (h4 : M 101 4 = nI p) : CF G LC m_Acts_latestPlace 1 [.ref (G.2.2 101)] M (some (.int (M 105 p))) M := by
  refine CJ_of (by decide) rfl (Nat.le_of_ble_eq_true rfl) ?_
  refine r_aload_n (i := 0) d_Acts_latestPlace_0 rfl rfl ?_
  refine r_getr nf_Acts_20 lc_101 rfl d_Acts_latestPlace_1 ?_
  refine r_aload_n (i := 0) d_Acts_latestPlace_4 rfl rfl ?_
  refine r_geti nf_Acts_37 lc_101 rfl d_Acts_latestPlace_5 ?_
  refine r_V1 v_Row_get w_754 row_104.1 (c_Row_get row_104 _ _ ) (Nat.le_of_ble_eq_true rfl) (Nat.le_of_ble_eq_true rfl) d_Acts_latestPlace_8 ?_
  refine r_iret rfl d_Acts_latestPlace_11 ?_
  exact ⟨by simp (disch := omega) only [h4, rg_nI], rfl⟩

theorem c_Acts_latestNumber (p : Nat) (hp : p < 10) (M : nw_M) (h4 : M 101 4 = nI p) : CF G LC m_Acts_latestNumber 1 [.ref (G.2.2 101)] M (some (.int (M 107 p))) M := by
  refine CJ_of (by decide) rfl (Nat.le_of_ble_eq_true rfl) ?_
  refine r_aload_n (i := 0) d_Acts_latestNumber_0 rfl rfl ?_
  refine r_getr nf_Acts_23 lc_101 rfl d_Acts_latestNumber_1 ?_
  refine r_aload_n (i := 0) d_Acts_latestNumber_4 rfl rfl ?_
  refine r_geti nf_Acts_37 lc_101 rfl d_Acts_latestNumber_5 ?_
  refine r_V1 v_Row_get w_754 row_106.1 (c_Row_get row_106 _ _ ) (Nat.le_of_ble_eq_true rfl) (Nat.le_of_ble_eq_true rfl) d_Acts_latestNumber_8 ?_
  refine r_iret rfl d_Acts_latestNumber_11 ?_
  exact ⟨by simp (disch := omega) only [h4, rg_nI], rfl⟩

theorem l_Acts_tellMachine {c b p : Nat} (h : isRow c b 5) (hb : b < 101) (hp : p < 10) (M1 : nw_M) (h4 : M1 101 4 = nI p) {P : Option Value → nw_M → Prop} (hP : P none (ms M1 b (pt (M1 b) (fun d => M1 109 (p * 5 + d)) 0 5))) : ∀ (m i : Nat), i + m = 5 → RJ G LC m_Acts_tellMachine 2 P 2 [some (.ref (G.2.2 101)), some (.ref (G.2.2 c)), some (.int (nI i))] [] (ms M1 b (pt (M1 b) (fun d => M1 109 (p * 5 + d)) 0 i)) := by
  intro m
  induction m with
  | zero =>
    intro i hi
    simp only [Nat.add_zero] at hi
    subst hi
    refine r_iload_n (i := 2) d_Acts_tellMachine_2 rfl rfl ?_
    refine r_iconst 5 d_Acts_tellMachine_3 ic_5 ?_
    refine r_icmp_ge 33 d_Acts_tellMachine_4 (by decide) (fun _ => ?_) (fun h9 => absurd (show (5 : Int32) ≤ nI 5 by decide) h9)
    exact r_vret rfl d_Acts_tellMachine_33 hP
  | succ m ih =>
    intro i hi
    refine r_iload_n (i := 2) d_Acts_tellMachine_2 rfl rfl ?_
    refine r_iconst 5 d_Acts_tellMachine_3 ic_5 ?_
    refine r_icmp_ge 33 d_Acts_tellMachine_4 (by decide) (fun h_4 => ?_) (fun h_4 => ?_)
    · skip
      exact absurd (show nI 5 ≤ nI i from h_4) (nI_ge (by omega) (by omega))
    · skip
      refine r_aload_n (i := 1) d_Acts_tellMachine_7 rfl rfl ?_
      refine r_iload_n (i := 2) d_Acts_tellMachine_8 rfl rfl ?_
      refine r_aload_n (i := 0) d_Acts_tellMachine_9 rfl rfl ?_
      refine r_getr nf_Acts_26 lc_101 rfl d_Acts_tellMachine_10 ?_
      refine r_aload_n (i := 0) d_Acts_tellMachine_13 rfl rfl ?_
      refine r_geti nf_Acts_37 lc_101 rfl d_Acts_tellMachine_14 ?_
      refine r_iconst 5 d_Acts_tellMachine_17 ic_5 ?_
      refine r_imul d_Acts_tellMachine_18 ?_
      refine r_iload_n (i := 2) d_Acts_tellMachine_19 rfl rfl ?_
      refine r_iadd d_Acts_tellMachine_20 ?_
      simp (disch := omega) only [ms_same, ms_ne, h4, ix5]
      refine r_V1 v_Row_get w_754 row_108.1 (c_Row_get row_108 _ _ ) (Nat.le_of_ble_eq_true rfl) (Nat.le_of_ble_eq_true rfl) d_Acts_tellMachine_21 ?_
      refine r_V2 v_Row_put w_720 h.1 (c_Row_put h _ _ _ ) (Nat.le_of_ble_eq_true rfl) (Nat.le_of_ble_eq_true rfl) d_Acts_tellMachine_24 ?_
      refine r_iinc d_Acts_tellMachine_27 rfl (nI_inc i) (Nat.le_of_ble_eq_true rfl) rfl ?_
      refine r_goto 2 d_Acts_tellMachine_30 (by decide) ?_
      refine r_eq rfl rfl ?_ (ih (i + 1) (by omega))
      simp (disch := omega) only [ms_same, ms_ne, rp_nI, ms_ms, rg_nI]
      have e := pt_s (M1 b) (fun d => M1 109 (p * 5 + d)) 0 i (x := M1 109 (p * 5 + i)) rfl
      rw [Nat.zero_add] at e
      rw [e]

theorem c_Acts_tellMachine {c b : Nat} (h : isRow c b 5) (hb : b < 101) (p : Nat) (hp : p < 10) (M : nw_M) (h4 : M 101 4 = nI p) : CF G LC m_Acts_tellMachine 2 [.ref (G.2.2 101), .ref (G.2.2 c)] M none (ms M b (pt (M b) (fun d => M 109 (p * 5 + d)) 0 5)) := by
  refine CJ_of (by decide) rfl (Nat.le_of_ble_eq_true rfl) ?_
  refine r_iconst 0 d_Acts_tellMachine_0 ic_0 ?_
  refine r_istore_n (i := 2) d_Acts_tellMachine_1 rfl (Nat.le_of_ble_eq_true rfl) rfl ?_
  refine r_eq rfl rfl ?_ (l_Acts_tellMachine h hb hp M h4 ⟨rfl, rfl⟩ 5 0 (by omega))
  rw [pt_0, ms_self]

theorem c_Acts_drop (p q : Nat) (hp : p < 10) (M : nw_M) (h4 : M 101 4 = nI p) (h5 : M 101 5 = nI (q + 1)) : CF G LC m_Acts_drop 0 [.ref (G.2.2 101)] M none (ms M 101 (upd (upd (M 101) 4 (nI ((p + 9) % 10))) 5 (nI q))) := by
  refine CJ_of (by decide) rfl (Nat.le_of_ble_eq_true rfl) ?_
  refine r_aload_n (i := 0) d_Acts_drop_0 rfl rfl ?_
  refine r_aload_n (i := 0) d_Acts_drop_1 rfl rfl ?_
  refine r_geti nf_Acts_37 lc_101 rfl d_Acts_drop_2 ?_
  refine r_bipush 10 d_Acts_drop_5 bp_10 ?_
  refine r_iadd d_Acts_drop_7 ?_
  refine r_iconst 1 d_Acts_drop_8 ic_1 ?_
  refine r_isub d_Acts_drop_9 ?_
  refine r_bipush 10 d_Acts_drop_10 bp_10 ?_
  refine r_irem d_Acts_drop_12 (by decide) ?_
  rw [h4, show nI p + 10 - 1 = nI (p + 9) from by rw [show (10 : Int32) = nI 10 from rfl, nI_add]; exact nI_pred (p + 9), ic_rem (by omega)]
  refine r_puti nf_Acts_37 nfin_Acts_4 lc_101 rfl d_Acts_drop_13 ?_
  refine r_aload_n (i := 0) d_Acts_drop_16 rfl rfl ?_
  refine r_dup d_Acts_drop_17 rfl ?_
  refine r_geti nf_Acts_29 lc_101 rfl d_Acts_drop_18 ?_
  refine r_iconst 1 d_Acts_drop_21 ic_1 ?_
  refine r_isub d_Acts_drop_22 ?_
  refine r_puti nf_Acts_29 nfin_Acts_5 lc_101 rfl d_Acts_drop_23 ?_
  refine r_vret rfl d_Acts_drop_26 ?_
  refine ⟨rfl, ?_⟩
  simp (disch := omega) only [ms_same, ms_ne, upd_at, upd_ne, ms_ms, h5, nI_pred]

/-- one image as another: its tree, NAMES, THE MACHINE -/
def ICp (i i2 : Nat) (M N : nw_M) : Prop := ∃ N1 : nw_M, TCp (i + 1) (i2 + 1) M N1 ∧ N = ms (ms N1 (i + 21) (cp 8 (M (i2 + 21)) (M (i + 21)))) (i + 23) (cp 5 (M (i2 + 23)) (M (i + 23)))
theorem c_Image_copy {i i2 : Nat} (h : isImage i) (h2 : isImage i2) (M : nw_M) (ha : i + 23 < i2 ∨ i2 + 23 < i) : CJ G LC m_Image_copy 4 [.ref (G.2.2 i), .ref (G.2.2 i2)] M (fun v N => v = none ∧ ICp i i2 M N) := by
  refine CJ_of (by decide) rfl (Nat.le_of_ble_eq_true rfl) ?_
  refine r_aload_n (i := 0) d_Image_copy_0 rfl rfl ?_
  refine r_getr nf_Image_12 h.1 rfl d_Image_copy_1 ?_
  refine r_aload_n (i := 1) d_Image_copy_4 rfl rfl ?_
  refine r_getr nf_Image_12 h2.1 rfl d_Image_copy_5 ?_
  refine r_W1 v_Tree_copy w_816 (isImage.tree h).1 (c_Tree_copy h.tree h2.tree _ (by unfold apt; omega)) (Nat.le_of_ble_eq_true rfl) (Nat.le_of_ble_eq_true rfl) d_Image_copy_8 (fun v N1 hv => ?_)
  obtain ⟨rfl, hC⟩ := hv
  refine r_aload_n (i := 0) d_Image_copy_11 rfl rfl ?_
  refine r_getr nf_Image_23 h.1 rfl d_Image_copy_12 ?_
  refine r_aload_n (i := 1) d_Image_copy_15 rfl rfl ?_
  refine r_getr nf_Image_23 h2.1 rfl d_Image_copy_16 ?_
  refine r_V1 v_Row_copy w_817 (isImage.names h).1 (c_Row_copy (isImage.names h) (isImage.names h2) _ ) (Nat.le_of_ble_eq_true rfl) (Nat.le_of_ble_eq_true rfl) d_Image_copy_19 ?_
  refine r_aload_n (i := 0) d_Image_copy_22 rfl rfl ?_
  refine r_getr nf_Image_27 h.1 rfl d_Image_copy_23 ?_
  refine r_aload_n (i := 1) d_Image_copy_26 rfl rfl ?_
  refine r_getr nf_Image_27 h2.1 rfl d_Image_copy_27 ?_
  refine r_V1 v_Row_copy w_817 (isImage.machine h).1 (c_Row_copy (isImage.machine h) (isImage.machine h2) _ ) (Nat.le_of_ble_eq_true rfl) (Nat.le_of_ble_eq_true rfl) d_Image_copy_30 ?_
  refine r_vret rfl d_Image_copy_33 ?_
  refine ⟨rfl, N1, hC, ?_⟩
  have e1 := hC.1 (i + 21) (by omega)
  have e2 := hC.1 (i + 23) (by omega)
  have e3 := hC.1 (i2 + 21) (by omega)
  have e4 := hC.1 (i2 + 23) (by omega)
  simp (disch := omega) only [ms_same, ms_ne, e1, e2, e3, e4]

end MActs
