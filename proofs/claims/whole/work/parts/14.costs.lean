-- Costs
def offr (a : Nat × Nat) (w : Nat) (may : Bool) (p : Nat) : Nat × Nat := if may && (a.1 == 0 || decide (p < a.2)) then (w, p) else a
def OfR (a : Nat × Nat) (x y : Int32) : Prop := x = nI a.1 ∧ (a.1 = 0 ∨ y = nI a.2) ∧ a.1 < 7 ∧ a.2 < 2 ^ 30
/-- the machine: 0 REGISTERS, 1 LOAD, 2 STORE, 3 OP, 4 OPM -/
def MOK (mc : Nat → Nat) : Prop := 1 ≤ mc 0 ∧ mc 0 ≤ 6 ∧ ∀ j, 1 ≤ j → j < 5 → 1 ≤ mc j ∧ mc j ≤ 9
def kpt (mc : Nat → Nat) (lv : Nat → Bool) (C : Nat → Nat → Nat) (k i : Nat) : Nat := if lv k then 0 else C k i + mc 2
def best (mc : Nat → Nat) (lv : Nat → Bool) (C : Nat → Nat → Nat) (l r i : Nat) (rf cm : Bool) : Nat × Nat :=
  offr (offr (offr (offr (offr (offr (0, 0) 1 (decide (2 ≤ i)) (C l i + C r (i - 1) + mc 3)) 2 (decide (2 ≤ i) && rf) (C r i + C l (i - 1) + mc 3)) 3 rf (kpt mc lv C r i + C l i + mc 4)) 4 cm (kpt mc lv C l i + C r i + mc 4)) 5 (decide (2 ≤ i)) (kpt mc lv C l i + C r i + mc 1 + mc 3)) 6 true (kpt mc lv C l i + kpt mc lv C r i + mc 1 + mc 4)
/-- WAY and COST of a NODE by i REGISTERS, by those of its operands (lv: what counts as a LEAF) -/
def cX (mc : Nat → Nat) (le lf rt : Nat → Int32) (z : Nat → Nat) (tp : Nat → Bool) (lv : Nat → Bool) (C : Nat → Nat → Nat) (k i : Nat) : Nat × Nat :=
  if lf k = -9 then (0, mc 1) else if rt k = -9 then (0, C (k - 1) i + mc 3) else best mc lv C (k - 1 - z (k - 1)) (k - 1) i (!(tp (k - 1 - z (k - 1)) && tp (k - 1))) (o_comm (le k))
theorem offr_le (a : Nat × Nat) (w p : Nat) : (offr a w true p).2 ≤ p := by
  unfold offr
  by_cases h : (true && (a.1 == 0 || decide (p < a.2))) = true
  · rw [if_pos h]; exact Nat.le_refl _
  · rw [if_neg h]
    simp at h
    exact h.2
theorem offr_lt {a : Nat × Nat} {w p : Nat} {b : Bool} {n m : Nat} (h1 : a.1 < n) (h2 : a.2 < m) (hw : w < n) (hp : p < m) : (offr a w b p).1 < n ∧ (offr a w b p).2 < m := by
  unfold offr; split
  · exact ⟨hw, hp⟩
  · exact ⟨h1, h2⟩
theorem best_le (mc : Nat → Nat) (lv : Nat → Bool) (C : Nat → Nat → Nat) (l r i : Nat) (rf cm : Bool) : (best mc lv C l r i rf cm).2 ≤ kpt mc lv C l i + kpt mc lv C r i + mc 1 + mc 4 := offr_le _ _ _
section CXB
variable {n : Nat} {le nu lf rt : Nat → Int32} {z : Nat → Nat} {tp : Nat → Bool} {mc : Nat → Nat} {lv sh : Nat → Bool} {C : Nat → Nat → Nat}
/-- a table of costs: what is of the set counts as a LEAF -/
def CTb (n : Nat) (mc : Nat → Nat) (le lf rt : Nat → Int32) (z : Nat → Nat) (tp lv sh : Nat → Bool) (C : Nat → Nat → Nat) : Prop := (∀ k, k < n → lv k = (decide (lf k = -9) || sh k)) ∧ ∀ k i, k < n → C k i = if sh k then mc 1 else (cX mc le lf rt z tp lv C k i).2
theorem cX_le (hm : MOK mc) (hw : WF n le nu lf rt z) (hC : CTb n mc le lf rt z tp lv sh C) : ∀ k i, k < n → C k i ≤ 36 * z k ∧ (cX mc le lf rt z tp lv C k i).2 ≤ 36 * z k := by
  intro k
  induction k using Nat.strongRecOn with
  | _ k ih =>
    intro i hk
    have h1 := hm.2.2 1 (by omega) (by omega)
    have h2 := hm.2.2 2 (by omega) (by omega)
    have h3 := hm.2.2 3 (by omega) (by omega)
    have h4 := hm.2.2 4 (by omega) (by omega)
    have zb := hw.zb k hk
    have key : (cX mc le lf rt z tp lv C k i).2 ≤ 36 * z k := by
      unfold cX
      by_cases hl : lf k = -9
      · rw [if_pos hl]
        show mc 1 ≤ _
        omega
      · rw [if_neg hl]
        by_cases hr : rt k = -9
        · rw [if_pos hr]
          have s := hw.single hk hl hr
          have := (ih (k - 1) (by omega) i (by omega)).1
          show C (k - 1) i + mc 3 ≤ _
          omega
        · rw [if_neg hr]
          have s := hw.pair hk hr
          have a := (ih (k - 1) (by omega) i (by omega)).1
          have b := (ih (k - 1 - z (k - 1)) (by omega) i (by omega)).1
          refine Nat.le_trans (best_le _ _ _ _ _ _ _ _) ?_
          have w : ∀ j, kpt mc lv C j i ≤ C j i + mc 2 := fun j => by unfold kpt; split <;> omega
          have w1 := w (k - 1)
          have w2 := w (k - 1 - z (k - 1))
          omega
    refine ⟨?_, key⟩
    rw [hC.2 k i hk]
    split
    · omega
    · exact key
theorem offr1 {a : Nat × Nat} {w p : Nat} {b : Bool} {n : Nat} (h1 : a.1 < n) (hw : w < n) : (offr a w b p).1 < n := by
  unfold offr; split
  · exact hw
  · exact h1
theorem best1 (l r i : Nat) (rf cm : Bool) : (best mc lv C l r i rf cm).1 < 7 := offr1 (offr1 (offr1 (offr1 (offr1 (offr1 (Nat.zero_lt_succ 6) (by decide)) (by decide)) (by decide)) (by decide)) (by decide)) (by decide)
theorem cX_way (k i : Nat) : (cX mc le lf rt z tp lv C k i).1 < 7 := by
  unfold cX
  split
  · exact Nat.zero_lt_succ 6
  · split
    · exact Nat.zero_lt_succ 6
    · exact best1 _ _ _ _ _
end CXB
theorem ix7 (k i : Nat) : nI k * 7 + nI i = nI (7 * k + i) := by rw [show (7 : Int32) = nI 7 from rfl, pk_mul, nI_add, Nat.mul_comm]
theorem CF_eq {G : nw_G} {L : nw_L} {k : nk_T} {d : Nat} {av : List Value} {M N N' : nw_M} {r r' : Option Value} (h : CF G L k d av M r N) (h1 : r = r') (h2 : N = N') : CF G L k d av M r' N' := by subst h1; subst h2; exact h
section MCosts
variable {G : nw_G}
theorem c_Costs_costOf {c : Nat} (h : isCosts c) (k i : Int32) (M : nw_M) : CF G LC m_Costs_costOf 1 [.ref (G.2.2 c), .int k, .int i] M (some (.int (rg 217 (M (c + 2)) (k * 7 + i)))) M := by
  refine CJ_of (by decide) rfl (Nat.le_of_ble_eq_true rfl) ?_
  refine r_aload_n (i := 0) d_Costs_costOf_0 rfl rfl ?_
  refine r_getr nf_Costs_16 h.1 rfl d_Costs_costOf_1 ?_
  refine r_iload_n (i := 1) d_Costs_costOf_4 rfl rfl ?_
  refine r_bipush 7 d_Costs_costOf_5 bp_7 ?_
  refine r_imul d_Costs_costOf_7 ?_
  refine r_iload_n (i := 2) d_Costs_costOf_8 rfl rfl ?_
  refine r_iadd d_Costs_costOf_9 ?_
  refine r_V1 v_Row_get w_541 (isCosts.costs h).1 (c_Row_get (isCosts.costs h) _ _ ) (Nat.le_of_ble_eq_true rfl) (Nat.le_of_ble_eq_true rfl) d_Costs_costOf_10 ?_
  refine r_iret rfl d_Costs_costOf_13 ?_
  exact ⟨rfl, rfl⟩

theorem c2_Costs_costOf {c : Nat} (h : isCosts c) {k i v : Nat} (M : nw_M) (hk : 7 * k + i < 217) (hv : M (c + 2) (7 * k + i) = nI v) : CF G LC m_Costs_costOf 1 [.ref (G.2.2 c), .int (nI k), .int (nI i)] M (some (.int (nI v))) M := CF_eq (c_Costs_costOf h _ _ M) (by rw [ix7, rg_nI _ hk (by omega), hv]) rfl
theorem c_Costs_wayOf {c : Nat} (h : isCosts c) (k i : Int32) (M : nw_M) : CF G LC m_Costs_wayOf 1 [.ref (G.2.2 c), .int k, .int i] M (some (.int (rg 217 (M (c + 4)) (k * 7 + i)))) M := by
  refine CJ_of (by decide) rfl (Nat.le_of_ble_eq_true rfl) ?_
  refine r_aload_n (i := 0) d_Costs_wayOf_0 rfl rfl ?_
  refine r_getr nf_Costs_20 h.1 rfl d_Costs_wayOf_1 ?_
  refine r_iload_n (i := 1) d_Costs_wayOf_4 rfl rfl ?_
  refine r_bipush 7 d_Costs_wayOf_5 bp_7 ?_
  refine r_imul d_Costs_wayOf_7 ?_
  refine r_iload_n (i := 2) d_Costs_wayOf_8 rfl rfl ?_
  refine r_iadd d_Costs_wayOf_9 ?_
  refine r_V1 v_Row_get w_541 (isCosts.ways h).1 (c_Row_get (isCosts.ways h) _ _ ) (Nat.le_of_ble_eq_true rfl) (Nat.le_of_ble_eq_true rfl) d_Costs_wayOf_10 ?_
  refine r_iret rfl d_Costs_wayOf_13 ?_
  exact ⟨rfl, rfl⟩

theorem c2_Costs_wayOf {c : Nat} (h : isCosts c) {k i v : Nat} (M : nw_M) (hk : 7 * k + i < 217) (hv : M (c + 4) (7 * k + i) = nI v) : CF G LC m_Costs_wayOf 1 [.ref (G.2.2 c), .int (nI k), .int (nI i)] M (some (.int (nI v))) M := CF_eq (c_Costs_wayOf h _ _ M) (by rw [ix7, rg_nI _ hk (by omega), hv]) rfl
theorem c_Costs_put {c : Nat} (h : isCosts c) (k i : Nat) (x y : Int32) (M : nw_M) (hk : 7 * k + i < 217) : CF G LC m_Costs_put 1 [.ref (G.2.2 c), .int (nI k), .int (nI i), .int x, .int y] M none (ms (ms M (c + 2) (upd (M (c + 2)) (7 * k + i) x)) (c + 4) (upd (M (c + 4)) (7 * k + i) y)) := by
  refine CJ_of (by decide) rfl (Nat.le_of_ble_eq_true rfl) ?_
  refine r_aload_n (i := 0) d_Costs_put_0 rfl rfl ?_
  refine r_getr nf_Costs_16 h.1 rfl d_Costs_put_1 ?_
  refine r_iload_n (i := 1) d_Costs_put_4 rfl rfl ?_
  refine r_bipush 7 d_Costs_put_5 bp_7 ?_
  refine r_imul d_Costs_put_7 ?_
  refine r_iload_n (i := 2) d_Costs_put_8 rfl rfl ?_
  refine r_iadd d_Costs_put_9 ?_
  refine r_iload_n (i := 3) d_Costs_put_10 rfl rfl ?_
  refine r_V2 v_Row_put w_540 (isCosts.costs h).1 (c_Row_put (isCosts.costs h) _ _ _ ) (Nat.le_of_ble_eq_true rfl) (Nat.le_of_ble_eq_true rfl) d_Costs_put_11 ?_
  refine r_aload_n (i := 0) d_Costs_put_14 rfl rfl ?_
  refine r_getr nf_Costs_20 h.1 rfl d_Costs_put_15 ?_
  refine r_iload_n (i := 1) d_Costs_put_18 rfl rfl ?_
  refine r_bipush 7 d_Costs_put_19 bp_7 ?_
  refine r_imul d_Costs_put_21 ?_
  refine r_iload_n (i := 2) d_Costs_put_22 rfl rfl ?_
  refine r_iadd d_Costs_put_23 ?_
  refine r_iload d_Costs_put_24 rfl ?_
  refine r_V2 v_Row_put w_540 (isCosts.ways h).1 (c_Row_put (isCosts.ways h) _ _ _ ) (Nat.le_of_ble_eq_true rfl) (Nat.le_of_ble_eq_true rfl) d_Costs_put_26 ?_
  refine r_vret rfl d_Costs_put_29 ?_
  refine ⟨rfl, ?_⟩
  simp (disch := omega) only [ms_same, ms_ne, ix7, rp_nI]

theorem c_Costs_keptOf {c : Nat} (h : isCosts c) {cm bm : Nat} (hm : isRow cm bm 5) (k i : Int32) (M : nw_M) : CF G LC m_Costs_keptOf 1 [.ref (G.2.2 c), .ref (G.2.2 cm), .int k, .int i] M (some (.int (if rg 31 (M (c + 6)) k = 1 then 0 else rg 217 (M (c + 2)) (k * 7 + i) + rg 5 (M bm) 2))) M := by
  refine CJ_of (by decide) rfl (Nat.le_of_ble_eq_true rfl) ?_
  refine r_aload_n (i := 0) d_Costs_keptOf_0 rfl rfl ?_
  refine r_getr nf_Costs_23 h.1 rfl d_Costs_keptOf_1 ?_
  refine r_iload_n (i := 2) d_Costs_keptOf_4 rfl rfl ?_
  refine r_V1 v_Row_get w_541 (isCosts.leaves h).1 (c_Row_get (isCosts.leaves h) _ _ ) (Nat.le_of_ble_eq_true rfl) (Nat.le_of_ble_eq_true rfl) d_Costs_keptOf_5 ?_
  refine r_iconst 1 d_Costs_keptOf_8 ic_1 ?_
  refine r_icmp_ne 16 d_Costs_keptOf_9 (by decide) (fun h_9 => ?_) (fun h_9 => ?_)
  · skip
    refine r_aload_n (i := 0) d_Costs_keptOf_16 rfl rfl ?_
    refine r_getr nf_Costs_16 h.1 rfl d_Costs_keptOf_17 ?_
    refine r_iload_n (i := 2) d_Costs_keptOf_20 rfl rfl ?_
    refine r_bipush 7 d_Costs_keptOf_21 bp_7 ?_
    refine r_imul d_Costs_keptOf_23 ?_
    refine r_iload_n (i := 3) d_Costs_keptOf_24 rfl rfl ?_
    refine r_iadd d_Costs_keptOf_25 ?_
    refine r_V1 v_Row_get w_541 (isCosts.costs h).1 (c_Row_get (isCosts.costs h) _ _ ) (Nat.le_of_ble_eq_true rfl) (Nat.le_of_ble_eq_true rfl) d_Costs_keptOf_26 ?_
    refine r_aload_n (i := 1) d_Costs_keptOf_29 rfl rfl ?_
    refine r_iconst 2 d_Costs_keptOf_30 ic_2 ?_
    refine r_V1 v_Row_get w_541 hm.1 (c_Row_get hm _ _ ) (Nat.le_of_ble_eq_true rfl) (Nat.le_of_ble_eq_true rfl) d_Costs_keptOf_31 ?_
    refine r_iadd d_Costs_keptOf_34 ?_
    refine r_iret rfl d_Costs_keptOf_35 ?_
    exact ⟨by simp_all, rfl⟩
  · skip
    refine r_iconst 0 d_Costs_keptOf_12 ic_0 ?_
    refine r_goto 35 d_Costs_keptOf_13 (by decide) ?_
    refine r_iret rfl d_Costs_keptOf_35 ?_
    exact ⟨by simp_all, rfl⟩

theorem c2_Costs_keptOf {c : Nat} (h : isCosts c) {cm bm : Nat} (hm : isRow cm bm 5) {k i v : Nat} {b : Bool} {mc : Nat → Nat} (M : nw_M) (hk : k < 31) (hi : i < 7) (hb : M (c + 6) k = bI b) (hv : b = false → M (c + 2) (7 * k + i) = nI v) (hs : M bm 2 = nI (mc 2)) : CF G LC m_Costs_keptOf 1 [.ref (G.2.2 c), .ref (G.2.2 cm), .int (nI k), .int (nI i)] M (some (.int (nI (if b then 0 else v + mc 2)))) M := by
  refine CF_eq (c_Costs_keptOf h hm _ _ M) ?_ rfl
  rw [ix7, rg_nI _ hk (by omega), hb, rg_nI _ (by omega) (by omega), show (2 : Int32) = nI 2 from rfl, rg_nI _ (by omega) (by omega), hs]
  cases b with
  | true => rfl
  | false => rw [hv rfl, nI_add]; rfl
theorem OfR_no {a : Nat × Nat} {w p : Nat} {x y : Int32} (hO : OfR a x y) : OfR (offr a w false p) x y := by simpa [offr] using hO
theorem c_Costs_offer {c : Nat} (h : isCosts c) (w mb price : Int32) (M : nw_M) {a : Nat × Nat} {wn q : Nat} {b : Bool} (hO : OfR a (M c 3) (M c 4)) (hw : w = nI wn) (hwn : wn < 7) (hmb : mb = bI b) (hp : b = true → price = nI q ∧ q < 2 ^ 30) : CJ G LC m_Costs_offer 0 [.ref (G.2.2 c), .int w, .int mb, .int price] M (fun v N => v = none ∧ (∀ e, e ≠ c → N e = M e) ∧ OfR (offr a wn b q) (N c 3) (N c 4)) := by
  refine CJ_of (by decide) rfl (Nat.le_of_ble_eq_true rfl) ?_
  refine r_iload_n (i := 2) d_Costs_offer_0 rfl rfl ?_
  refine r_if_eq 29 d_Costs_offer_1 (by decide) (fun h_1 => ?_) (fun h_1 => ?_)
  · skip
    refine r_vret rfl d_Costs_offer_29 ?_
    refine ⟨rfl, fun _ _ => rfl, ?_⟩
    rw [hmb, bI_f] at h_1
    subst h_1
    exact OfR_no hO
  · skip
    refine r_aload_n (i := 0) d_Costs_offer_4 rfl rfl ?_
    refine r_geti nf_Costs_79 h.1 rfl d_Costs_offer_5 ?_
    refine r_if_eq 19 d_Costs_offer_8 (by decide) (fun h_8 => ?_) (fun h_8 => ?_)
    · skip
      refine r_aload_n (i := 0) d_Costs_offer_19 rfl rfl ?_
      refine r_iload_n (i := 1) d_Costs_offer_20 rfl rfl ?_
      refine r_puti nf_Costs_79 nfin_Costs_3 h.1 rfl d_Costs_offer_21 ?_
      refine r_aload_n (i := 0) d_Costs_offer_24 rfl rfl ?_
      refine r_iload_n (i := 3) d_Costs_offer_25 rfl rfl ?_
      refine r_puti nf_Costs_89 nfin_Costs_4 h.1 rfl d_Costs_offer_26 ?_
      refine r_vret rfl d_Costs_offer_29 ?_
      rw [hmb, bI_t] at h_1
      subst h_1
      obtain ⟨rfl, hq⟩ := hp rfl
      refine ⟨rfl, fun e hc => by simp (disch := omega) only [ms_ne], ?_⟩
      have e0 : a.1 = 0 := by
        have := hO.1.symm.trans h_8
        exact (nI_eq (b := 0) (by have := hO.2.2.1; omega) (by omega)).mp this
      simp (disch := omega) only [ms_same, upd_at, upd_ne]
      simp only [offr, e0]
      exact ⟨hw, Or.inr rfl, hwn, hq⟩
    · skip
      refine r_iload_n (i := 3) d_Costs_offer_11 rfl rfl ?_
      refine r_aload_n (i := 0) d_Costs_offer_12 rfl rfl ?_
      refine r_geti nf_Costs_89 h.1 rfl d_Costs_offer_13 ?_
      refine r_icmp_ge 29 d_Costs_offer_16 (by decide) (fun h_16 => ?_) (fun h_16 => ?_)
      · skip
        refine r_vret rfl d_Costs_offer_29 ?_
        rw [hmb, bI_t] at h_1
        subst h_1
        obtain ⟨rfl, hq⟩ := hp rfl
        have e0 : ¬ a.1 = 0 := fun e => h_8 (by rw [hO.1, e]; rfl)
        have e1 : M c 4 = nI a.2 := hO.2.1.resolve_left e0
        have e2 : ¬ q < a.2 := by
          rw [e1] at h_16
          have := (nI_leI (by have := hO.2.2.2; omega) (by omega)).mp h_16
          omega
        refine ⟨rfl, fun _ _ => rfl, ?_⟩
        simp only [offr, e0, e2]
        simpa [e0] using hO
      · skip
        refine r_aload_n (i := 0) d_Costs_offer_19 rfl rfl ?_
        refine r_iload_n (i := 1) d_Costs_offer_20 rfl rfl ?_
        refine r_puti nf_Costs_79 nfin_Costs_3 h.1 rfl d_Costs_offer_21 ?_
        refine r_aload_n (i := 0) d_Costs_offer_24 rfl rfl ?_
        refine r_iload_n (i := 3) d_Costs_offer_25 rfl rfl ?_
        refine r_puti nf_Costs_89 nfin_Costs_4 h.1 rfl d_Costs_offer_26 ?_
        refine r_vret rfl d_Costs_offer_29 ?_
        rw [hmb, bI_t] at h_1
        subst h_1
        obtain ⟨rfl, hq⟩ := hp rfl
        have e0 : ¬ a.1 = 0 := fun e => h_8 (by rw [hO.1, e]; rfl)
        have e1 : M c 4 = nI a.2 := hO.2.1.resolve_left e0
        have e2 : q < a.2 := by
          rw [e1] at h_16
          rcases Nat.lt_or_ge q a.2 with z | z
          · exact z
          · exact absurd (nI_le z (by omega)) h_16
        refine ⟨rfl, fun e hc => by simp (disch := omega) only [ms_ne], ?_⟩
        simp (disch := omega) only [ms_same, upd_at, upd_ne]
        simp only [offr, e2]
        simp
        exact ⟨hw, Or.inr rfl, hwn, hq⟩

end MCosts
