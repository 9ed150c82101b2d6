-- Row and Operators
theorem nI_inc (i : Nat) : nI i + Int32.ofInt 1 = nI (i + 1) := nI_1 i
theorem vp_of {x : Int32} {n : Nat} (h1 : ¬ x < 0) (h2 : ¬ nI n ≤ x) (hn : n < 2 ^ 31) : vp_in x n := by
  obtain ⟨j, hj, rfl⟩ := nI_of h1
  refine vp_in_nI ?_ hn
  rcases Nat.lt_or_ge j n with q | q
  · exact q
  · exact absurd (nI_le q hj) h2
def rg (n : Nat) (f : Nat → Int32) (i : Int32) : Int32 := if i < 0 then 0 else if nI n ≤ i then 0 else f i.toNatClampNeg
def rp (n : Nat) (f : Nat → Int32) (i v : Int32) : Nat → Int32 := if i < 0 then f else if nI n ≤ i then f else upd f i.toNatClampNeg v
def cp (n : Nat) (f g : Nat → Int32) : Nat → Int32 := fun k => if k < n then f k else g k
theorem rg_nI {n k : Nat} (f : Nat → Int32) (h : k < n) (hn : n < 1000) : rg n f (nI k) = f k := by
  rw [rg, if_neg (nI_pos (by omega)), if_neg (nI_ge h (by omega)), nI_clamp (by omega)]
theorem rg_out {n k : Nat} (f : Nat → Int32) (h : n ≤ k) (hk : k < 2 ^ 31) : rg n f (nI k) = 0 := by
  rw [rg, if_neg (nI_pos (by omega)), if_pos (nI_le h hk)]
theorem rg_neg {n : Nat} (f : Nat → Int32) {i : Int32} (h : i < 0) : rg n f i = 0 := by rw [rg, if_pos h]
theorem rp_nI {n k : Nat} (f : Nat → Int32) (v : Int32) (h : k < n) (hn : n < 1000) : rp n f (nI k) v = upd f k v := by
  rw [rp, if_neg (nI_pos (by omega)), if_neg (nI_ge h (by omega)), nI_clamp (by omega)]
theorem rp_out {n k : Nat} (f : Nat → Int32) (v : Int32) (h : n ≤ k) (hk : k < 2 ^ 31) : rp n f (nI k) v = f := by
  rw [rp, if_neg (nI_pos (by omega)), if_pos (nI_le h hk)]
theorem rp_neg {n : Nat} (f : Nat → Int32) {i v : Int32} (h : i < 0) : rp n f i v = f := by rw [rp, if_pos h]
section MRow
variable {G : nw_G}
theorem c_Row_get {c b n : Nat} (h : isRow c b n) (i : Int32) (M : nw_M) : CF G LC m_Row_get 0 [.ref (G.2.2 c), .int i] M (some (.int (rg n (M b) i))) M := by
  refine CJ_of (by decide) rfl (Nat.le_of_ble_eq_true rfl) ?_
  refine r_iload_n (i := 1) d_Row_get_0 rfl rfl ?_
  refine r_if_lt 22 d_Row_get_1 (by decide) (fun h_1 => ?_) (fun h_1 => ?_)
  · skip
    refine r_iconst 0 d_Row_get_22 ic_0 ?_
    refine r_iret rfl d_Row_get_23 ?_
    exact ⟨by rw [rg, if_pos h_1], rfl⟩
  · skip
    refine r_iload_n (i := 1) d_Row_get_4 rfl rfl ?_
    refine r_aload_n (i := 0) d_Row_get_5 rfl rfl ?_
    refine r_getr nf_Row_13 h.1 rfl d_Row_get_6 ?_
    refine r_alen h.2.1 d_Row_get_9 ?_
    refine r_icmp_ge 22 d_Row_get_10 (by decide) (fun h_10 => ?_) (fun h_10 => ?_)
    · skip
      refine r_iconst 0 d_Row_get_22 ic_0 ?_
      refine r_iret rfl d_Row_get_23 ?_
      exact ⟨by rw [rg, if_neg h_1, if_pos h_10], rfl⟩
    · skip
      refine r_aload_n (i := 0) d_Row_get_13 rfl rfl ?_
      refine r_getr nf_Row_13 h.1 rfl d_Row_get_14 ?_
      refine r_iload_n (i := 1) d_Row_get_17 rfl rfl ?_
      refine r_iald h.2.1 (vp_of h_1 h_10 (by have := h.2.2; omega)) d_Row_get_18 ?_
      refine r_goto 23 d_Row_get_19 (by decide) ?_
      refine r_iret rfl d_Row_get_23 ?_
      exact ⟨by rw [rg, if_neg h_1, if_neg h_10], rfl⟩

theorem c_Row_put {c b n : Nat} (h : isRow c b n) (i v : Int32) (M : nw_M) : CF G LC m_Row_put 0 [.ref (G.2.2 c), .int i, .int v] M none (ms M b (rp n (M b) i v)) := by
  refine CJ_of (by decide) rfl (Nat.le_of_ble_eq_true rfl) ?_
  refine r_iload_n (i := 1) d_Row_put_0 rfl rfl ?_
  refine r_if_lt 20 d_Row_put_1 (by decide) (fun h_1 => ?_) (fun h_1 => ?_)
  · skip
    refine r_vret rfl d_Row_put_20 ?_
    exact ⟨rfl, by rw [rp, if_pos h_1, ms_self]⟩
  · skip
    refine r_iload_n (i := 1) d_Row_put_4 rfl rfl ?_
    refine r_aload_n (i := 0) d_Row_put_5 rfl rfl ?_
    refine r_getr nf_Row_13 h.1 rfl d_Row_put_6 ?_
    refine r_alen h.2.1 d_Row_put_9 ?_
    refine r_icmp_ge 20 d_Row_put_10 (by decide) (fun h_10 => ?_) (fun h_10 => ?_)
    · skip
      refine r_vret rfl d_Row_put_20 ?_
      exact ⟨rfl, by rw [rp, if_neg h_1, if_pos h_10, ms_self]⟩
    · skip
      refine r_aload_n (i := 0) d_Row_put_13 rfl rfl ?_
      refine r_getr nf_Row_13 h.1 rfl d_Row_put_14 ?_
      refine r_iload_n (i := 1) d_Row_put_17 rfl rfl ?_
      refine r_iload_n (i := 2) d_Row_put_18 rfl rfl ?_
      refine r_iast h.2.1 (vp_of h_1 h_10 (by have := h.2.2; omega)) d_Row_put_19 ?_
      refine r_vret rfl d_Row_put_20 ?_
      exact ⟨rfl, by rw [rp, if_neg h_1, if_neg h_10]⟩

theorem min_self (x : Int32) : (if x < x then x else x) = x := by split <;> rfl
theorem c_Row_copy {c b n : Nat} (h : isRow c b n) {c2 b2 : Nat} (h2 : isRow c2 b2 n) (M : nw_M) : CF G LC m_Row_copy 2 [.ref (G.2.2 c), .ref (G.2.2 c2)] M none (ms M b (cp n (M b2) (M b))) := by
  have hn := h.2.2
  refine CJ_of (by decide) rfl (Nat.le_of_ble_eq_true rfl) ?_
  refine r_aload_n (i := 1) d_Row_copy_0 rfl rfl ?_
  refine r_getr nf_Row_13 h2.1 rfl d_Row_copy_1 ?_
  refine r_iconst 0 d_Row_copy_4 ic_0 ?_
  refine r_aload_n (i := 0) d_Row_copy_5 rfl rfl ?_
  refine r_getr nf_Row_13 h.1 rfl d_Row_copy_6 ?_
  refine r_iconst 0 d_Row_copy_9 ic_0 ?_
  refine r_aload_n (i := 0) d_Row_copy_10 rfl rfl ?_
  refine r_getr nf_Row_13 h.1 rfl d_Row_copy_11 ?_
  refine r_alen h.2.1 d_Row_copy_14 ?_
  refine r_aload_n (i := 1) d_Row_copy_15 rfl rfl ?_
  refine r_getr nf_Row_13 h2.1 rfl d_Row_copy_16 ?_
  refine r_alen h2.2.1 d_Row_copy_19 ?_
  refine r_mmin w_504 (Nat.le_of_ble_eq_true rfl) (Nat.le_of_ble_eq_true rfl) d_Row_copy_20 ?_
  refine r_copy w_505 h2.2.1 h.2.1 (by rw [min_self]; exact nI_pos (by omega)) (by rw [min_self, nI_clamp (by omega)]; exact Nat.le_refl _) (by rw [min_self, nI_clamp (by omega)]; exact Nat.le_refl _) (Nat.le_of_ble_eq_true rfl) (Nat.le_of_ble_eq_true rfl) d_Row_copy_23 ?_
  refine r_vret rfl d_Row_copy_26 ?_
  refine ⟨rfl, ?_⟩
  rw [min_self, nI_clamp (by omega)]
  congr 1
  funext k
  simp [va_cpy, cp]

theorem l_Row_empty {c b n : Nat} (h : isRow c b n) (M : nw_M) {P : Option Value → nw_M → Prop} (hP : P none (ms M b (cp n (fun _ => 0) (M b)))) : ∀ (j i : Nat), i + j = n → RJ G LC m_Row_empty 0 P 2 [some (.ref (G.2.2 c)), some (.int (nI i))] [] (ms M b (cp i (fun _ => 0) (M b))) := by
  have hn := h.2.2
  intro j
  induction j with
  | zero =>
    intro i hi
    simp only [Nat.add_zero] at hi
    subst hi
    refine r_iload_n (i := 1) d_Row_empty_2 rfl rfl ?_
    refine r_aload_n (i := 0) d_Row_empty_3 rfl rfl ?_
    refine r_getr nf_Row_13 h.1 rfl d_Row_empty_4 ?_
    refine r_alen h.2.1 d_Row_empty_7 ?_
    refine r_icmp_ge 24 d_Row_empty_8 (by decide) (fun _ => ?_) (fun h9 => absurd (nI_le (Nat.le_refl _) (by omega)) h9)
    exact r_vret rfl d_Row_empty_24 hP
  | succ j ih =>
    intro i hi
    refine r_iload_n (i := 1) d_Row_empty_2 rfl rfl ?_
    refine r_aload_n (i := 0) d_Row_empty_3 rfl rfl ?_
    refine r_getr nf_Row_13 h.1 rfl d_Row_empty_4 ?_
    refine r_alen h.2.1 d_Row_empty_7 ?_
    refine r_icmp_ge 24 d_Row_empty_8 (by decide) (fun h_8 => ?_) (fun h_8 => ?_)
    · skip
      exact absurd h_8 (nI_ge (by omega) (by omega))
    · skip
      refine r_aload_n (i := 0) d_Row_empty_11 rfl rfl ?_
      refine r_getr nf_Row_13 h.1 rfl d_Row_empty_12 ?_
      refine r_iload_n (i := 1) d_Row_empty_15 rfl rfl ?_
      refine r_iconst 0 d_Row_empty_16 ic_0 ?_
      refine r_iast h.2.1 (vp_in_nI (by omega) (by omega)) d_Row_empty_17 ?_
      refine r_iinc d_Row_empty_18 rfl (nI_inc i) (Nat.le_of_ble_eq_true rfl) rfl ?_
      refine r_goto 2 d_Row_empty_21 (by decide) ?_
      refine r_eq rfl rfl ?_ (ih (i + 1) (by omega))
      rw [ms_ms, ms_same, nI_clamp (by omega)]
      congr 1
      funext k
      simp only [upd, cp]
      by_cases hk : k = i
      · subst hk; simp
      · simp only [hk, if_false]
        by_cases hk2 : k < i
        · rw [if_pos hk2, if_pos (by omega)]
        · rw [if_neg hk2, if_neg (by omega)]

theorem c_Row_empty {c b n : Nat} (h : isRow c b n) (M : nw_M) : CF G LC m_Row_empty 0 [.ref (G.2.2 c)] M none (ms M b (cp n (fun _ => 0) (M b))) := by
  refine CJ_of (by decide) rfl (Nat.le_of_ble_eq_true rfl) ?_
  refine r_iconst 0 d_Row_empty_0 ic_0 ?_
  refine r_istore_n (i := 1) d_Row_empty_1 rfl (Nat.le_of_ble_eq_true rfl) rfl ?_
  refine r_eq rfl rfl ?_ (l_Row_empty h M ⟨rfl, rfl⟩ n 0 (by omega))
  rw [show cp 0 (fun _ => 0) (M b) = M b from by funext k; simp [cp], ms_self]

end MRow
-- operators
def bI (b : Bool) : Int32 := if b then 1 else 0
theorem bI_01 (b : Bool) : bI b = 0 ∨ bI b = 1 := by cases b <;> simp [bI]
theorem bI_t (b : Bool) : (¬ bI b = 0) ↔ b = true := by cases b <;> simp [bI]
theorem bI_f (b : Bool) : (bI b = 0) ↔ b = false := by cases b <;> simp [bI]
def o_comm (x : Int32) : Bool := x == 43 || x == 42 || x == 35
def o_trap (x : Int32) : Bool := x == 47 || x == 35
def o_sum (x : Int32) : Bool := x == 43 || x == 45 || x == 35
def o_prod (x : Int32) : Bool := x == 42 || x == 47
def o_grip (x : Int32) : Int32 := if x = 126 then 3 else if o_prod x then 2 else if o_sum x then 1 else 0
def o_tb (c x y : Int32) : Bool := if c = 47 then y == 0 else c == 35 && (x.toInt64 + y.toInt64 != (x + y).toInt64)
def o_out (c x y : Int32) : Int32 := if c = 126 then -x else if c = 45 then x - y else if c = 42 then x * y else if c = 47 then (if y = 0 then 0 else x / y) else x + y
theorem lg_cmp_0 (x y : Int64) : lg_cmp x y = 0 ↔ x = y := by
  unfold lg_cmp
  by_cases h1 : y < x
  · have : x ≠ y := fun e => by subst e; exact absurd h1 (Int64.lt_irrefl)
    simp [h1, this]
  · by_cases h2 : x = y
    · subst h2; simp [h1]
    · simp [h1, h2]
section MOps
variable {G : nw_G} {L : nw_L}
theorem c_Ops_isCommuting (x : Int32) (M : nw_M) : CF G L m_Ops_isCommuting 0 [.int x] M (some (.int (bI (o_comm x)))) M := by
  refine CJ_of (by decide) rfl (Nat.le_of_ble_eq_true rfl) ?_
  refine r_iload_n (i := 0) d_Ops_isCommuting_0 rfl rfl ?_
  refine r_bipush 43 d_Ops_isCommuting_1 bp_43 ?_
  refine r_icmp_eq 18 d_Ops_isCommuting_3 (by decide) (fun h_3 => ?_) (fun h_3 => ?_)
  · skip
    refine r_iconst 1 d_Ops_isCommuting_18 ic_1 ?_
    refine r_goto 23 d_Ops_isCommuting_19 (by decide) ?_
    refine r_zret rfl (by decide) d_Ops_isCommuting_23 ?_
    exact ⟨by simp [o_comm, bI, *], rfl⟩
  · skip
    refine r_iload_n (i := 0) d_Ops_isCommuting_6 rfl rfl ?_
    refine r_bipush 42 d_Ops_isCommuting_7 bp_42 ?_
    refine r_icmp_eq 18 d_Ops_isCommuting_9 (by decide) (fun h_9 => ?_) (fun h_9 => ?_)
    · skip
      refine r_iconst 1 d_Ops_isCommuting_18 ic_1 ?_
      refine r_goto 23 d_Ops_isCommuting_19 (by decide) ?_
      refine r_zret rfl (by decide) d_Ops_isCommuting_23 ?_
      exact ⟨by simp [o_comm, bI, *], rfl⟩
    · skip
      refine r_iload_n (i := 0) d_Ops_isCommuting_12 rfl rfl ?_
      refine r_bipush 35 d_Ops_isCommuting_13 bp_35 ?_
      refine r_icmp_ne 22 d_Ops_isCommuting_15 (by decide) (fun h_15 => ?_) (fun h_15 => ?_)
      · skip
        refine r_iconst 0 d_Ops_isCommuting_22 ic_0 ?_
        refine r_zret rfl (by decide) d_Ops_isCommuting_23 ?_
        exact ⟨by simp [o_comm, bI, *], rfl⟩
      · skip
        refine r_iconst 1 d_Ops_isCommuting_18 ic_1 ?_
        refine r_goto 23 d_Ops_isCommuting_19 (by decide) ?_
        refine r_zret rfl (by decide) d_Ops_isCommuting_23 ?_
        exact ⟨by simp [o_comm, bI, *], rfl⟩

theorem c_Ops_canTrap (x : Int32) (M : nw_M) : CF G L m_Ops_canTrap 0 [.int x] M (some (.int (bI (o_trap x)))) M := by
  refine CJ_of (by decide) rfl (Nat.le_of_ble_eq_true rfl) ?_
  refine r_iload_n (i := 0) d_Ops_canTrap_0 rfl rfl ?_
  refine r_bipush 47 d_Ops_canTrap_1 bp_47 ?_
  refine r_icmp_eq 12 d_Ops_canTrap_3 (by decide) (fun h_3 => ?_) (fun h_3 => ?_)
  · skip
    refine r_iconst 1 d_Ops_canTrap_12 ic_1 ?_
    refine r_goto 17 d_Ops_canTrap_13 (by decide) ?_
    refine r_zret rfl (by decide) d_Ops_canTrap_17 ?_
    exact ⟨by simp [o_trap, bI, *], rfl⟩
  · skip
    refine r_iload_n (i := 0) d_Ops_canTrap_6 rfl rfl ?_
    refine r_bipush 35 d_Ops_canTrap_7 bp_35 ?_
    refine r_icmp_ne 16 d_Ops_canTrap_9 (by decide) (fun h_9 => ?_) (fun h_9 => ?_)
    · skip
      refine r_iconst 0 d_Ops_canTrap_16 ic_0 ?_
      refine r_zret rfl (by decide) d_Ops_canTrap_17 ?_
      exact ⟨by simp [o_trap, bI, *], rfl⟩
    · skip
      refine r_iconst 1 d_Ops_canTrap_12 ic_1 ?_
      refine r_goto 17 d_Ops_canTrap_13 (by decide) ?_
      refine r_zret rfl (by decide) d_Ops_canTrap_17 ?_
      exact ⟨by simp [o_trap, bI, *], rfl⟩

theorem c_Ops_isOfSum (x : Int32) (M : nw_M) : CF G L m_Ops_isOfSum 0 [.int x] M (some (.int (bI (o_sum x)))) M := by
  refine CJ_of (by decide) rfl (Nat.le_of_ble_eq_true rfl) ?_
  refine r_iload_n (i := 0) d_Ops_isOfSum_0 rfl rfl ?_
  refine r_bipush 43 d_Ops_isOfSum_1 bp_43 ?_
  refine r_icmp_eq 18 d_Ops_isOfSum_3 (by decide) (fun h_3 => ?_) (fun h_3 => ?_)
  · skip
    refine r_iconst 1 d_Ops_isOfSum_18 ic_1 ?_
    refine r_goto 23 d_Ops_isOfSum_19 (by decide) ?_
    refine r_zret rfl (by decide) d_Ops_isOfSum_23 ?_
    exact ⟨by simp [o_sum, bI, *], rfl⟩
  · skip
    refine r_iload_n (i := 0) d_Ops_isOfSum_6 rfl rfl ?_
    refine r_bipush 45 d_Ops_isOfSum_7 bp_45 ?_
    refine r_icmp_eq 18 d_Ops_isOfSum_9 (by decide) (fun h_9 => ?_) (fun h_9 => ?_)
    · skip
      refine r_iconst 1 d_Ops_isOfSum_18 ic_1 ?_
      refine r_goto 23 d_Ops_isOfSum_19 (by decide) ?_
      refine r_zret rfl (by decide) d_Ops_isOfSum_23 ?_
      exact ⟨by simp [o_sum, bI, *], rfl⟩
    · skip
      refine r_iload_n (i := 0) d_Ops_isOfSum_12 rfl rfl ?_
      refine r_bipush 35 d_Ops_isOfSum_13 bp_35 ?_
      refine r_icmp_ne 22 d_Ops_isOfSum_15 (by decide) (fun h_15 => ?_) (fun h_15 => ?_)
      · skip
        refine r_iconst 0 d_Ops_isOfSum_22 ic_0 ?_
        refine r_zret rfl (by decide) d_Ops_isOfSum_23 ?_
        exact ⟨by simp [o_sum, bI, *], rfl⟩
      · skip
        refine r_iconst 1 d_Ops_isOfSum_18 ic_1 ?_
        refine r_goto 23 d_Ops_isOfSum_19 (by decide) ?_
        refine r_zret rfl (by decide) d_Ops_isOfSum_23 ?_
        exact ⟨by simp [o_sum, bI, *], rfl⟩

theorem c_Ops_isOfProduct (x : Int32) (M : nw_M) : CF G L m_Ops_isOfProduct 0 [.int x] M (some (.int (bI (o_prod x)))) M := by
  refine CJ_of (by decide) rfl (Nat.le_of_ble_eq_true rfl) ?_
  refine r_iload_n (i := 0) d_Ops_isOfProduct_0 rfl rfl ?_
  refine r_bipush 42 d_Ops_isOfProduct_1 bp_42 ?_
  refine r_icmp_eq 12 d_Ops_isOfProduct_3 (by decide) (fun h_3 => ?_) (fun h_3 => ?_)
  · skip
    refine r_iconst 1 d_Ops_isOfProduct_12 ic_1 ?_
    refine r_goto 17 d_Ops_isOfProduct_13 (by decide) ?_
    refine r_zret rfl (by decide) d_Ops_isOfProduct_17 ?_
    exact ⟨by simp [o_prod, bI, *], rfl⟩
  · skip
    refine r_iload_n (i := 0) d_Ops_isOfProduct_6 rfl rfl ?_
    refine r_bipush 47 d_Ops_isOfProduct_7 bp_47 ?_
    refine r_icmp_ne 16 d_Ops_isOfProduct_9 (by decide) (fun h_9 => ?_) (fun h_9 => ?_)
    · skip
      refine r_iconst 0 d_Ops_isOfProduct_16 ic_0 ?_
      refine r_zret rfl (by decide) d_Ops_isOfProduct_17 ?_
      exact ⟨by simp [o_prod, bI, *], rfl⟩
    · skip
      refine r_iconst 1 d_Ops_isOfProduct_12 ic_1 ?_
      refine r_goto 17 d_Ops_isOfProduct_13 (by decide) ?_
      refine r_zret rfl (by decide) d_Ops_isOfProduct_17 ?_
      exact ⟨by simp [o_prod, bI, *], rfl⟩

theorem c_Ops_grip (x : Int32) (M : nw_M) : CF G L m_Ops_grip 1 [.int x] M (some (.int (o_grip x))) M := by
  refine CJ_of (by decide) rfl (Nat.le_of_ble_eq_true rfl) ?_
  refine r_iload_n (i := 0) d_Ops_grip_0 rfl rfl ?_
  refine r_bipush 126 d_Ops_grip_1 bp_126 ?_
  refine r_icmp_ne 8 d_Ops_grip_3 (by decide) (fun h_3 => ?_) (fun h_3 => ?_)
  · skip
    refine r_iload_n (i := 0) d_Ops_grip_8 rfl rfl ?_
    refine r_S1 f_Ops_isOfProduct w_424 (c_Ops_isOfProduct _ _ ) (Nat.le_of_ble_eq_true rfl) (Nat.le_of_ble_eq_true rfl) d_Ops_grip_9 ?_
    refine r_if_eq 17 d_Ops_grip_12 (by decide) (fun h_12 => ?_) (fun h_12 => ?_)
    · skip
      refine r_iload_n (i := 0) d_Ops_grip_17 rfl rfl ?_
      refine r_S1 f_Ops_isOfSum w_425 (c_Ops_isOfSum _ _ ) (Nat.le_of_ble_eq_true rfl) (Nat.le_of_ble_eq_true rfl) d_Ops_grip_18 ?_
      refine r_if_eq 28 d_Ops_grip_21 (by decide) (fun h_21 => ?_) (fun h_21 => ?_)
      · skip
        refine r_iconst 0 d_Ops_grip_28 ic_0 ?_
        refine r_iret rfl d_Ops_grip_29 ?_
        exact ⟨by simp_all [o_grip, bI_f, bI_t], rfl⟩
      · skip
        refine r_iconst 1 d_Ops_grip_24 ic_1 ?_
        refine r_goto 29 d_Ops_grip_25 (by decide) ?_
        refine r_iret rfl d_Ops_grip_29 ?_
        exact ⟨by simp_all [o_grip, bI_f, bI_t], rfl⟩
    · skip
      refine r_iconst 2 d_Ops_grip_15 ic_2 ?_
      refine r_iret rfl d_Ops_grip_16 ?_
      exact ⟨by simp_all [o_grip, bI_f, bI_t], rfl⟩
  · skip
    refine r_iconst 3 d_Ops_grip_6 ic_3 ?_
    refine r_iret rfl d_Ops_grip_7 ?_
    exact ⟨by simp_all [o_grip, bI_f, bI_t], rfl⟩

theorem c_Ops_trapsBy (c x y : Int32) (M : nw_M) : CF G L m_Ops_trapsBy 0 [.int c, .int x, .int y] M (some (.int (bI (o_tb c x y)))) M := by
  refine CJ_of (by decide) rfl (Nat.le_of_ble_eq_true rfl) ?_
  refine r_iload_n (i := 0) d_Ops_trapsBy_0 rfl rfl ?_
  refine r_bipush 47 d_Ops_trapsBy_1 bp_47 ?_
  refine r_icmp_ne 16 d_Ops_trapsBy_3 (by decide) (fun h_3 => ?_) (fun h_3 => ?_)
  · skip
    refine r_iload_n (i := 0) d_Ops_trapsBy_16 rfl rfl ?_
    refine r_bipush 35 d_Ops_trapsBy_17 bp_35 ?_
    refine r_icmp_ne 39 d_Ops_trapsBy_19 (by decide) (fun h_19 => ?_) (fun h_19 => ?_)
    · skip
      refine r_iconst 0 d_Ops_trapsBy_39 ic_0 ?_
      refine r_zret rfl (by decide) d_Ops_trapsBy_40 ?_
      exact ⟨by simp_all [o_tb, bI, lg_cmp_0], rfl⟩
    · skip
      refine r_iload_n (i := 1) d_Ops_trapsBy_22 rfl rfl ?_
      refine r_i2l d_Ops_trapsBy_23 ?_
      refine r_iload_n (i := 2) d_Ops_trapsBy_24 rfl rfl ?_
      refine r_i2l d_Ops_trapsBy_25 ?_
      refine r_ladd d_Ops_trapsBy_26 ?_
      refine r_iload_n (i := 1) d_Ops_trapsBy_27 rfl rfl ?_
      refine r_iload_n (i := 2) d_Ops_trapsBy_28 rfl rfl ?_
      refine r_iadd d_Ops_trapsBy_29 ?_
      refine r_i2l d_Ops_trapsBy_30 ?_
      refine r_lcmp d_Ops_trapsBy_31 ?_
      refine r_if_eq 39 d_Ops_trapsBy_32 (by decide) (fun h_32 => ?_) (fun h_32 => ?_)
      · skip
        refine r_iconst 0 d_Ops_trapsBy_39 ic_0 ?_
        refine r_zret rfl (by decide) d_Ops_trapsBy_40 ?_
        exact ⟨by simp_all [o_tb, bI, lg_cmp_0], rfl⟩
      · skip
        refine r_iconst 1 d_Ops_trapsBy_35 ic_1 ?_
        refine r_goto 40 d_Ops_trapsBy_36 (by decide) ?_
        refine r_zret rfl (by decide) d_Ops_trapsBy_40 ?_
        exact ⟨by simp_all [o_tb, bI, lg_cmp_0], rfl⟩
  · skip
    refine r_iload_n (i := 2) d_Ops_trapsBy_6 rfl rfl ?_
    refine r_if_ne 14 d_Ops_trapsBy_7 (by decide) (fun h_7 => ?_) (fun h_7 => ?_)
    · skip
      refine r_iconst 0 d_Ops_trapsBy_14 ic_0 ?_
      refine r_zret rfl (by decide) d_Ops_trapsBy_15 ?_
      exact ⟨by simp_all [o_tb, bI, lg_cmp_0], rfl⟩
    · skip
      refine r_iconst 1 d_Ops_trapsBy_10 ic_1 ?_
      refine r_goto 15 d_Ops_trapsBy_11 (by decide) ?_
      refine r_zret rfl (by decide) d_Ops_trapsBy_15 ?_
      exact ⟨by simp_all [o_tb, bI, lg_cmp_0], rfl⟩

theorem c_Ops_outcome (c x y : Int32) (M : nw_M) : CF G L m_Ops_outcome 0 [.int c, .int x, .int y] M (some (.int (o_out c x y))) M := by
  refine CJ_of (by decide) rfl (Nat.le_of_ble_eq_true rfl) ?_
  refine r_iload_n (i := 0) d_Ops_outcome_0 rfl rfl ?_
  by_cases hk42 : c = 42
  · refine r_lookup 51 d_Ops_outcome_1 (by decide) (off := 50) (by rw [hk42]; rfl) (by decide) ?_
    refine r_iload_n (i := 1) d_Ops_outcome_51 rfl rfl ?_
    refine r_iload_n (i := 2) d_Ops_outcome_52 rfl rfl ?_
    refine r_imul d_Ops_outcome_53 ?_
    refine r_iret rfl d_Ops_outcome_54 ?_
    exact ⟨by simp_all [o_out], rfl⟩
  by_cases hk45 : c = 45
  · refine r_lookup 47 d_Ops_outcome_1 (by decide) (off := 46) (by rw [hk45]; rfl) (by decide) ?_
    refine r_iload_n (i := 1) d_Ops_outcome_47 rfl rfl ?_
    refine r_iload_n (i := 2) d_Ops_outcome_48 rfl rfl ?_
    refine r_isub d_Ops_outcome_49 ?_
    refine r_iret rfl d_Ops_outcome_50 ?_
    exact ⟨by simp_all [o_out], rfl⟩
  by_cases hk47 : c = 47
  · refine r_lookup 55 d_Ops_outcome_1 (by decide) (off := 54) (by rw [hk47]; rfl) (by decide) ?_
    refine r_iload_n (i := 2) d_Ops_outcome_55 rfl rfl ?_
    refine r_if_ne 63 d_Ops_outcome_56 (by decide) (fun h_56 => ?_) (fun h_56 => ?_)
    · skip
      refine r_iload_n (i := 1) d_Ops_outcome_63 rfl rfl ?_
      refine r_iload_n (i := 2) d_Ops_outcome_64 rfl rfl ?_
      refine r_idiv d_Ops_outcome_65 (h_56) ?_
      refine r_iret rfl d_Ops_outcome_66 ?_
      exact ⟨by simp_all [o_out], rfl⟩
    · skip
      refine r_iconst 0 d_Ops_outcome_59 ic_0 ?_
      refine r_goto 66 d_Ops_outcome_60 (by decide) ?_
      refine r_iret rfl d_Ops_outcome_66 ?_
      exact ⟨by simp_all [o_out], rfl⟩
  by_cases hk126 : c = 126
  · refine r_lookup 44 d_Ops_outcome_1 (by decide) (off := 43) (by rw [hk126]; rfl) (by decide) ?_
    refine r_iload_n (i := 1) d_Ops_outcome_44 rfl rfl ?_
    refine r_ineg d_Ops_outcome_45 ?_
    refine r_iret rfl d_Ops_outcome_46 ?_
    exact ⟨by simp_all [o_out], rfl⟩
  refine r_lookup 67 d_Ops_outcome_1 (by decide) (off := 66) (Eq.trans (lv_osw (k := 42) (a := 42) hk42 (by decide)) (Eq.trans (lv_osw (k := 45) (a := 45) hk45 (by decide)) (Eq.trans (lv_osw (k := 47) (a := 47) hk47 (by decide)) (Eq.trans (lv_osw (k := 126) (a := 126) hk126 (by decide)) (rfl))))) (by decide) ?_
  refine r_iload_n (i := 1) d_Ops_outcome_67 rfl rfl ?_
  refine r_iload_n (i := 2) d_Ops_outcome_68 rfl rfl ?_
  refine r_iadd d_Ops_outcome_69 ?_
  refine r_iret rfl d_Ops_outcome_70 ?_
  exact ⟨by simp_all [o_out], rfl⟩

end MOps
