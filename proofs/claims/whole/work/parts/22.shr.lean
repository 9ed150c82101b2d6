-- Shares
def occ (ak : Nat → Nat) (f : Nat) : Nat → Nat
  | 0 => 0
  | j + 1 => occ ak f j + if ak j = f then 1 else 0
theorem occ_0 {ak : Nat → Nat} {f : Nat} : ∀ j, (∀ i, i < j → ak i ≠ f) → occ ak f j = 0
  | 0, _ => rfl
  | j + 1, h => by rw [occ, occ_0 j (fun i hi => h i (by omega)), if_neg (h j (by omega))]
theorem occ_le {ak : Nat → Nat} {f : Nat} : ∀ j, occ ak f j ≤ j
  | 0 => Nat.le_refl _
  | j + 1 => by have := occ_le (ak := ak) (f := f) j; rw [occ]; split <;> omega
/-- what is SHARED: the first NODES, rising -/
def shQ (n : Nat) (lf : Nat → Int32) (tp : Nat → Bool) (ak : Nat → Nat) (k : Nat) : Bool := decide (lf k ≠ -9) && !tp k && decide (ak k = k) && decide (2 ≤ occ ak k n)
def shl (n : Nat) (lf : Nat → Int32) (tp : Nat → Bool) (ak : Nat → Nat) : Nat → List Nat
  | 0 => []
  | k + 1 => shl n lf tp ak k ++ if shQ n lf tp ak k then [k] else []
def shL (n : Nat) (lf : Nat → Int32) (tp : Nat → Bool) (ak : Nat → Nat) : List Nat := (shl n lf tp ak n).take 5
theorem shl_pre {n : Nat} {lf : Nat → Int32} {tp : Nat → Bool} {ak : Nat → Nat} (k : Nat) : ∀ d, ∃ r, shl n lf tp ak (k + d) = shl n lf tp ak k ++ r
  | 0 => ⟨[], by simp⟩
  | d + 1 => by
    obtain ⟨r, hr⟩ := shl_pre k d
    exact ⟨r ++ if shQ n lf tp ak (k + d) then [k + d] else [], by rw [show k + (d + 1) = k + d + 1 by omega, shl, hr, List.append_assoc]⟩
theorem shl_mem {n : Nat} {lf : Nat → Int32} {tp : Nat → Bool} {ak : Nat → Nat} : ∀ (k x : Nat), x ∈ shl n lf tp ak k ↔ x < k ∧ shQ n lf tp ak x = true
  | 0, x => by simp [shl]
  | k + 1, x => by
    rw [shl, List.mem_append, shl_mem k x]
    by_cases h : shQ n lf tp ak k = true
    · rw [if_pos h]
      simp
      constructor
      · rintro (⟨a, b⟩ | rfl)
        · exact ⟨by omega, b⟩
        · exact ⟨by omega, h⟩
      · rintro ⟨a, b⟩
        rcases Nat.lt_or_ge x k with q | q
        · exact Or.inl ⟨q, b⟩
        · exact Or.inr (by omega)
    · rw [if_neg h]
      simp
      intro b
      refine ⟨fun a => by omega, fun a => ?_⟩
      rcases Nat.lt_or_ge x k with q | q
      · exact q
      · exact absurd (show shQ n lf tp ak k = true by rw [show k = x by omega]; exact b) h
theorem shl_sorted {n : Nat} {lf : Nat → Int32} {tp : Nat → Bool} {ak : Nat → Nat} : ∀ (k i j x y : Nat), (shl n lf tp ak k)[i]? = some x → (shl n lf tp ak k)[j]? = some y → i < j → x < y
  | 0, i, j, x, y, h, _, _ => by simp [shl] at h
  | k + 1, i, j, x, y, hi, hj, hij => by
    rw [shl] at hi hj
    have hlj := (List.getElem?_eq_some_iff.mp hj).1
    rcases Nat.lt_or_ge j (shl n lf tp ak k).length with q | q
    · rw [List.getElem?_append_left q] at hj
      rw [List.getElem?_append_left (by omega)] at hi
      exact shl_sorted k i j x y hi hj hij
    · rw [List.getElem?_append_right q] at hj
      have ey : y = k := by
        have := List.mem_of_getElem? hj
        by_cases h : shQ n lf tp ak k = true
        · rw [if_pos h] at this; simpa using this
        · rw [if_neg h] at this; simp at this
      rcases Nat.lt_or_ge i (shl n lf tp ak k).length with q2 | q2
      · rw [List.getElem?_append_left q2] at hi
        have := (shl_mem k x).mp (List.mem_of_getElem? hi)
        omega
      · rw [List.length_append] at hlj
        by_cases h : shQ n lf tp ak k = true
        · rw [if_pos h] at hlj; simp at hlj; omega
        · rw [if_neg h] at hlj; simp at hlj; omega
theorem shL_len {n : Nat} {lf : Nat → Int32} {tp : Nat → Bool} {ak : Nat → Nat} : (shL n lf tp ak).length ≤ 5 := by unfold shL; simp; omega
theorem shL_at {n : Nat} {lf : Nat → Int32} {tp : Nat → Bool} {ak : Nat → Nat} {c x : Nat} (h : (shL n lf tp ak)[c]? = some x) : x < n ∧ shQ n lf tp ak x = true := (shl_mem n x).mp (List.mem_of_mem_take (List.mem_of_getElem? h))
def inS (S f : Nat) : Nat → List Nat → Bool
  | _, [] => false
  | c, g :: r => if g = f then S.testBit c else inS S f (c + 1) r
theorem bit32 : ∀ S, S < 32 → ∀ c, c < 5 → ((((nI S >>> (nI c &&& 31)) &&& 1) = 1) ↔ S.testBit c = true) := by decide +kernel
theorem shl32 : ∀ F, F < 6 → (1 : Int32) <<< (nI F &&& 31) = nI (2 ^ F) := by decide +kernel
section MShr
variable {G : nw_G}
theorem l_Shares_timesOf {n f : Nat} {M : nw_M} {ak : Nat → Nat} (hn : n ≤ 31) (hf : f < n) (hs : M 11 9 = nI n) (ha : ∀ j, j < n → M 29 j = nI (ak j)) (hak : ∀ j, j < n → ak j ≤ j) {P : Option Value → nw_M → Prop} (hP : P (some (.int (nI (occ ak f n)))) M) : ∀ (d j : Nat), j + d = n → RJ G LC m_Shares_timesOf 2 P 4 [some (.ref (G.2.2 11)), some (.int (nI f)), some (.int (nI (occ ak f j))), some (.int (nI j))] [] M := by
  intro d
  induction d with
  | zero =>
    intro j hj
    simp only [Nat.add_zero] at hj
    subst hj
    refine r_iload_n (i := 3) d_Shares_timesOf_4 rfl rfl ?_
    refine r_aload_n (i := 0) d_Shares_timesOf_5 rfl rfl ?_
    refine r_geti nf_Shares_38 tree_11.1 rfl d_Shares_timesOf_6 ?_
    rw [hs]
    refine r_icmp_ge 33 d_Shares_timesOf_9 (by decide) (fun _ => ?_) (fun h9 => absurd (nI_le (Nat.le_refl _) (by omega)) h9)
    refine r_iload_n (i := 2) d_Shares_timesOf_33 rfl rfl ?_
    exact r_iret rfl d_Shares_timesOf_34 hP
  | succ d ih =>
    intro j hj
    have hlt : ak j < 2 ^ 31 ∨ True := Or.inr trivial
    refine r_iload_n (i := 3) d_Shares_timesOf_4 rfl rfl ?_
    refine r_aload_n (i := 0) d_Shares_timesOf_5 rfl rfl ?_
    refine r_geti nf_Shares_38 tree_11.1 rfl d_Shares_timesOf_6 ?_
    rw [hs]
    refine r_icmp_ge 33 d_Shares_timesOf_9 (by decide) (fun h_9 => ?_) (fun h_9 => ?_)
    · skip
      exact absurd h_9 (nI_ge (by omega) (by omega))
    · skip
      refine r_aload_n (i := 0) d_Shares_timesOf_12 rfl rfl ?_
      refine r_getr nf_Shares_43 tree_11.1 rfl d_Shares_timesOf_13 ?_
      refine r_iload_n (i := 3) d_Shares_timesOf_16 rfl rfl ?_
      refine r_V1 v_Row_get w_520 (isTree.alikes tree_11).1 (c2_Row_get (isTree.alikes tree_11) (by omega) (ha j (by omega))) (Nat.le_of_ble_eq_true rfl) (Nat.le_of_ble_eq_true rfl) d_Shares_timesOf_17 ?_
      refine r_iload_n (i := 1) d_Shares_timesOf_20 rfl rfl ?_
      refine r_icmp_ne 27 d_Shares_timesOf_21 (by decide) (fun h_21 => ?_) (fun h_21 => ?_)
      · skip
        refine r_iinc d_Shares_timesOf_27 rfl (nI_inc j) (Nat.le_of_ble_eq_true rfl) rfl ?_
        dsimp only [List.set]
        refine r_goto 4 d_Shares_timesOf_30 (by decide) ?_
        have e : occ ak f (j + 1) = occ ak f j := by rw [occ, if_neg (fun e => h_21 (by rw [e]))]; rfl
        have := ih (j + 1) (by omega)
        rw [e] at this
        exact this
      · skip
        refine r_iinc d_Shares_timesOf_24 rfl (nI_inc (occ ak f j)) (Nat.le_of_ble_eq_true rfl) rfl ?_
        dsimp only [List.set]
        refine r_iinc d_Shares_timesOf_27 rfl (nI_inc j) (Nat.le_of_ble_eq_true rfl) rfl ?_
        dsimp only [List.set]
        refine r_goto 4 d_Shares_timesOf_30 (by decide) ?_
        have hb := hak j (by omega)
        have e : occ ak f (j + 1) = occ ak f j + 1 := by rw [occ, if_pos ((nI_eq (by omega) (by omega)).mp h_21)]
        have := ih (j + 1) (by omega)
        rw [e] at this
        exact this

theorem c_Shares_timesOf {n f : Nat} {M : nw_M} {ak : Nat → Nat} (hn : n ≤ 31) (hf : f < n) (hs : M 11 9 = nI n) (ha : ∀ j, j < n → M 29 j = nI (ak j)) (hak : ∀ j, j < n → ak j ≤ j) : CF G LC m_Shares_timesOf 2 [.ref (G.2.2 11), .int (nI f)] M (some (.int (nI (occ ak f n)))) M := by
  refine CJ_of2 (n0 := 2) (by decide) rfl rfl ?_
  simp only [List.map_cons, List.map_nil, List.cons_append, List.nil_append, List.reduceReplicate]
  refine r_iconst 0 d_Shares_timesOf_0 ic_0 ?_
  refine r_istore_n (i := 2) d_Shares_timesOf_1 rfl (Nat.le_of_ble_eq_true rfl) rfl ?_
  dsimp only [List.set]
  refine r_iload_n (i := 1) d_Shares_timesOf_2 rfl rfl ?_
  refine r_istore_n (i := 3) d_Shares_timesOf_3 rfl (Nat.le_of_ble_eq_true rfl) rfl ?_
  dsimp only [List.set]
  have e : occ ak f f = 0 := occ_0 f (fun i hi => by have := hak i (by omega); omega)
  have := l_Shares_timesOf (G := G) hn hf hs ha hak (P := fun v N' => v = some (.int (nI (occ ak f n))) ∧ N' = M) ⟨rfl, rfl⟩ (n - f) f (by omega)
  rw [e] at this
  exact this

end MShr
