-- the law, from its entry; by wip/whole/gen/mod_end.py
theorem kn_all {s : State} {args : Array Value} (c1 : ClassId) (hgw : ∀ w ∈ gw, w.before args s = true) : ∀ k : Nat, ∃ cI : ClassId × (Nat → Nat), ∀ q : vw_C, classes[k]? = some q → u_Kn s q.1 q.2.1 q.2.2 cI.1 cI.2 := by
  intro k
  match k with
  | 0 =>
    obtain ⟨c0, i0, h⟩ := u_known (C := R_Row) (T := F_Row) (N := 1) (n := 1) hgw (cls_in 0 _ rfl) (hgw _ (gw_of w_24 rfl))
    exact ⟨(c0, i0), fun q hq => by cases hq; exact h⟩
  | 1 =>
    obtain ⟨c0, i0, h⟩ := u_known (C := R_Tree) (T := F_Tree) (N := 10) (n := 10) hgw (cls_in 1 _ rfl) (hgw _ (gw_of w_80 rfl))
    exact ⟨(c0, i0), fun q hq => by cases hq; exact h⟩
  | 2 =>
    obtain ⟨c0, i0, h⟩ := u_known (C := R_Image) (T := F_Image) (N := 4) (n := 4) hgw (cls_in 2 _ rfl) (hgw _ (gw_of w_74 rfl))
    exact ⟨(c0, i0), fun q hq => by cases hq; exact h⟩
  | 3 =>
    obtain ⟨c0, i0, h⟩ := u_known (C := R_Reader) (T := F_Reader) (N := 9) (n := 9) hgw (cls_in 3 _ rfl) (hgw _ (gw_of w_38 rfl))
    exact ⟨(c0, i0), fun q hq => by cases hq; exact h⟩
  | 4 =>
    obtain ⟨c0, i0, h⟩ := u_known (C := R_Acts) (T := F_Acts) (N := 6) (n := 6) hgw (cls_in 4 _ rfl) (hgw _ (gw_of w_163 rfl))
    exact ⟨(c0, i0), fun q hq => by cases hq; exact h⟩
  | 5 =>
    obtain ⟨c0, i0, h⟩ := u_known (C := R_Costs) (T := F_Costs) (N := 5) (n := 5) hgw (cls_in 5 _ rfl) (hgw _ (gw_of w_191 rfl))
    exact ⟨(c0, i0), fun q hq => by cases hq; exact h⟩
  | 6 =>
    obtain ⟨c0, i0, h⟩ := u_known (C := R_Program) (T := F_Program) (N := 5) (n := 5) hgw (cls_in 6 _ rfl) (hgw _ (gw_of w_215 rfl))
    exact ⟨(c0, i0), fun q hq => by cases hq; exact h⟩
  | 7 =>
    obtain ⟨c0, i0, h⟩ := u_known (C := R_Device) (T := F_Device) (N := 5) (n := 5) hgw (cls_in 7 _ rfl) (hgw _ (gw_of w_241 rfl))
    exact ⟨(c0, i0), fun q hq => by cases hq; exact h⟩
  | 8 =>
    obtain ⟨c0, i0, h⟩ := u_known (C := R_Shares) (T := F_Shares) (N := 7) (n := 7) hgw (cls_in 8 _ rfl) (hgw _ (gw_of w_267 rfl))
    exact ⟨(c0, i0), fun q hq => by cases hq; exact h⟩
  | 9 =>
    obtain ⟨c0, i0, h⟩ := u_known (C := R_Need) (T := F_Need) (N := 14) (n := 14) hgw (cls_in 9 _ rfl) (hgw _ (gw_of w_16 rfl))
    exact ⟨(c0, i0), fun q hq => by cases hq; exact h⟩
  | 10 =>
    obtain ⟨c0, i0, h⟩ := u_known (C := R_Model) (T := F_Model) (N := 32) (n := 32) hgw (cls_in 10 _ rfl) (hgw _ (gw_of w_835 rfl))
    exact ⟨(c0, i0), fun q hq => by cases hq; exact h⟩
  | k + 11 => exact ⟨(c1, fun _ => 0), fun q hq => by simp [classes] at hq⟩
theorem lw_split {E : kE} {ac am : Nat → Nat} {M M2 : nw_M} {A : Nat → Prop} {H : Heap} (hP : va_P E.1 classes (nw_W (E.1, E.2, ac) LC M ++ nw_W (E.1, E.2, am) LM M2) H) (hD : va_D A (nw_W (E.1, E.2, ac) LC M ++ nw_W (E.1, E.2, am) LM M2)) : LW E ac am M M2 A H := by
  have lft : ∀ (i : Nat) (q : Nat × va_E), (nw_W (E.1, E.2, ac) LC M)[i]? = some q → (nw_W (E.1, E.2, ac) LC M ++ nw_W (E.1, E.2, am) LM M2)[i]? = some q := fun i q h => by
    rw [List.getElem?_append_left (List.getElem?_eq_some_iff.mp h).1]; exact h
  have rgt : ∀ (i : Nat) (q : Nat × va_E), (nw_W (E.1, E.2, am) LM M2)[i]? = some q → (nw_W (E.1, E.2, ac) LC M ++ nw_W (E.1, E.2, am) LM M2)[LC.length + i]? = some q := fun i q h => by
    rw [List.getElem?_append_right (by rw [nwW_len]; omega), nwW_len, Nat.add_sub_cancel_left]; exact h
  refine ⟨fun k q hk => hP k q (lft k q hk), fun k q hk => hP _ q (rgt k q hk), ⟨fun i j p q h1 h2 h3 => hD.1 i j p q (lft i p h1) (lft j q h2) h3, fun k q hk => hD.2 k q (lft k q hk)⟩, ⟨fun i j p q h1 h2 h3 => by have := hD.1 _ _ p q (rgt i p h1) (rgt j q h2) h3; omega, fun k q hk => hD.2 _ q (rgt k q hk)⟩, fun i j hi hj he => ?_⟩
  obtain ⟨e1, h1⟩ : ∃ e1, LC[i]? = some e1 := ⟨_, List.getElem?_eq_getElem hi⟩
  obtain ⟨e2, h2⟩ : ∃ e2, LM[j]? = some e2 := ⟨_, List.getElem?_eq_getElem hj⟩
  have := hD.1 _ _ _ _ (lft i _ (nw_at (G := (E.1, E.2, ac)) h1)) (rgt j _ (nw_at (G := (E.1, E.2, am)) h2)) he
  omega
section WS
variable {E : kE} {ac am : Nat → Nat} {p : Program} {l : Launch} {e : Env} {s : State} {m : MethodId} {below : List Frame} {meth : Method} {c : Code} {b L : Nat} {xs : Nat → Int32} {M M2 : nw_M}
theorem ws_env (C0 : lw_At p s m meth c b L xs) : ∃ E : kE, LCx E p s m meth c b L xs := by
  obtain ⟨hx, hb, hr, hml, hown, hts, hX, hbl, hlocks, hgv⟩ := id C0
  have hgw : ∀ w ∈ gw, w.before #[Value.ref b] s = true := fun w hw => hts w (List.mem_filter.mp hw).1
  have hnest : ∀ w ∈ nests, va_Nw w s := fun w hw => va_Nw.of (nests_on hw) (hts w (List.mem_filter.mp hw).1)
  have hkn := kn_all m.cls hgw
  obtain ⟨cI, kI, pI, a1, a2, a3⟩ := Cond.arrayClass_spec (hgw _ (gw_of w_36 rfl))
  obtain ⟨cZ, kZ, pZ, b1, b2, b3⟩ := Cond.arrayClass_spec (hgw _ (gw_of w_937 rfl))
  refine ⟨((fun k => (hkn k).choose.1, fun k => (hkn k).choose.2), (cI, cZ)), C0, ⟨fun k q hq => (hkn k).choose_spec q hq, fun k q hq => ?_⟩, hnest, hgw⟩
  match k, hq with
  | 0, hq => cases hq; exact ⟨fun n z => ⟨fun k h => (by cases h), kI, a2, pI, a3⟩, a1⟩
  | 1, hq => cases hq; exact ⟨fun n z => ⟨fun k h => (by cases h), kZ, b2, pZ, b3⟩, b1⟩
  | k + 2, hq => simp [kTy] at hq
theorem ws_3 (X : LCx E p s m meth c b L xs) (hL : L ≤ 3072) (hI : I0 M) (hI2 : I1 M2) {H : Heap} {locs : List Loc} {ls : Array Slot} (hl2 : nl_has ls [some (.ref b), some (.ref (ac 0)), none, none]) (hP : va_P E.1 classes (nw_W (E.1, E.2, ac) LC M ++ nw_W (E.1, E.2, am) LM M2) H) (hD : va_D (fun q => s.heap.size ≤ q) (nw_W (E.1, E.2, ac) LC M ++ nw_W (E.1, E.2, am) LM M2)) (hS : va_S (fun q => s.heap.size ≤ q) s.heap H locs) {cells slots : Nat} (h1 : cells ≤ 162) (h2 : slots ≤ 7995) : W p l e room_1 s m #[Value.ref b] below meth c H locs cells slots (lw_Z below #[Value.ref b] s) (F0 m 15 ls [.ref (am 0)]) := by
  refine lv_astore_n X.1.1 X.1.2.1 d_law_15 (i := 2) rfl (nl_lv hl2) (Nat.le_of_ble_eq_true rfl) rfl (fun ls3 h3 => ?_)
  have hl3 : nl_has ls3 [some (.ref b), some (.ref (ac 0)), some (.ref (am 0)), none] := nl_back hl2 (Nat.le_of_ble_eq_true rfl) rfl h3
  refine lv_iconst (v := 0) X.1.1 X.1.2.1 d_law_16 ic_0 ?_
  refine lv_istore_n X.1.1 X.1.2.1 d_law_17 (i := 3) rfl (nl_lv hl3) (Nat.le_of_ble_eq_true rfl) rfl (fun ls4 h4 => ?_)
  have hl4 : nl_has ls4 [some (.ref b), some (.ref (ac 0)), some (.ref (am 0)), some (.int (nI 0))] := nl_back hl3 (Nat.le_of_ble_eq_true rfl) rfl h4
  refine W.widen (k := 162) (n := 7995) h1 h2 ?_
  exact law_loop X hL L 0 M M2 (by omega) (Nat.zero_le _) (jr_0 hI hI2) H locs ls4 (lw_split hP hD) hS hl4 rfl
theorem ws_2 (X : LCx E p s m meth c b L xs) (hL : L ≤ 3072) (hI : I0 M) {H : Heap} {locs : List Loc} {ls : Array Slot} (hl2 : nl_has ls [some (.ref b), some (.ref (ac 0)), none, none]) (hP : va_P E.1 classes (nw_W (E.1, E.2, ac) LC M) H) (hD : va_D (fun q => s.heap.size ≤ q) (nw_W (E.1, E.2, ac) LC M)) (hS : va_S (fun q => s.heap.size ≤ q) s.heap H locs) : W p l e room_1 s m #[Value.ref b] below meth c H locs 141 3121 (lw_Z below #[Value.ref b] s) (F0 m 8 ls []) := by
  refine va_new (ci := 10) (fs := [.int 0, .null, .int 0, .int 0, .int 0, .null, .null, .null, .null, .int 0, .null, .null, .int 0, .int 0, .null, .int 0, .null, .null, .int 0, .null, .null, .null, .null, .null, .int 0, .null, .int 0, .null, .int 0, .null, .null, .null]) (C := R_Model) (T := F_Model) (N := 32) X.1.1 X.1.2.1 X.2.2.2 (cls_in 10 _ rfl) (clty 10) (cls_ty 10 _ rfl) X.1.2.2.2.2.1 (X.2.2.2 _ (gw_of w_834 rfl)) (X.2.2.2 _ (gw_of w_835 rfl)) (X.2.2.2 _ (gw_of w_12 rfl)) X.2.1 hP hD hS (fun _ h => h) rfl (fun j hj => by rcases (show j = 0 ∨ j = 1 ∨ j = 2 ∨ j = 3 ∨ j = 4 ∨ j = 5 ∨ j = 6 ∨ j = 7 ∨ j = 8 ∨ j = 9 ∨ j = 10 ∨ j = 11 ∨ j = 12 ∨ j = 13 ∨ j = 14 ∨ j = 15 ∨ j = 16 ∨ j = 17 ∨ j = 18 ∨ j = 19 ∨ j = 20 ∨ j = 21 ∨ j = 22 ∨ j = 23 ∨ j = 24 ∨ j = 25 ∨ j = 26 ∨ j = 27 ∨ j = 28 ∨ j = 29 ∨ j = 30 ∨ j = 31 by omega) with rfl | rfl | rfl | rfl | rfl | rfl | rfl | rfl | rfl | rfl | rfl | rfl | rfl | rfl | rfl | rfl | rfl | rfl | rfl | rfl | rfl | rfl | rfl | rfl | rfl | rfl | rfl | rfl | rfl | rfl | rfl | rfl <;> rfl) (Nat.le_of_ble_eq_true rfl) (Nat.le_of_ble_eq_true rfl) d_law_8 (fun q1 H3 hP3 hD3 hS3 => ?_)
  refine lv_dup X.1.1 X.1.2.1 d_law_11 rfl ?_
  refine w_init (own := R_law) (ws := nw_W (E.1, E.2, ac) LC M) (As := []) (rest := [.ref q1]) X.1.1 X.1.2.1 X.1.2.2.2.1 X.1.2.2.2.2.1 X.2.2.2 X.2.1 X.2.2.1 f_Model_init w_836 (c_Model_init (E := E) (h0 := q1)) ⟨Nat.le_of_ble_eq_true rfl, Nat.le_of_ble_eq_true rfl⟩ rfl rfl (Nat.le_of_ble_eq_true rfl) d_law_12 ⟨Nat.le_of_ble_eq_true rfl, Nat.le_of_ble_eq_true rfl⟩ hl2.1 hP3 hD3 hS3 (fun _ h => h) (fun w2 H4 locs4 hN2 hP4 hD4 hS4 => ?_)
  obtain ⟨am, M2, ham, hw, hI2⟩ := hN2
  subst ham
  rw [hw] at hP4 hD4
  exact ws_3 X hL hI hI2 hl2 hP4 hD4 hS4 (Nat.le_of_ble_eq_true rfl) (Nat.le_of_ble_eq_true rfl)
theorem ws_1 (X : LCx E p s m meth c b L xs) (hL : L ≤ 3072) {ls : Array Slot} (hl : nl_has ls [some (.ref b), none, none, none]) : W p l e room_1 s m #[Value.ref b] below meth c s.heap [] 0 0 (lw_Z below #[Value.ref b] s) (F0 m 0 ls []) := by
  have hS : va_S (fun q : Nat => s.heap.size ≤ q) s.heap s.heap [] := va_S.rf
  have hP : va_P E.1 classes [] s.heap := fun k q h => by simp at h
  have hD : va_D (fun q : Nat => s.heap.size ≤ q) [] := ⟨fun i j p q h => by simp at h, fun k q h => by simp at h⟩
  refine va_new (ci := 9) (fs := [.null, .null, .null, .null, .null, .null, .null, .null, .null, .null, .null, .int 0, .int 0, .int 0]) (C := R_Need) (T := F_Need) (N := 14) X.1.1 X.1.2.1 X.2.2.2 (cls_in 9 _ rfl) (clty 9) (cls_ty 9 _ rfl) X.1.2.2.2.2.1 (X.2.2.2 _ (gw_of w_15 rfl)) (X.2.2.2 _ (gw_of w_16 rfl)) (X.2.2.2 _ (gw_of w_1 rfl)) X.2.1 hP hD hS (fun _ h => h) rfl (fun j hj => by rcases (show j = 0 ∨ j = 1 ∨ j = 2 ∨ j = 3 ∨ j = 4 ∨ j = 5 ∨ j = 6 ∨ j = 7 ∨ j = 8 ∨ j = 9 ∨ j = 10 ∨ j = 11 ∨ j = 12 ∨ j = 13 by omega) with rfl | rfl | rfl | rfl | rfl | rfl | rfl | rfl | rfl | rfl | rfl | rfl | rfl | rfl <;> rfl) (Nat.le_of_ble_eq_true rfl) (Nat.le_of_ble_eq_true rfl) d_law_0 (fun q0 H1 hP1 hD1 hS1 => ?_)
  refine lv_dup X.1.1 X.1.2.1 d_law_3 rfl ?_
  refine w_init (own := R_law) (ws := []) (As := []) (rest := [.ref q0]) X.1.1 X.1.2.1 X.1.2.2.2.1 X.1.2.2.2.2.1 X.2.2.2 X.2.1 X.2.2.1 f_Need_init w_17 (c_Need_init (E := E) (h0 := q0)) ⟨Nat.le_of_ble_eq_true rfl, Nat.le_of_ble_eq_true rfl⟩ rfl rfl (Nat.le_of_ble_eq_true rfl) d_law_4 ⟨Nat.le_of_ble_eq_true rfl, Nat.le_of_ble_eq_true rfl⟩ hl.1 hP1 hD1 hS1 (fun _ h => h) (fun w1 H2 locs2 hN hP2 hD2 hS2 => ?_)
  obtain ⟨ac, M, hac, hw, hI⟩ := hN
  subst hac
  rw [hw, List.nil_append] at hP2 hD2
  refine lv_astore_n X.1.1 X.1.2.1 d_law_7 (i := 1) rfl (nl_lv hl) (Nat.le_of_ble_eq_true rfl) rfl (fun ls2 h2 => ?_)
  have hl2 : nl_has ls2 [some (.ref b), some (.ref (ac 0)), none, none] := nl_back hl (Nat.le_of_ble_eq_true rfl) rfl h2
  refine W.widen (k := 141) (n := 3121) (Nat.le_of_ble_eq_true rfl) (Nat.le_of_ble_eq_true rfl) ?_
  exact ws_2 X hL hI hl2 hP2 hD2 hS2
end WS
