-- constructors; by wip/whole/gen/mod_i1.py
def LRow (n : Nat) : nw_L := [.inl (0, [some 1]), .inr (false, n)]
def L_Tree : nw_L := [.inl (1, [some 1, some 3, some 5, some 7, some 9, some 11, some 13, some 15, some 17, none]), .inl (0, [some 2]), .inr (false, 31), .inl (0, [some 4]), .inr (false, 31), .inl (0, [some 6]), .inr (false, 31), .inl (0, [some 8]), .inr (false, 31), .inl (0, [some 10]), .inr (false, 31), .inl (0, [some 12]), .inr (false, 31), .inl (0, [some 14]), .inr (false, 31), .inl (0, [some 16]), .inr (false, 31), .inl (0, [some 18]), .inr (false, 31)]
def L_Reader : nw_L := [.inl (3, [some 1, some 3, some 5, none, none, none, none, none, none]), .inl (0, [some 2]), .inr (false, 60), .inl (0, [some 4]), .inr (false, 60), .inl (0, [some 6]), .inr (false, 31)]
def L_Acts : nw_L := [.inl (4, [some 1, some 3, some 5, some 7, none, none]), .inl (0, [some 2]), .inr (false, 10), .inl (0, [some 4]), .inr (false, 10), .inl (0, [some 6]), .inr (false, 10), .inl (0, [some 8]), .inr (false, 50)]
def L_Costs : nw_L := [.inl (5, [some 1, some 3, some 5, none, none]), .inl (0, [some 2]), .inr (false, 217), .inl (0, [some 4]), .inr (false, 217), .inl (0, [some 6]), .inr (false, 31)]
def L_Program : nw_L := [.inl (6, [some 1, some 3, none, none, none]), .inl (0, [some 2]), .inr (false, 465), .inl (0, [some 4]), .inr (false, 31)]
def L_Device : nw_L := [.inl (7, [some 1, some 3, some 5, none, none]), .inl (0, [some 2]), .inr (false, 31), .inl (0, [some 4]), .inr (false, 6), .inl (0, [some 6]), .inr (false, 31)]
def L_Image : nw_L := [.inl (2, [some 1, some 20, some 22, none]), .inl (1, [some 2, some 4, some 6, some 8, some 10, some 12, some 14, some 16, some 18, none]), .inl (0, [some 3]), .inr (false, 31), .inl (0, [some 5]), .inr (false, 31), .inl (0, [some 7]), .inr (false, 31), .inl (0, [some 9]), .inr (false, 31), .inl (0, [some 11]), .inr (false, 31), .inl (0, [some 13]), .inr (false, 31), .inl (0, [some 15]), .inr (false, 31), .inl (0, [some 17]), .inr (false, 31), .inl (0, [some 19]), .inr (false, 31), .inl (0, [some 21]), .inr (false, 8), .inl (0, [some 23]), .inr (false, 5)]
def L_Shares : nw_L := [.inl (8, [some 1, some 3, some 5, none, none, none, none]), .inl (0, [some 2]), .inr (false, 5), .inl (0, [some 4]), .inr (false, 5), .inl (5, [some 6, some 8, some 10, none, none]), .inl (0, [some 7]), .inr (false, 217), .inl (0, [some 9]), .inr (false, 217), .inl (0, [some 11]), .inr (false, 31)]
def fD : Nat → Int32 := fun j => if j = 4 then -9 else 0
def zD : nw_M := glb 1 (fun _ => fD) z0
def mpx (f : Nat → Option Nat → Value) : Nat → List (Option Nat) → List Value
  | _, [] => []
  | i, x :: r => f i x :: mpx f (i + 1) r
theorem mpx_get (f : Nat → Option Nat → Value) : ∀ (l : List (Option Nat)) (i j : Nat), (mpx f i l)[j]? = (l[j]?).map (f (i + j))
  | [], i, j => by simp [mpx]
  | x :: r, i, 0 => by simp [mpx]
  | x :: r, i, j + 1 => by
    rw [mpx, List.getElem?_cons_succ, mpx_get f r (i + 1) j, List.getElem?_cons_succ, show i + 1 + j = i + (j + 1) by omega]
theorem mpx_eq (f : Nat → Option Nat → Value) (l : List (Option Nat)) : mpx f 0 l = l.mapIdx f := by
  apply List.ext_getElem?
  intro j
  rw [mpx_get, List.getElem?_mapIdx, Nat.zero_add]
section II
variable {E : kE} {h0 : Nat}
theorem PS_of {ci : Nat} {fs : List Value} {fl : List (Option Nat)} {L LR : nw_L} {adR : Nat → Nat} {f0 : Nat → Int32} {MR M0 : nw_M} (hL : L = .inl (ci, fl) :: LR.map (shE 1)) (hfs : fs = mpx (nw_f (glb 1 (fun _ => h0) adR) f0) 0 fl) (hM : glb 1 (fun _ => f0) MR = M0) : PS E L M0 h0 ((h0, .inr (ci, fs)) :: nw_W (E.1, E.2, adR) LR MR) := ⟨_, rfl, (nw_obj hL (hfs.trans (mpx_eq _ _))).trans (by rw [hM])⟩
theorem c_Row_init {n : Nat} (hn : n ≤ 1000) : KC E m_Row_init 1 1 n [.ref h0, .int (nI n)] [(h0, .inr (0, [.null]))] (PS E (LRow n) z0 h0) := by
  refine KC_of (by decide) rfl (Nat.le_of_ble_eq_true rfl) rfl ?_
  refine k_aload0 d_Row_init_0 rfl ?_
  refine k_obj w_28 (Nat.le_of_ble_eq_true rfl) d_Row_init_1 ?_
  refine k_aload0 d_Row_init_4 rfl ?_
  refine k_iconst 0 d_Row_init_5 ic_0 ?_
  refine k_iload1 d_Row_init_6 rfl ?_
  refine k_mmax w_29 (Nat.le_of_ble_eq_true rfl) (Nat.le_of_ble_eq_true rfl) (Nat.le_of_ble_eq_true rfl) (Nat.le_of_ble_eq_true rfl) d_Row_init_7 ?_
  have e : (if (0 : Int32) < nI n then nI n else 0) = nI n := by
    by_cases h : n = 0
    · subst h; rfl
    · have hlt : (0 : Int32) < nI n := (nI_ltI (a := 0) (b := n) (by omega) (by omega)).mpr (by omega)
      rw [if_pos hlt]
  refine k_num e ?_
  refine k_newa rfl (by omega) (by omega) (by omega) d_Row_init_10 (fun q => ?_)
  refine k_eq (ws' := (h0, .inr (0, [.null])) :: [(q, .inl (E.2.1, n, .inl (fun _ => 0)))]) rfl ?_
  refine k_putF (ci := 0) (j := 0) rfl (Nat.le_of_ble_eq_true rfl) rfl rfl w_32 rfl rfl rfl (Nat.le_of_ble_eq_true rfl) d_Row_init_12 ?_
  refine k_ret rfl (by omega) (by omega) d_Row_init_15 ?_
  exact ⟨fun i => if i = 0 then h0 else q, rfl, rfl⟩
set_option maxRecDepth 10000 in
set_option maxHeartbeats 2000000 in
theorem c_Tree_init : KC E m_Tree_init 2 18 288 [.ref h0] [(h0, .inr (1, [.null, .null, .null, .null, .null, .null, .null, .null, .null, .int 0]))] (PS E L_Tree z0 h0) := by
  refine KC_of (by decide) rfl (Nat.le_of_ble_eq_true rfl) rfl ?_
  refine k_eq (ws' := (h0, .inr (1, [.null, .null, .null, .null, .null, .null, .null, .null, .null, .int 0])) :: nw_W (E.1, E.2, fun _ => 0) [] z0) rfl ?_
  refine k_aload0 d_Tree_init_0 rfl ?_
  refine k_obj w_84 (Nat.le_of_ble_eq_true rfl) d_Tree_init_1 ?_
  refine k_aload0 d_Tree_init_4 rfl ?_
  refine k_new (ci := 0) (fs := [.null]) rfl w_85 w_24 w_2 (fun j hj => by rw [show j = 0 by omega]; rfl) (Nat.le_of_ble_eq_true rfl) (Nat.le_of_ble_eq_true rfl) d_Tree_init_5 (fun q0 => ?_)
  refine k_dup d_Tree_init_8 ?_
  refine k_bipush 31 d_Tree_init_9 bp_31 ?_
  refine k_num (y := nI 31) rfl ?_
  refine k_field (LR := []) (LR2 := [.inl (0, [some 1]), .inr (false, 31)]) (ci := 1) (j := 0) (nb := 0) (by decide +kernel) f_Row_init (Or.inl w_86) (c_Row_init (E := E) (h0 := q0) (n := 31) (Nat.le_of_ble_eq_true rfl)) (Nat.le_of_ble_eq_true rfl) rfl rfl (Nat.le_of_ble_eq_true rfl) (Nat.le_of_ble_eq_true rfl) d_Tree_init_11 rfl (Nat.le_of_ble_eq_true rfl) rfl rfl w_87 rfl ⟨_, rfl⟩ (Nat.le_of_ble_eq_true rfl) d_Tree_init_14 (by decide +kernel) (by decide +kernel) (fun a0 => ?_)
  rw [glb_z]
  dsimp only [List.set]
  refine k_aload0 d_Tree_init_17 rfl ?_
  refine k_new (ci := 0) (fs := [.null]) rfl w_85 w_24 w_2 (fun j hj => by rw [show j = 0 by omega]; rfl) (Nat.le_of_ble_eq_true rfl) (Nat.le_of_ble_eq_true rfl) d_Tree_init_18 (fun q1 => ?_)
  refine k_dup d_Tree_init_21 ?_
  refine k_bipush 31 d_Tree_init_22 bp_31 ?_
  refine k_num (y := nI 31) rfl ?_
  refine k_field (LR := [.inl (0, [some 1]), .inr (false, 31)]) (LR2 := [.inl (0, [some 1]), .inr (false, 31), .inl (0, [some 3]), .inr (false, 31)]) (ci := 1) (j := 1) (nb := 2) (by decide +kernel) f_Row_init (Or.inl w_86) (c_Row_init (E := E) (h0 := q1) (n := 31) (Nat.le_of_ble_eq_true rfl)) (Nat.le_of_ble_eq_true rfl) rfl rfl (Nat.le_of_ble_eq_true rfl) (Nat.le_of_ble_eq_true rfl) d_Tree_init_24 rfl (Nat.le_of_ble_eq_true rfl) rfl rfl w_91 rfl ⟨_, rfl⟩ (Nat.le_of_ble_eq_true rfl) d_Tree_init_27 (by decide +kernel) (by decide +kernel) (fun a1 => ?_)
  rw [glb_z]
  dsimp only [List.set]
  refine k_aload0 d_Tree_init_30 rfl ?_
  refine k_new (ci := 0) (fs := [.null]) rfl w_85 w_24 w_2 (fun j hj => by rw [show j = 0 by omega]; rfl) (Nat.le_of_ble_eq_true rfl) (Nat.le_of_ble_eq_true rfl) d_Tree_init_31 (fun q2 => ?_)
  refine k_dup d_Tree_init_34 ?_
  refine k_bipush 31 d_Tree_init_35 bp_31 ?_
  refine k_num (y := nI 31) rfl ?_
  refine k_field (LR := [.inl (0, [some 1]), .inr (false, 31), .inl (0, [some 3]), .inr (false, 31)]) (LR2 := [.inl (0, [some 1]), .inr (false, 31), .inl (0, [some 3]), .inr (false, 31), .inl (0, [some 5]), .inr (false, 31)]) (ci := 1) (j := 2) (nb := 4) (by decide +kernel) f_Row_init (Or.inl w_86) (c_Row_init (E := E) (h0 := q2) (n := 31) (Nat.le_of_ble_eq_true rfl)) (Nat.le_of_ble_eq_true rfl) rfl rfl (Nat.le_of_ble_eq_true rfl) (Nat.le_of_ble_eq_true rfl) d_Tree_init_37 rfl (Nat.le_of_ble_eq_true rfl) rfl rfl w_95 rfl ⟨_, rfl⟩ (Nat.le_of_ble_eq_true rfl) d_Tree_init_40 (by decide +kernel) (by decide +kernel) (fun a2 => ?_)
  rw [glb_z]
  dsimp only [List.set]
  refine k_aload0 d_Tree_init_43 rfl ?_
  refine k_new (ci := 0) (fs := [.null]) rfl w_85 w_24 w_2 (fun j hj => by rw [show j = 0 by omega]; rfl) (Nat.le_of_ble_eq_true rfl) (Nat.le_of_ble_eq_true rfl) d_Tree_init_44 (fun q3 => ?_)
  refine k_dup d_Tree_init_47 ?_
  refine k_bipush 31 d_Tree_init_48 bp_31 ?_
  refine k_num (y := nI 31) rfl ?_
  refine k_field (LR := [.inl (0, [some 1]), .inr (false, 31), .inl (0, [some 3]), .inr (false, 31), .inl (0, [some 5]), .inr (false, 31)]) (LR2 := [.inl (0, [some 1]), .inr (false, 31), .inl (0, [some 3]), .inr (false, 31), .inl (0, [some 5]), .inr (false, 31), .inl (0, [some 7]), .inr (false, 31)]) (ci := 1) (j := 3) (nb := 6) (by decide +kernel) f_Row_init (Or.inl w_86) (c_Row_init (E := E) (h0 := q3) (n := 31) (Nat.le_of_ble_eq_true rfl)) (Nat.le_of_ble_eq_true rfl) rfl rfl (Nat.le_of_ble_eq_true rfl) (Nat.le_of_ble_eq_true rfl) d_Tree_init_50 rfl (Nat.le_of_ble_eq_true rfl) rfl rfl w_100 rfl ⟨_, rfl⟩ (Nat.le_of_ble_eq_true rfl) d_Tree_init_53 (by decide +kernel) (by decide +kernel) (fun a3 => ?_)
  rw [glb_z]
  dsimp only [List.set]
  refine k_aload0 d_Tree_init_56 rfl ?_
  refine k_new (ci := 0) (fs := [.null]) rfl w_85 w_24 w_2 (fun j hj => by rw [show j = 0 by omega]; rfl) (Nat.le_of_ble_eq_true rfl) (Nat.le_of_ble_eq_true rfl) d_Tree_init_57 (fun q4 => ?_)
  refine k_dup d_Tree_init_60 ?_
  refine k_bipush 31 d_Tree_init_61 bp_31 ?_
  refine k_num (y := nI 31) rfl ?_
  refine k_field (LR := [.inl (0, [some 1]), .inr (false, 31), .inl (0, [some 3]), .inr (false, 31), .inl (0, [some 5]), .inr (false, 31), .inl (0, [some 7]), .inr (false, 31)]) (LR2 := [.inl (0, [some 1]), .inr (false, 31), .inl (0, [some 3]), .inr (false, 31), .inl (0, [some 5]), .inr (false, 31), .inl (0, [some 7]), .inr (false, 31), .inl (0, [some 9]), .inr (false, 31)]) (ci := 1) (j := 4) (nb := 8) (by decide +kernel) f_Row_init (Or.inl w_86) (c_Row_init (E := E) (h0 := q4) (n := 31) (Nat.le_of_ble_eq_true rfl)) (Nat.le_of_ble_eq_true rfl) rfl rfl (Nat.le_of_ble_eq_true rfl) (Nat.le_of_ble_eq_true rfl) d_Tree_init_63 rfl (Nat.le_of_ble_eq_true rfl) rfl rfl w_105 rfl ⟨_, rfl⟩ (Nat.le_of_ble_eq_true rfl) d_Tree_init_66 (by decide +kernel) (by decide +kernel) (fun a4 => ?_)
  rw [glb_z]
  dsimp only [List.set]
  refine k_aload0 d_Tree_init_69 rfl ?_
  refine k_new (ci := 0) (fs := [.null]) rfl w_85 w_24 w_2 (fun j hj => by rw [show j = 0 by omega]; rfl) (Nat.le_of_ble_eq_true rfl) (Nat.le_of_ble_eq_true rfl) d_Tree_init_70 (fun q5 => ?_)
  refine k_dup d_Tree_init_73 ?_
  refine k_bipush 31 d_Tree_init_74 bp_31 ?_
  refine k_num (y := nI 31) rfl ?_
  refine k_field (LR := [.inl (0, [some 1]), .inr (false, 31), .inl (0, [some 3]), .inr (false, 31), .inl (0, [some 5]), .inr (false, 31), .inl (0, [some 7]), .inr (false, 31), .inl (0, [some 9]), .inr (false, 31)]) (LR2 := [.inl (0, [some 1]), .inr (false, 31), .inl (0, [some 3]), .inr (false, 31), .inl (0, [some 5]), .inr (false, 31), .inl (0, [some 7]), .inr (false, 31), .inl (0, [some 9]), .inr (false, 31), .inl (0, [some 11]), .inr (false, 31)]) (ci := 1) (j := 5) (nb := 10) (by decide +kernel) f_Row_init (Or.inl w_86) (c_Row_init (E := E) (h0 := q5) (n := 31) (Nat.le_of_ble_eq_true rfl)) (Nat.le_of_ble_eq_true rfl) rfl rfl (Nat.le_of_ble_eq_true rfl) (Nat.le_of_ble_eq_true rfl) d_Tree_init_76 rfl (Nat.le_of_ble_eq_true rfl) rfl rfl w_107 rfl ⟨_, rfl⟩ (Nat.le_of_ble_eq_true rfl) d_Tree_init_79 (by decide +kernel) (by decide +kernel) (fun a5 => ?_)
  rw [glb_z]
  dsimp only [List.set]
  refine k_aload0 d_Tree_init_82 rfl ?_
  refine k_new (ci := 0) (fs := [.null]) rfl w_85 w_24 w_2 (fun j hj => by rw [show j = 0 by omega]; rfl) (Nat.le_of_ble_eq_true rfl) (Nat.le_of_ble_eq_true rfl) d_Tree_init_83 (fun q6 => ?_)
  refine k_dup d_Tree_init_86 ?_
  refine k_bipush 31 d_Tree_init_87 bp_31 ?_
  refine k_num (y := nI 31) rfl ?_
  refine k_field (LR := [.inl (0, [some 1]), .inr (false, 31), .inl (0, [some 3]), .inr (false, 31), .inl (0, [some 5]), .inr (false, 31), .inl (0, [some 7]), .inr (false, 31), .inl (0, [some 9]), .inr (false, 31), .inl (0, [some 11]), .inr (false, 31)]) (LR2 := [.inl (0, [some 1]), .inr (false, 31), .inl (0, [some 3]), .inr (false, 31), .inl (0, [some 5]), .inr (false, 31), .inl (0, [some 7]), .inr (false, 31), .inl (0, [some 9]), .inr (false, 31), .inl (0, [some 11]), .inr (false, 31), .inl (0, [some 13]), .inr (false, 31)]) (ci := 1) (j := 6) (nb := 12) (by decide +kernel) f_Row_init (Or.inl w_86) (c_Row_init (E := E) (h0 := q6) (n := 31) (Nat.le_of_ble_eq_true rfl)) (Nat.le_of_ble_eq_true rfl) rfl rfl (Nat.le_of_ble_eq_true rfl) (Nat.le_of_ble_eq_true rfl) d_Tree_init_89 rfl (Nat.le_of_ble_eq_true rfl) rfl rfl w_109 rfl ⟨_, rfl⟩ (Nat.le_of_ble_eq_true rfl) d_Tree_init_92 (by decide +kernel) (by decide +kernel) (fun a6 => ?_)
  rw [glb_z]
  dsimp only [List.set]
  refine k_aload0 d_Tree_init_95 rfl ?_
  refine k_new (ci := 0) (fs := [.null]) rfl w_85 w_24 w_2 (fun j hj => by rw [show j = 0 by omega]; rfl) (Nat.le_of_ble_eq_true rfl) (Nat.le_of_ble_eq_true rfl) d_Tree_init_96 (fun q7 => ?_)
  refine k_dup d_Tree_init_99 ?_
  refine k_bipush 31 d_Tree_init_100 bp_31 ?_
  refine k_num (y := nI 31) rfl ?_
  refine k_field (LR := [.inl (0, [some 1]), .inr (false, 31), .inl (0, [some 3]), .inr (false, 31), .inl (0, [some 5]), .inr (false, 31), .inl (0, [some 7]), .inr (false, 31), .inl (0, [some 9]), .inr (false, 31), .inl (0, [some 11]), .inr (false, 31), .inl (0, [some 13]), .inr (false, 31)]) (LR2 := [.inl (0, [some 1]), .inr (false, 31), .inl (0, [some 3]), .inr (false, 31), .inl (0, [some 5]), .inr (false, 31), .inl (0, [some 7]), .inr (false, 31), .inl (0, [some 9]), .inr (false, 31), .inl (0, [some 11]), .inr (false, 31), .inl (0, [some 13]), .inr (false, 31), .inl (0, [some 15]), .inr (false, 31)]) (ci := 1) (j := 7) (nb := 14) (by decide +kernel) f_Row_init (Or.inl w_86) (c_Row_init (E := E) (h0 := q7) (n := 31) (Nat.le_of_ble_eq_true rfl)) (Nat.le_of_ble_eq_true rfl) rfl rfl (Nat.le_of_ble_eq_true rfl) (Nat.le_of_ble_eq_true rfl) d_Tree_init_102 rfl (Nat.le_of_ble_eq_true rfl) rfl rfl w_111 rfl ⟨_, rfl⟩ (Nat.le_of_ble_eq_true rfl) d_Tree_init_105 (by decide +kernel) (by decide +kernel) (fun a7 => ?_)
  rw [glb_z]
  dsimp only [List.set]
  refine k_aload0 d_Tree_init_108 rfl ?_
  refine k_new (ci := 0) (fs := [.null]) rfl w_85 w_24 w_2 (fun j hj => by rw [show j = 0 by omega]; rfl) (Nat.le_of_ble_eq_true rfl) (Nat.le_of_ble_eq_true rfl) d_Tree_init_109 (fun q8 => ?_)
  refine k_dup d_Tree_init_112 ?_
  refine k_bipush 31 d_Tree_init_113 bp_31 ?_
  refine k_num (y := nI 31) rfl ?_
  refine k_field (LR := [.inl (0, [some 1]), .inr (false, 31), .inl (0, [some 3]), .inr (false, 31), .inl (0, [some 5]), .inr (false, 31), .inl (0, [some 7]), .inr (false, 31), .inl (0, [some 9]), .inr (false, 31), .inl (0, [some 11]), .inr (false, 31), .inl (0, [some 13]), .inr (false, 31), .inl (0, [some 15]), .inr (false, 31)]) (LR2 := [.inl (0, [some 1]), .inr (false, 31), .inl (0, [some 3]), .inr (false, 31), .inl (0, [some 5]), .inr (false, 31), .inl (0, [some 7]), .inr (false, 31), .inl (0, [some 9]), .inr (false, 31), .inl (0, [some 11]), .inr (false, 31), .inl (0, [some 13]), .inr (false, 31), .inl (0, [some 15]), .inr (false, 31), .inl (0, [some 17]), .inr (false, 31)]) (ci := 1) (j := 8) (nb := 16) (by decide +kernel) f_Row_init (Or.inl w_86) (c_Row_init (E := E) (h0 := q8) (n := 31) (Nat.le_of_ble_eq_true rfl)) (Nat.le_of_ble_eq_true rfl) rfl rfl (Nat.le_of_ble_eq_true rfl) (Nat.le_of_ble_eq_true rfl) d_Tree_init_115 rfl (Nat.le_of_ble_eq_true rfl) rfl rfl w_114 rfl ⟨_, rfl⟩ (Nat.le_of_ble_eq_true rfl) d_Tree_init_118 (by decide +kernel) (by decide +kernel) (fun a8 => ?_)
  rw [glb_z]
  dsimp only [List.set]
  refine k_ret rfl (Nat.le_of_ble_eq_true rfl) (Nat.le_of_ble_eq_true rfl) d_Tree_init_121 ?_
  refine PS_of (f0 := (fun _ => 0)) (L := L_Tree) (fl := [some 1, some 3, some 5, some 7, some 9, some 11, some 13, some 15, some 17, none]) ?_ ?_ ?_
  · decide +kernel
  · rfl
  · exact glb_z 1
set_option maxRecDepth 10000 in
set_option maxHeartbeats 2000000 in
theorem c_Reader_init : KC E m_Reader_init 2 6 154 [.ref h0] [(h0, .inr (3, [.null, .null, .null, .int 0, .int 0, .int 0, .int 0, .int 0, .int 0]))] (PS E L_Reader z0 h0) := by
  refine KC_of (by decide) rfl (Nat.le_of_ble_eq_true rfl) rfl ?_
  refine k_eq (ws' := (h0, .inr (3, [.null, .null, .null, .int 0, .int 0, .int 0, .int 0, .int 0, .int 0])) :: nw_W (E.1, E.2, fun _ => 0) [] z0) rfl ?_
  refine k_aload0 d_Reader_init_0 rfl ?_
  refine k_obj w_42 (Nat.le_of_ble_eq_true rfl) d_Reader_init_1 ?_
  refine k_aload0 d_Reader_init_4 rfl ?_
  refine k_new (ci := 0) (fs := [.null]) rfl w_43 w_24 w_2 (fun j hj => by rw [show j = 0 by omega]; rfl) (Nat.le_of_ble_eq_true rfl) (Nat.le_of_ble_eq_true rfl) d_Reader_init_5 (fun q0 => ?_)
  refine k_dup d_Reader_init_8 ?_
  refine k_bipush 60 d_Reader_init_9 bp_60 ?_
  refine k_num (y := nI 60) rfl ?_
  refine k_field (LR := []) (LR2 := [.inl (0, [some 1]), .inr (false, 60)]) (ci := 3) (j := 0) (nb := 0) (by decide +kernel) f_Row_init (Or.inl w_44) (c_Row_init (E := E) (h0 := q0) (n := 60) (Nat.le_of_ble_eq_true rfl)) (Nat.le_of_ble_eq_true rfl) rfl rfl (Nat.le_of_ble_eq_true rfl) (Nat.le_of_ble_eq_true rfl) d_Reader_init_11 rfl (Nat.le_of_ble_eq_true rfl) rfl rfl w_45 rfl ⟨_, rfl⟩ (Nat.le_of_ble_eq_true rfl) d_Reader_init_14 (by decide +kernel) (by decide +kernel) (fun a0 => ?_)
  rw [glb_z]
  dsimp only [List.set]
  refine k_aload0 d_Reader_init_17 rfl ?_
  refine k_new (ci := 0) (fs := [.null]) rfl w_43 w_24 w_2 (fun j hj => by rw [show j = 0 by omega]; rfl) (Nat.le_of_ble_eq_true rfl) (Nat.le_of_ble_eq_true rfl) d_Reader_init_18 (fun q1 => ?_)
  refine k_dup d_Reader_init_21 ?_
  refine k_bipush 60 d_Reader_init_22 bp_60 ?_
  refine k_num (y := nI 60) rfl ?_
  refine k_field (LR := [.inl (0, [some 1]), .inr (false, 60)]) (LR2 := [.inl (0, [some 1]), .inr (false, 60), .inl (0, [some 3]), .inr (false, 60)]) (ci := 3) (j := 1) (nb := 2) (by decide +kernel) f_Row_init (Or.inl w_44) (c_Row_init (E := E) (h0 := q1) (n := 60) (Nat.le_of_ble_eq_true rfl)) (Nat.le_of_ble_eq_true rfl) rfl rfl (Nat.le_of_ble_eq_true rfl) (Nat.le_of_ble_eq_true rfl) d_Reader_init_24 rfl (Nat.le_of_ble_eq_true rfl) rfl rfl w_46 rfl ⟨_, rfl⟩ (Nat.le_of_ble_eq_true rfl) d_Reader_init_27 (by decide +kernel) (by decide +kernel) (fun a1 => ?_)
  rw [glb_z]
  dsimp only [List.set]
  refine k_aload0 d_Reader_init_30 rfl ?_
  refine k_new (ci := 0) (fs := [.null]) rfl w_43 w_24 w_2 (fun j hj => by rw [show j = 0 by omega]; rfl) (Nat.le_of_ble_eq_true rfl) (Nat.le_of_ble_eq_true rfl) d_Reader_init_31 (fun q2 => ?_)
  refine k_dup d_Reader_init_34 ?_
  refine k_bipush 31 d_Reader_init_35 bp_31 ?_
  refine k_num (y := nI 31) rfl ?_
  refine k_field (LR := [.inl (0, [some 1]), .inr (false, 60), .inl (0, [some 3]), .inr (false, 60)]) (LR2 := [.inl (0, [some 1]), .inr (false, 60), .inl (0, [some 3]), .inr (false, 60), .inl (0, [some 5]), .inr (false, 31)]) (ci := 3) (j := 2) (nb := 4) (by decide +kernel) f_Row_init (Or.inl w_44) (c_Row_init (E := E) (h0 := q2) (n := 31) (Nat.le_of_ble_eq_true rfl)) (Nat.le_of_ble_eq_true rfl) rfl rfl (Nat.le_of_ble_eq_true rfl) (Nat.le_of_ble_eq_true rfl) d_Reader_init_37 rfl (Nat.le_of_ble_eq_true rfl) rfl rfl w_47 rfl ⟨_, rfl⟩ (Nat.le_of_ble_eq_true rfl) d_Reader_init_40 (by decide +kernel) (by decide +kernel) (fun a2 => ?_)
  rw [glb_z]
  dsimp only [List.set]
  refine k_ret rfl (Nat.le_of_ble_eq_true rfl) (Nat.le_of_ble_eq_true rfl) d_Reader_init_43 ?_
  refine PS_of (f0 := (fun _ => 0)) (L := L_Reader) (fl := [some 1, some 3, some 5, none, none, none, none, none, none]) ?_ ?_ ?_
  · decide +kernel
  · rfl
  · exact glb_z 1
set_option maxRecDepth 10000 in
set_option maxHeartbeats 2000000 in
theorem c_Acts_init : KC E m_Acts_init 2 8 84 [.ref h0] [(h0, .inr (4, [.null, .null, .null, .null, .int 0, .int 0]))] (PS E L_Acts z0 h0) := by
  refine KC_of (by decide) rfl (Nat.le_of_ble_eq_true rfl) rfl ?_
  refine k_eq (ws' := (h0, .inr (4, [.null, .null, .null, .null, .int 0, .int 0])) :: nw_W (E.1, E.2, fun _ => 0) [] z0) rfl ?_
  refine k_aload0 d_Acts_init_0 rfl ?_
  refine k_obj w_167 (Nat.le_of_ble_eq_true rfl) d_Acts_init_1 ?_
  refine k_aload0 d_Acts_init_4 rfl ?_
  refine k_new (ci := 0) (fs := [.null]) rfl w_168 w_24 w_2 (fun j hj => by rw [show j = 0 by omega]; rfl) (Nat.le_of_ble_eq_true rfl) (Nat.le_of_ble_eq_true rfl) d_Acts_init_5 (fun q0 => ?_)
  refine k_dup d_Acts_init_8 ?_
  refine k_bipush 10 d_Acts_init_9 bp_10 ?_
  refine k_num (y := nI 10) rfl ?_
  refine k_field (LR := []) (LR2 := [.inl (0, [some 1]), .inr (false, 10)]) (ci := 4) (j := 0) (nb := 0) (by decide +kernel) f_Row_init (Or.inl w_169) (c_Row_init (E := E) (h0 := q0) (n := 10) (Nat.le_of_ble_eq_true rfl)) (Nat.le_of_ble_eq_true rfl) rfl rfl (Nat.le_of_ble_eq_true rfl) (Nat.le_of_ble_eq_true rfl) d_Acts_init_11 rfl (Nat.le_of_ble_eq_true rfl) rfl rfl w_170 rfl ⟨_, rfl⟩ (Nat.le_of_ble_eq_true rfl) d_Acts_init_14 (by decide +kernel) (by decide +kernel) (fun a0 => ?_)
  rw [glb_z]
  dsimp only [List.set]
  refine k_aload0 d_Acts_init_17 rfl ?_
  refine k_new (ci := 0) (fs := [.null]) rfl w_168 w_24 w_2 (fun j hj => by rw [show j = 0 by omega]; rfl) (Nat.le_of_ble_eq_true rfl) (Nat.le_of_ble_eq_true rfl) d_Acts_init_18 (fun q1 => ?_)
  refine k_dup d_Acts_init_21 ?_
  refine k_bipush 10 d_Acts_init_22 bp_10 ?_
  refine k_num (y := nI 10) rfl ?_
  refine k_field (LR := [.inl (0, [some 1]), .inr (false, 10)]) (LR2 := [.inl (0, [some 1]), .inr (false, 10), .inl (0, [some 3]), .inr (false, 10)]) (ci := 4) (j := 1) (nb := 2) (by decide +kernel) f_Row_init (Or.inl w_169) (c_Row_init (E := E) (h0 := q1) (n := 10) (Nat.le_of_ble_eq_true rfl)) (Nat.le_of_ble_eq_true rfl) rfl rfl (Nat.le_of_ble_eq_true rfl) (Nat.le_of_ble_eq_true rfl) d_Acts_init_24 rfl (Nat.le_of_ble_eq_true rfl) rfl rfl w_171 rfl ⟨_, rfl⟩ (Nat.le_of_ble_eq_true rfl) d_Acts_init_27 (by decide +kernel) (by decide +kernel) (fun a1 => ?_)
  rw [glb_z]
  dsimp only [List.set]
  refine k_aload0 d_Acts_init_30 rfl ?_
  refine k_new (ci := 0) (fs := [.null]) rfl w_168 w_24 w_2 (fun j hj => by rw [show j = 0 by omega]; rfl) (Nat.le_of_ble_eq_true rfl) (Nat.le_of_ble_eq_true rfl) d_Acts_init_31 (fun q2 => ?_)
  refine k_dup d_Acts_init_34 ?_
  refine k_bipush 10 d_Acts_init_35 bp_10 ?_
  refine k_num (y := nI 10) rfl ?_
  refine k_field (LR := [.inl (0, [some 1]), .inr (false, 10), .inl (0, [some 3]), .inr (false, 10)]) (LR2 := [.inl (0, [some 1]), .inr (false, 10), .inl (0, [some 3]), .inr (false, 10), .inl (0, [some 5]), .inr (false, 10)]) (ci := 4) (j := 2) (nb := 4) (by decide +kernel) f_Row_init (Or.inl w_169) (c_Row_init (E := E) (h0 := q2) (n := 10) (Nat.le_of_ble_eq_true rfl)) (Nat.le_of_ble_eq_true rfl) rfl rfl (Nat.le_of_ble_eq_true rfl) (Nat.le_of_ble_eq_true rfl) d_Acts_init_37 rfl (Nat.le_of_ble_eq_true rfl) rfl rfl w_172 rfl ⟨_, rfl⟩ (Nat.le_of_ble_eq_true rfl) d_Acts_init_40 (by decide +kernel) (by decide +kernel) (fun a2 => ?_)
  rw [glb_z]
  dsimp only [List.set]
  refine k_aload0 d_Acts_init_43 rfl ?_
  refine k_new (ci := 0) (fs := [.null]) rfl w_168 w_24 w_2 (fun j hj => by rw [show j = 0 by omega]; rfl) (Nat.le_of_ble_eq_true rfl) (Nat.le_of_ble_eq_true rfl) d_Acts_init_44 (fun q3 => ?_)
  refine k_dup d_Acts_init_47 ?_
  refine k_bipush 50 d_Acts_init_48 bp_50 ?_
  refine k_num (y := nI 50) rfl ?_
  refine k_field (LR := [.inl (0, [some 1]), .inr (false, 10), .inl (0, [some 3]), .inr (false, 10), .inl (0, [some 5]), .inr (false, 10)]) (LR2 := [.inl (0, [some 1]), .inr (false, 10), .inl (0, [some 3]), .inr (false, 10), .inl (0, [some 5]), .inr (false, 10), .inl (0, [some 7]), .inr (false, 50)]) (ci := 4) (j := 3) (nb := 6) (by decide +kernel) f_Row_init (Or.inl w_169) (c_Row_init (E := E) (h0 := q3) (n := 50) (Nat.le_of_ble_eq_true rfl)) (Nat.le_of_ble_eq_true rfl) rfl rfl (Nat.le_of_ble_eq_true rfl) (Nat.le_of_ble_eq_true rfl) d_Acts_init_50 rfl (Nat.le_of_ble_eq_true rfl) rfl rfl w_173 rfl ⟨_, rfl⟩ (Nat.le_of_ble_eq_true rfl) d_Acts_init_53 (by decide +kernel) (by decide +kernel) (fun a3 => ?_)
  rw [glb_z]
  dsimp only [List.set]
  refine k_ret rfl (Nat.le_of_ble_eq_true rfl) (Nat.le_of_ble_eq_true rfl) d_Acts_init_56 ?_
  refine PS_of (f0 := (fun _ => 0)) (L := L_Acts) (fl := [some 1, some 3, some 5, some 7, none, none]) ?_ ?_ ?_
  · decide +kernel
  · rfl
  · exact glb_z 1
set_option maxRecDepth 10000 in
set_option maxHeartbeats 2000000 in
theorem c_Costs_init : KC E m_Costs_init 2 6 468 [.ref h0] [(h0, .inr (5, [.null, .null, .null, .int 0, .int 0]))] (PS E L_Costs z0 h0) := by
  refine KC_of (by decide) rfl (Nat.le_of_ble_eq_true rfl) rfl ?_
  refine k_eq (ws' := (h0, .inr (5, [.null, .null, .null, .int 0, .int 0])) :: nw_W (E.1, E.2, fun _ => 0) [] z0) rfl ?_
  refine k_aload0 d_Costs_init_0 rfl ?_
  refine k_obj w_195 (Nat.le_of_ble_eq_true rfl) d_Costs_init_1 ?_
  refine k_aload0 d_Costs_init_4 rfl ?_
  refine k_new (ci := 0) (fs := [.null]) rfl w_196 w_24 w_2 (fun j hj => by rw [show j = 0 by omega]; rfl) (Nat.le_of_ble_eq_true rfl) (Nat.le_of_ble_eq_true rfl) d_Costs_init_5 (fun q0 => ?_)
  refine k_dup d_Costs_init_8 ?_
  refine k_sipush 217 d_Costs_init_9 sp_217 ?_
  refine k_num (y := nI 217) rfl ?_
  refine k_field (LR := []) (LR2 := [.inl (0, [some 1]), .inr (false, 217)]) (ci := 5) (j := 0) (nb := 0) (by decide +kernel) f_Row_init (Or.inl w_197) (c_Row_init (E := E) (h0 := q0) (n := 217) (Nat.le_of_ble_eq_true rfl)) (Nat.le_of_ble_eq_true rfl) rfl rfl (Nat.le_of_ble_eq_true rfl) (Nat.le_of_ble_eq_true rfl) d_Costs_init_12 rfl (Nat.le_of_ble_eq_true rfl) rfl rfl w_198 rfl ⟨_, rfl⟩ (Nat.le_of_ble_eq_true rfl) d_Costs_init_15 (by decide +kernel) (by decide +kernel) (fun a0 => ?_)
  rw [glb_z]
  dsimp only [List.set]
  refine k_aload0 d_Costs_init_18 rfl ?_
  refine k_new (ci := 0) (fs := [.null]) rfl w_196 w_24 w_2 (fun j hj => by rw [show j = 0 by omega]; rfl) (Nat.le_of_ble_eq_true rfl) (Nat.le_of_ble_eq_true rfl) d_Costs_init_19 (fun q1 => ?_)
  refine k_dup d_Costs_init_22 ?_
  refine k_sipush 217 d_Costs_init_23 sp_217 ?_
  refine k_num (y := nI 217) rfl ?_
  refine k_field (LR := [.inl (0, [some 1]), .inr (false, 217)]) (LR2 := [.inl (0, [some 1]), .inr (false, 217), .inl (0, [some 3]), .inr (false, 217)]) (ci := 5) (j := 1) (nb := 2) (by decide +kernel) f_Row_init (Or.inl w_197) (c_Row_init (E := E) (h0 := q1) (n := 217) (Nat.le_of_ble_eq_true rfl)) (Nat.le_of_ble_eq_true rfl) rfl rfl (Nat.le_of_ble_eq_true rfl) (Nat.le_of_ble_eq_true rfl) d_Costs_init_26 rfl (Nat.le_of_ble_eq_true rfl) rfl rfl w_199 rfl ⟨_, rfl⟩ (Nat.le_of_ble_eq_true rfl) d_Costs_init_29 (by decide +kernel) (by decide +kernel) (fun a1 => ?_)
  rw [glb_z]
  dsimp only [List.set]
  refine k_aload0 d_Costs_init_32 rfl ?_
  refine k_new (ci := 0) (fs := [.null]) rfl w_196 w_24 w_2 (fun j hj => by rw [show j = 0 by omega]; rfl) (Nat.le_of_ble_eq_true rfl) (Nat.le_of_ble_eq_true rfl) d_Costs_init_33 (fun q2 => ?_)
  refine k_dup d_Costs_init_36 ?_
  refine k_bipush 31 d_Costs_init_37 bp_31 ?_
  refine k_num (y := nI 31) rfl ?_
  refine k_field (LR := [.inl (0, [some 1]), .inr (false, 217), .inl (0, [some 3]), .inr (false, 217)]) (LR2 := [.inl (0, [some 1]), .inr (false, 217), .inl (0, [some 3]), .inr (false, 217), .inl (0, [some 5]), .inr (false, 31)]) (ci := 5) (j := 2) (nb := 4) (by decide +kernel) f_Row_init (Or.inl w_197) (c_Row_init (E := E) (h0 := q2) (n := 31) (Nat.le_of_ble_eq_true rfl)) (Nat.le_of_ble_eq_true rfl) rfl rfl (Nat.le_of_ble_eq_true rfl) (Nat.le_of_ble_eq_true rfl) d_Costs_init_39 rfl (Nat.le_of_ble_eq_true rfl) rfl rfl w_200 rfl ⟨_, rfl⟩ (Nat.le_of_ble_eq_true rfl) d_Costs_init_42 (by decide +kernel) (by decide +kernel) (fun a2 => ?_)
  rw [glb_z]
  dsimp only [List.set]
  refine k_ret rfl (Nat.le_of_ble_eq_true rfl) (Nat.le_of_ble_eq_true rfl) d_Costs_init_45 ?_
  refine PS_of (f0 := (fun _ => 0)) (L := L_Costs) (fl := [some 1, some 3, some 5, none, none]) ?_ ?_ ?_
  · decide +kernel
  · rfl
  · exact glb_z 1
set_option maxRecDepth 10000 in
set_option maxHeartbeats 2000000 in
theorem c_Program_init : KC E m_Program_init 2 4 498 [.ref h0] [(h0, .inr (6, [.null, .null, .int 0, .int 0, .int 0]))] (PS E L_Program z0 h0) := by
  refine KC_of (by decide) rfl (Nat.le_of_ble_eq_true rfl) rfl ?_
  refine k_eq (ws' := (h0, .inr (6, [.null, .null, .int 0, .int 0, .int 0])) :: nw_W (E.1, E.2, fun _ => 0) [] z0) rfl ?_
  refine k_aload0 d_Program_init_0 rfl ?_
  refine k_obj w_219 (Nat.le_of_ble_eq_true rfl) d_Program_init_1 ?_
  refine k_aload0 d_Program_init_4 rfl ?_
  refine k_new (ci := 0) (fs := [.null]) rfl w_220 w_24 w_2 (fun j hj => by rw [show j = 0 by omega]; rfl) (Nat.le_of_ble_eq_true rfl) (Nat.le_of_ble_eq_true rfl) d_Program_init_5 (fun q0 => ?_)
  refine k_dup d_Program_init_8 ?_
  refine k_sipush 465 d_Program_init_9 sp_465 ?_
  refine k_num (y := nI 465) rfl ?_
  refine k_field (LR := []) (LR2 := [.inl (0, [some 1]), .inr (false, 465)]) (ci := 6) (j := 0) (nb := 0) (by decide +kernel) f_Row_init (Or.inl w_221) (c_Row_init (E := E) (h0 := q0) (n := 465) (Nat.le_of_ble_eq_true rfl)) (Nat.le_of_ble_eq_true rfl) rfl rfl (Nat.le_of_ble_eq_true rfl) (Nat.le_of_ble_eq_true rfl) d_Program_init_12 rfl (Nat.le_of_ble_eq_true rfl) rfl rfl w_222 rfl ⟨_, rfl⟩ (Nat.le_of_ble_eq_true rfl) d_Program_init_15 (by decide +kernel) (by decide +kernel) (fun a0 => ?_)
  rw [glb_z]
  dsimp only [List.set]
  refine k_aload0 d_Program_init_18 rfl ?_
  refine k_new (ci := 0) (fs := [.null]) rfl w_220 w_24 w_2 (fun j hj => by rw [show j = 0 by omega]; rfl) (Nat.le_of_ble_eq_true rfl) (Nat.le_of_ble_eq_true rfl) d_Program_init_19 (fun q1 => ?_)
  refine k_dup d_Program_init_22 ?_
  refine k_bipush 31 d_Program_init_23 bp_31 ?_
  refine k_num (y := nI 31) rfl ?_
  refine k_field (LR := [.inl (0, [some 1]), .inr (false, 465)]) (LR2 := [.inl (0, [some 1]), .inr (false, 465), .inl (0, [some 3]), .inr (false, 31)]) (ci := 6) (j := 1) (nb := 2) (by decide +kernel) f_Row_init (Or.inl w_221) (c_Row_init (E := E) (h0 := q1) (n := 31) (Nat.le_of_ble_eq_true rfl)) (Nat.le_of_ble_eq_true rfl) rfl rfl (Nat.le_of_ble_eq_true rfl) (Nat.le_of_ble_eq_true rfl) d_Program_init_25 rfl (Nat.le_of_ble_eq_true rfl) rfl rfl w_223 rfl ⟨_, rfl⟩ (Nat.le_of_ble_eq_true rfl) d_Program_init_28 (by decide +kernel) (by decide +kernel) (fun a1 => ?_)
  rw [glb_z]
  dsimp only [List.set]
  refine k_ret rfl (Nat.le_of_ble_eq_true rfl) (Nat.le_of_ble_eq_true rfl) d_Program_init_31 ?_
  refine PS_of (f0 := (fun _ => 0)) (L := L_Program) (fl := [some 1, some 3, none, none, none]) ?_ ?_ ?_
  · decide +kernel
  · rfl
  · exact glb_z 1
set_option maxRecDepth 10000 in
set_option maxHeartbeats 2000000 in
theorem c_Device_init : KC E m_Device_init 2 6 71 [.ref h0] [(h0, .inr (7, [.null, .null, .null, .int 0, .int 0]))] (PS E L_Device zD h0) := by
  refine KC_of (by decide) rfl (Nat.le_of_ble_eq_true rfl) rfl ?_
  refine k_eq (ws' := (h0, .inr (7, [.null, .null, .null, .int 0, .int 0])) :: nw_W (E.1, E.2, fun _ => 0) [] z0) rfl ?_
  refine k_aload0 d_Device_init_0 rfl ?_
  refine k_obj w_245 (Nat.le_of_ble_eq_true rfl) d_Device_init_1 ?_
  refine k_aload0 d_Device_init_4 rfl ?_
  refine k_new (ci := 0) (fs := [.null]) rfl w_246 w_24 w_2 (fun j hj => by rw [show j = 0 by omega]; rfl) (Nat.le_of_ble_eq_true rfl) (Nat.le_of_ble_eq_true rfl) d_Device_init_5 (fun q0 => ?_)
  refine k_dup d_Device_init_8 ?_
  refine k_bipush 31 d_Device_init_9 bp_31 ?_
  refine k_num (y := nI 31) rfl ?_
  refine k_field (LR := []) (LR2 := [.inl (0, [some 1]), .inr (false, 31)]) (ci := 7) (j := 0) (nb := 0) (by decide +kernel) f_Row_init (Or.inl w_247) (c_Row_init (E := E) (h0 := q0) (n := 31) (Nat.le_of_ble_eq_true rfl)) (Nat.le_of_ble_eq_true rfl) rfl rfl (Nat.le_of_ble_eq_true rfl) (Nat.le_of_ble_eq_true rfl) d_Device_init_11 rfl (Nat.le_of_ble_eq_true rfl) rfl rfl w_248 rfl ⟨_, rfl⟩ (Nat.le_of_ble_eq_true rfl) d_Device_init_14 (by decide +kernel) (by decide +kernel) (fun a0 => ?_)
  rw [glb_z]
  dsimp only [List.set]
  refine k_aload0 d_Device_init_17 rfl ?_
  refine k_new (ci := 0) (fs := [.null]) rfl w_246 w_24 w_2 (fun j hj => by rw [show j = 0 by omega]; rfl) (Nat.le_of_ble_eq_true rfl) (Nat.le_of_ble_eq_true rfl) d_Device_init_18 (fun q1 => ?_)
  refine k_dup d_Device_init_21 ?_
  refine k_bipush 6 d_Device_init_22 bp_6 ?_
  refine k_num (y := nI 6) rfl ?_
  refine k_field (LR := [.inl (0, [some 1]), .inr (false, 31)]) (LR2 := [.inl (0, [some 1]), .inr (false, 31), .inl (0, [some 3]), .inr (false, 6)]) (ci := 7) (j := 1) (nb := 2) (by decide +kernel) f_Row_init (Or.inl w_247) (c_Row_init (E := E) (h0 := q1) (n := 6) (Nat.le_of_ble_eq_true rfl)) (Nat.le_of_ble_eq_true rfl) rfl rfl (Nat.le_of_ble_eq_true rfl) (Nat.le_of_ble_eq_true rfl) d_Device_init_24 rfl (Nat.le_of_ble_eq_true rfl) rfl rfl w_249 rfl ⟨_, rfl⟩ (Nat.le_of_ble_eq_true rfl) d_Device_init_27 (by decide +kernel) (by decide +kernel) (fun a1 => ?_)
  rw [glb_z]
  dsimp only [List.set]
  refine k_aload0 d_Device_init_30 rfl ?_
  refine k_new (ci := 0) (fs := [.null]) rfl w_246 w_24 w_2 (fun j hj => by rw [show j = 0 by omega]; rfl) (Nat.le_of_ble_eq_true rfl) (Nat.le_of_ble_eq_true rfl) d_Device_init_31 (fun q2 => ?_)
  refine k_dup d_Device_init_34 ?_
  refine k_bipush 31 d_Device_init_35 bp_31 ?_
  refine k_num (y := nI 31) rfl ?_
  refine k_field (LR := [.inl (0, [some 1]), .inr (false, 31), .inl (0, [some 3]), .inr (false, 6)]) (LR2 := [.inl (0, [some 1]), .inr (false, 31), .inl (0, [some 3]), .inr (false, 6), .inl (0, [some 5]), .inr (false, 31)]) (ci := 7) (j := 2) (nb := 4) (by decide +kernel) f_Row_init (Or.inl w_247) (c_Row_init (E := E) (h0 := q2) (n := 31) (Nat.le_of_ble_eq_true rfl)) (Nat.le_of_ble_eq_true rfl) rfl rfl (Nat.le_of_ble_eq_true rfl) (Nat.le_of_ble_eq_true rfl) d_Device_init_37 rfl (Nat.le_of_ble_eq_true rfl) rfl rfl w_250 rfl ⟨_, rfl⟩ (Nat.le_of_ble_eq_true rfl) d_Device_init_40 (by decide +kernel) (by decide +kernel) (fun a2 => ?_)
  rw [glb_z]
  dsimp only [List.set]
  refine k_aload0 d_Device_init_43 rfl ?_
  refine k_bipush (-9) d_Device_init_44 bp_m9 ?_
  refine k_puti (ci := 7) (j := 4) rfl (Nat.le_of_ble_eq_true rfl) rfl w_253 rfl rfl (Nat.le_of_ble_eq_true rfl) d_Device_init_46 ?_
  refine k_ret rfl (Nat.le_of_ble_eq_true rfl) (Nat.le_of_ble_eq_true rfl) d_Device_init_49 ?_
  refine PS_of (f0 := fD) (L := L_Device) (fl := [some 1, some 3, some 5, none, none]) ?_ ?_ ?_
  · decide +kernel
  · rfl
  · rfl
set_option maxRecDepth 10000 in
set_option maxHeartbeats 2000000 in
theorem c_Image_init : KC E m_Image_init 3 23 313 [.ref h0] [(h0, .inr (2, [.null, .null, .null, .int 0]))] (PS E L_Image z0 h0) := by
  refine KC_of (by decide) rfl (Nat.le_of_ble_eq_true rfl) rfl ?_
  refine k_eq (ws' := (h0, .inr (2, [.null, .null, .null, .int 0])) :: nw_W (E.1, E.2, fun _ => 0) [] z0) rfl ?_
  refine k_aload0 d_Image_init_0 rfl ?_
  refine k_obj w_78 (Nat.le_of_ble_eq_true rfl) d_Image_init_1 ?_
  refine k_aload0 d_Image_init_4 rfl ?_
  refine k_new (ci := 1) (fs := [.null, .null, .null, .null, .null, .null, .null, .null, .null, .int 0]) rfl w_79 w_80 w_6 (fun j hj => by rcases (show j = 0 ∨ j = 1 ∨ j = 2 ∨ j = 3 ∨ j = 4 ∨ j = 5 ∨ j = 6 ∨ j = 7 ∨ j = 8 ∨ j = 9 by omega) with rfl | rfl | rfl | rfl | rfl | rfl | rfl | rfl | rfl | rfl <;> rfl) (Nat.le_of_ble_eq_true rfl) (Nat.le_of_ble_eq_true rfl) d_Image_init_5 (fun q0 => ?_)
  refine k_dup d_Image_init_8 ?_
  refine k_field (LR := []) (LR2 := [.inl (1, [some 1, some 3, some 5, some 7, some 9, some 11, some 13, some 15, some 17, none]), .inl (0, [some 2]), .inr (false, 31), .inl (0, [some 4]), .inr (false, 31), .inl (0, [some 6]), .inr (false, 31), .inl (0, [some 8]), .inr (false, 31), .inl (0, [some 10]), .inr (false, 31), .inl (0, [some 12]), .inr (false, 31), .inl (0, [some 14]), .inr (false, 31), .inl (0, [some 16]), .inr (false, 31), .inl (0, [some 18]), .inr (false, 31)]) (ci := 2) (j := 0) (nb := 0) (by decide +kernel) f_Tree_init (Or.inr ⟨_, w_81⟩) (c_Tree_init (E := E) (h0 := q0)) (Nat.le_of_ble_eq_true rfl) rfl rfl (Nat.le_of_ble_eq_true rfl) (Nat.le_of_ble_eq_true rfl) d_Image_init_9 rfl (Nat.le_of_ble_eq_true rfl) rfl rfl w_144 rfl ⟨_, rfl⟩ (Nat.le_of_ble_eq_true rfl) d_Image_init_12 (by decide +kernel) (by decide +kernel) (fun a0 => ?_)
  rw [glb_z]
  dsimp only [List.set]
  refine k_aload0 d_Image_init_15 rfl ?_
  refine k_new (ci := 0) (fs := [.null]) rfl w_142 w_24 w_2 (fun j hj => by rw [show j = 0 by omega]; rfl) (Nat.le_of_ble_eq_true rfl) (Nat.le_of_ble_eq_true rfl) d_Image_init_16 (fun q1 => ?_)
  refine k_dup d_Image_init_19 ?_
  refine k_bipush 8 d_Image_init_20 bp_8 ?_
  refine k_num (y := nI 8) rfl ?_
  refine k_field (LR := [.inl (1, [some 1, some 3, some 5, some 7, some 9, some 11, some 13, some 15, some 17, none]), .inl (0, [some 2]), .inr (false, 31), .inl (0, [some 4]), .inr (false, 31), .inl (0, [some 6]), .inr (false, 31), .inl (0, [some 8]), .inr (false, 31), .inl (0, [some 10]), .inr (false, 31), .inl (0, [some 12]), .inr (false, 31), .inl (0, [some 14]), .inr (false, 31), .inl (0, [some 16]), .inr (false, 31), .inl (0, [some 18]), .inr (false, 31)]) (LR2 := [.inl (1, [some 1, some 3, some 5, some 7, some 9, some 11, some 13, some 15, some 17, none]), .inl (0, [some 2]), .inr (false, 31), .inl (0, [some 4]), .inr (false, 31), .inl (0, [some 6]), .inr (false, 31), .inl (0, [some 8]), .inr (false, 31), .inl (0, [some 10]), .inr (false, 31), .inl (0, [some 12]), .inr (false, 31), .inl (0, [some 14]), .inr (false, 31), .inl (0, [some 16]), .inr (false, 31), .inl (0, [some 18]), .inr (false, 31), .inl (0, [some 20]), .inr (false, 8)]) (ci := 2) (j := 1) (nb := 19) (by decide +kernel) f_Row_init (Or.inl w_143) (c_Row_init (E := E) (h0 := q1) (n := 8) (Nat.le_of_ble_eq_true rfl)) (Nat.le_of_ble_eq_true rfl) rfl rfl (Nat.le_of_ble_eq_true rfl) (Nat.le_of_ble_eq_true rfl) d_Image_init_22 rfl (Nat.le_of_ble_eq_true rfl) rfl rfl w_146 rfl ⟨_, rfl⟩ (Nat.le_of_ble_eq_true rfl) d_Image_init_25 (by decide +kernel) (by decide +kernel) (fun a1 => ?_)
  rw [glb_z]
  dsimp only [List.set]
  refine k_aload0 d_Image_init_28 rfl ?_
  refine k_new (ci := 0) (fs := [.null]) rfl w_142 w_24 w_2 (fun j hj => by rw [show j = 0 by omega]; rfl) (Nat.le_of_ble_eq_true rfl) (Nat.le_of_ble_eq_true rfl) d_Image_init_29 (fun q2 => ?_)
  refine k_dup d_Image_init_32 ?_
  refine k_iconst 5 d_Image_init_33 ic_5 ?_
  refine k_num (y := nI 5) rfl ?_
  refine k_field (LR := [.inl (1, [some 1, some 3, some 5, some 7, some 9, some 11, some 13, some 15, some 17, none]), .inl (0, [some 2]), .inr (false, 31), .inl (0, [some 4]), .inr (false, 31), .inl (0, [some 6]), .inr (false, 31), .inl (0, [some 8]), .inr (false, 31), .inl (0, [some 10]), .inr (false, 31), .inl (0, [some 12]), .inr (false, 31), .inl (0, [some 14]), .inr (false, 31), .inl (0, [some 16]), .inr (false, 31), .inl (0, [some 18]), .inr (false, 31), .inl (0, [some 20]), .inr (false, 8)]) (LR2 := [.inl (1, [some 1, some 3, some 5, some 7, some 9, some 11, some 13, some 15, some 17, none]), .inl (0, [some 2]), .inr (false, 31), .inl (0, [some 4]), .inr (false, 31), .inl (0, [some 6]), .inr (false, 31), .inl (0, [some 8]), .inr (false, 31), .inl (0, [some 10]), .inr (false, 31), .inl (0, [some 12]), .inr (false, 31), .inl (0, [some 14]), .inr (false, 31), .inl (0, [some 16]), .inr (false, 31), .inl (0, [some 18]), .inr (false, 31), .inl (0, [some 20]), .inr (false, 8), .inl (0, [some 22]), .inr (false, 5)]) (ci := 2) (j := 2) (nb := 21) (by decide +kernel) f_Row_init (Or.inl w_143) (c_Row_init (E := E) (h0 := q2) (n := 5) (Nat.le_of_ble_eq_true rfl)) (Nat.le_of_ble_eq_true rfl) rfl rfl (Nat.le_of_ble_eq_true rfl) (Nat.le_of_ble_eq_true rfl) d_Image_init_34 rfl (Nat.le_of_ble_eq_true rfl) rfl rfl w_148 rfl ⟨_, rfl⟩ (Nat.le_of_ble_eq_true rfl) d_Image_init_37 (by decide +kernel) (by decide +kernel) (fun a2 => ?_)
  rw [glb_z]
  dsimp only [List.set]
  refine k_ret rfl (Nat.le_of_ble_eq_true rfl) (Nat.le_of_ble_eq_true rfl) d_Image_init_40 ?_
  refine PS_of (f0 := (fun _ => 0)) (L := L_Image) (fl := [some 1, some 20, some 22, none]) ?_ ?_ ?_
  · decide +kernel
  · rfl
  · exact glb_z 1
set_option maxRecDepth 10000 in
set_option maxHeartbeats 2000000 in
theorem c_Shares_init : KC E m_Shares_init 3 11 485 [.ref h0] [(h0, .inr (8, [.null, .null, .null, .int 0, .int 0, .int 0, .int 0]))] (PS E L_Shares z0 h0) := by
  refine KC_of (by decide) rfl (Nat.le_of_ble_eq_true rfl) rfl ?_
  refine k_eq (ws' := (h0, .inr (8, [.null, .null, .null, .int 0, .int 0, .int 0, .int 0])) :: nw_W (E.1, E.2, fun _ => 0) [] z0) rfl ?_
  refine k_aload0 d_Shares_init_0 rfl ?_
  refine k_obj w_271 (Nat.le_of_ble_eq_true rfl) d_Shares_init_1 ?_
  refine k_aload0 d_Shares_init_4 rfl ?_
  refine k_new (ci := 0) (fs := [.null]) rfl w_272 w_24 w_2 (fun j hj => by rw [show j = 0 by omega]; rfl) (Nat.le_of_ble_eq_true rfl) (Nat.le_of_ble_eq_true rfl) d_Shares_init_5 (fun q0 => ?_)
  refine k_dup d_Shares_init_8 ?_
  refine k_iconst 5 d_Shares_init_9 ic_5 ?_
  refine k_num (y := nI 5) rfl ?_
  refine k_field (LR := []) (LR2 := [.inl (0, [some 1]), .inr (false, 5)]) (ci := 8) (j := 0) (nb := 0) (by decide +kernel) f_Row_init (Or.inl w_273) (c_Row_init (E := E) (h0 := q0) (n := 5) (Nat.le_of_ble_eq_true rfl)) (Nat.le_of_ble_eq_true rfl) rfl rfl (Nat.le_of_ble_eq_true rfl) (Nat.le_of_ble_eq_true rfl) d_Shares_init_10 rfl (Nat.le_of_ble_eq_true rfl) rfl rfl w_276 rfl ⟨_, rfl⟩ (Nat.le_of_ble_eq_true rfl) d_Shares_init_13 (by decide +kernel) (by decide +kernel) (fun a0 => ?_)
  rw [glb_z]
  dsimp only [List.set]
  refine k_aload0 d_Shares_init_16 rfl ?_
  refine k_new (ci := 0) (fs := [.null]) rfl w_272 w_24 w_2 (fun j hj => by rw [show j = 0 by omega]; rfl) (Nat.le_of_ble_eq_true rfl) (Nat.le_of_ble_eq_true rfl) d_Shares_init_17 (fun q1 => ?_)
  refine k_dup d_Shares_init_20 ?_
  refine k_iconst 5 d_Shares_init_21 ic_5 ?_
  refine k_num (y := nI 5) rfl ?_
  refine k_field (LR := [.inl (0, [some 1]), .inr (false, 5)]) (LR2 := [.inl (0, [some 1]), .inr (false, 5), .inl (0, [some 3]), .inr (false, 5)]) (ci := 8) (j := 1) (nb := 2) (by decide +kernel) f_Row_init (Or.inl w_273) (c_Row_init (E := E) (h0 := q1) (n := 5) (Nat.le_of_ble_eq_true rfl)) (Nat.le_of_ble_eq_true rfl) rfl rfl (Nat.le_of_ble_eq_true rfl) (Nat.le_of_ble_eq_true rfl) d_Shares_init_22 rfl (Nat.le_of_ble_eq_true rfl) rfl rfl w_278 rfl ⟨_, rfl⟩ (Nat.le_of_ble_eq_true rfl) d_Shares_init_25 (by decide +kernel) (by decide +kernel) (fun a1 => ?_)
  rw [glb_z]
  dsimp only [List.set]
  refine k_aload0 d_Shares_init_28 rfl ?_
  refine k_new (ci := 5) (fs := [.null, .null, .null, .int 0, .int 0]) rfl w_274 w_191 w_8 (fun j hj => by rcases (show j = 0 ∨ j = 1 ∨ j = 2 ∨ j = 3 ∨ j = 4 by omega) with rfl | rfl | rfl | rfl | rfl <;> rfl) (Nat.le_of_ble_eq_true rfl) (Nat.le_of_ble_eq_true rfl) d_Shares_init_29 (fun q2 => ?_)
  refine k_dup d_Shares_init_32 ?_
  refine k_field (LR := [.inl (0, [some 1]), .inr (false, 5), .inl (0, [some 3]), .inr (false, 5)]) (LR2 := [.inl (0, [some 1]), .inr (false, 5), .inl (0, [some 3]), .inr (false, 5), .inl (5, [some 5, some 7, some 9, none, none]), .inl (0, [some 6]), .inr (false, 217), .inl (0, [some 8]), .inr (false, 217), .inl (0, [some 10]), .inr (false, 31)]) (ci := 8) (j := 2) (nb := 4) (by decide +kernel) f_Costs_init (Or.inr ⟨_, w_275⟩) (c_Costs_init (E := E) (h0 := q2)) (Nat.le_of_ble_eq_true rfl) rfl rfl (Nat.le_of_ble_eq_true rfl) (Nat.le_of_ble_eq_true rfl) d_Shares_init_33 rfl (Nat.le_of_ble_eq_true rfl) rfl rfl w_280 rfl ⟨_, rfl⟩ (Nat.le_of_ble_eq_true rfl) d_Shares_init_36 (by decide +kernel) (by decide +kernel) (fun a2 => ?_)
  rw [glb_z]
  dsimp only [List.set]
  refine k_ret rfl (Nat.le_of_ble_eq_true rfl) (Nat.le_of_ble_eq_true rfl) d_Shares_init_39 ?_
  refine PS_of (f0 := (fun _ => 0)) (L := L_Shares) (fl := [some 1, some 3, some 5, none, none, none, none]) ?_ ?_ ?_
  · decide +kernel
  · rfl
  · exact glb_z 1
end II
