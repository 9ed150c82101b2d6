-- constructors of NeedCode and of the reference; by wip/whole/gen/mod_i2.py
def mc0 : Nat → Nat := fun j => if j = 3 then 1 else if j = 4 then 2 else 3
def I0a (M : nw_M) : Prop := M 0 11 = 0 ∧ M 0 12 = 0 ∧ M 0 13 = -9 ∧ M 11 9 = 0 ∧ (∀ j, j < 8 → M 31 j = 0) ∧ M 129 3 = 0 ∧ M 129 6 = 0 ∧ M 117 4 = 0 ∧ M 101 4 = 0 ∧ M 101 5 = 0 ∧ M 34 3 = 0 ∧ M 58 3 = 0
def I0 (M : nw_M) : Prop := I0a M ∧ ∀ j, j < 5 → M 33 j = nI (mc0 j)
def I1a (M : nw_M) : Prop := M 0 2 = 0 ∧ M 0 9 = 0 ∧ M 7 0 = 0 ∧ M 7 1 = 0 ∧ M 0 12 = 0 ∧ M 0 13 = -9 ∧ M 3 0 = 0 ∧ ∀ j, j < 8 → M 3 (125 + j) = 0
def I1 (M : nw_M) : Prop := I1a M ∧ ∀ j, j < 5 → M 3 (133 + j) = nI (mc0 j)
def PN (E : kE) (L : nw_L) (I : nw_M → Prop) (h0 : Nat) (ws : va_W) : Prop := ∃ (ad : Nat → Nat) (M : nw_M), ad 0 = h0 ∧ ws = nw_W (E.1, E.2, ad) L M ∧ I M
def fN : Nat → Int32 := fun j => if j = 13 then -9 else 0
theorem I0a_put {M : nw_M} (h : I0a M) (f : Nat → Int32) : I0a (ms M 33 f) := h
section IJ
variable {E : kE} {h0 : Nat}
theorem k_obj2 {k : nk_T} {d C S : Nat} {ws0 : va_W} {P : va_W → Prop} {pc : Nat} {lv : List (Option Value)} {st : List Value} {cells slots : Nat} {ci : Nat} {fs : List Value} {fl : List (Option Nat)} {L LR : nw_L} {adR : Nat → Nat} {f0 : Nat → Int32} {MR : nw_M} (hL : L = .inl (ci, fl) :: LR.map (shE 1)) (hfs : fs = mpx (nw_f (glb 1 (fun _ => h0) adR) f0) 0 fl)
    (kk : ∀ ad : Nat → Nat, ad 0 = h0 → KJ E k d C S ws0 P pc lv st (nw_W (E.1, E.2, ad) L (glb 1 (fun _ => f0) MR)) cells slots) : KJ E k d C S ws0 P pc lv st ((h0, .inr (ci, fs)) :: nw_W (E.1, E.2, adR) LR MR) cells slots := k_eq (nw_obj hL (hfs.trans (mpx_eq _ _))) (kk _ rfl)
set_option maxRecDepth 20000 in
set_option maxHeartbeats 4000000 in
theorem c_Model_init : KC E m_Model_init 1 20 4842 [.ref h0] [(h0, .inr (10, [.int 0, .null, .int 0, .int 0, .int 0, .null, .null, .null, .null, .int 0, .null, .null, .int 0, .int 0, .null, .int 0, .null, .null, .int 0, .null, .null, .null, .null, .null, .int 0, .null, .int 0, .null, .int 0, .null, .null, .null]))] (PN E LM I1 h0) := by
  refine KC_of (by decide) rfl (Nat.le_of_ble_eq_true rfl) rfl ?_
  refine k_eq (ws' := (h0, .inr (10, [.int 0, .null, .int 0, .int 0, .int 0, .null, .null, .null, .null, .int 0, .null, .null, .int 0, .int 0, .null, .int 0, .null, .null, .int 0, .null, .null, .null, .null, .null, .int 0, .null, .int 0, .null, .int 0, .null, .null, .null])) :: nw_W (E.1, E.2, fun _ => 0) [] z0) rfl ?_
  refine k_aload0 d_Model_init_0 rfl ?_
  refine k_obj w_839 (Nat.le_of_ble_eq_true rfl) d_Model_init_1 ?_
  refine k_aload0 d_Model_init_4 rfl ?_
  refine k_bipush 60 d_Model_init_5 bp_60 ?_
  refine k_newa (N := 60) rfl (by decide) (Nat.le_of_ble_eq_true rfl) (Nat.le_of_ble_eq_true rfl) d_Model_init_7 (fun q0 => ?_)
  refine k_arr (b := false) (LR := []) (LR2 := [.inr (false, 60)]) (ci := 10) (j := 1) (nb := 0) (by decide +kernel) rfl (Nat.le_of_ble_eq_true rfl) rfl rfl w_841 rfl ⟨_, rfl⟩ (Nat.le_of_ble_eq_true rfl) d_Model_init_9 (by decide +kernel) rfl ?_
  rw [glb_z]
  dsimp only [List.set]
  refine k_aload0 d_Model_init_12 rfl ?_
  refine k_sipush 138 d_Model_init_13 sp_138 ?_
  refine k_newa (N := 138) rfl (by decide) (Nat.le_of_ble_eq_true rfl) (Nat.le_of_ble_eq_true rfl) d_Model_init_16 (fun q1 => ?_)
  refine k_arr (b := false) (LR := [.inr (false, 60)]) (LR2 := [.inr (false, 60), .inr (false, 138)]) (ci := 10) (j := 5) (nb := 1) (by decide +kernel) rfl (Nat.le_of_ble_eq_true rfl) rfl rfl w_845 rfl ⟨_, rfl⟩ (Nat.le_of_ble_eq_true rfl) d_Model_init_18 (by decide +kernel) rfl ?_
  rw [glb_z]
  dsimp only [List.set]
  refine k_aload0 d_Model_init_21 rfl ?_
  refine k_sipush 138 d_Model_init_22 sp_138 ?_
  refine k_newa (N := 138) rfl (by decide) (Nat.le_of_ble_eq_true rfl) (Nat.le_of_ble_eq_true rfl) d_Model_init_25 (fun q2 => ?_)
  refine k_arr (b := false) (LR := [.inr (false, 60), .inr (false, 138)]) (LR2 := [.inr (false, 60), .inr (false, 138), .inr (false, 138)]) (ci := 10) (j := 6) (nb := 2) (by decide +kernel) rfl (Nat.le_of_ble_eq_true rfl) rfl rfl w_846 rfl ⟨_, rfl⟩ (Nat.le_of_ble_eq_true rfl) d_Model_init_27 (by decide +kernel) rfl ?_
  rw [glb_z]
  dsimp only [List.set]
  refine k_aload0 d_Model_init_30 rfl ?_
  refine k_sipush 138 d_Model_init_31 sp_138 ?_
  refine k_newa (N := 138) rfl (by decide) (Nat.le_of_ble_eq_true rfl) (Nat.le_of_ble_eq_true rfl) d_Model_init_34 (fun q3 => ?_)
  refine k_arr (b := false) (LR := [.inr (false, 60), .inr (false, 138), .inr (false, 138)]) (LR2 := [.inr (false, 60), .inr (false, 138), .inr (false, 138), .inr (false, 138)]) (ci := 10) (j := 7) (nb := 3) (by decide +kernel) rfl (Nat.le_of_ble_eq_true rfl) rfl rfl w_847 rfl ⟨_, rfl⟩ (Nat.le_of_ble_eq_true rfl) d_Model_init_36 (by decide +kernel) rfl ?_
  rw [glb_z]
  dsimp only [List.set]
  refine k_aload0 d_Model_init_39 rfl ?_
  refine k_sipush 1380 d_Model_init_40 sp_1380 ?_
  refine k_newa (N := 1380) rfl (by decide) (Nat.le_of_ble_eq_true rfl) (Nat.le_of_ble_eq_true rfl) d_Model_init_43 (fun q4 => ?_)
  refine k_arr (b := false) (LR := [.inr (false, 60), .inr (false, 138), .inr (false, 138), .inr (false, 138)]) (LR2 := [.inr (false, 60), .inr (false, 138), .inr (false, 138), .inr (false, 138), .inr (false, 1380)]) (ci := 10) (j := 8) (nb := 4) (by decide +kernel) rfl (Nat.le_of_ble_eq_true rfl) rfl rfl w_848 rfl ⟨_, rfl⟩ (Nat.le_of_ble_eq_true rfl) d_Model_init_45 (by decide +kernel) rfl ?_
  rw [glb_z]
  dsimp only [List.set]
  refine k_aload0 d_Model_init_48 rfl ?_
  refine k_sipush 276 d_Model_init_49 sp_276 ?_
  refine k_newa (N := 276) rfl (by decide) (Nat.le_of_ble_eq_true rfl) (Nat.le_of_ble_eq_true rfl) d_Model_init_52 (fun q5 => ?_)
  refine k_arr (b := false) (LR := [.inr (false, 60), .inr (false, 138), .inr (false, 138), .inr (false, 138), .inr (false, 1380)]) (LR2 := [.inr (false, 60), .inr (false, 138), .inr (false, 138), .inr (false, 138), .inr (false, 1380), .inr (false, 276)]) (ci := 10) (j := 10) (nb := 5) (by decide +kernel) rfl (Nat.le_of_ble_eq_true rfl) rfl rfl w_850 rfl ⟨_, rfl⟩ (Nat.le_of_ble_eq_true rfl) d_Model_init_54 (by decide +kernel) rfl ?_
  rw [glb_z]
  dsimp only [List.set]
  refine k_aload0 d_Model_init_57 rfl ?_
  refine k_iconst 2 d_Model_init_58 ic_2 ?_
  refine k_newz (N := 2) rfl (by decide) (Nat.le_of_ble_eq_true rfl) (Nat.le_of_ble_eq_true rfl) d_Model_init_59 (fun q6 => ?_)
  refine k_arr (b := true) (LR := [.inr (false, 60), .inr (false, 138), .inr (false, 138), .inr (false, 138), .inr (false, 1380), .inr (false, 276)]) (LR2 := [.inr (false, 60), .inr (false, 138), .inr (false, 138), .inr (false, 138), .inr (false, 1380), .inr (false, 276), .inr (true, 2)]) (ci := 10) (j := 11) (nb := 6) (by decide +kernel) rfl (Nat.le_of_ble_eq_true rfl) rfl rfl w_851 rfl ⟨_, rfl⟩ (Nat.le_of_ble_eq_true rfl) d_Model_init_61 (by decide +kernel) rfl ?_
  rw [glb_z]
  dsimp only [List.set]
  refine k_aload0 d_Model_init_64 rfl ?_
  refine k_bipush 64 d_Model_init_65 bp_64 ?_
  refine k_newa (N := 64) rfl (by decide) (Nat.le_of_ble_eq_true rfl) (Nat.le_of_ble_eq_true rfl) d_Model_init_67 (fun q7 => ?_)
  refine k_arr (b := false) (LR := [.inr (false, 60), .inr (false, 138), .inr (false, 138), .inr (false, 138), .inr (false, 1380), .inr (false, 276), .inr (true, 2)]) (LR2 := [.inr (false, 60), .inr (false, 138), .inr (false, 138), .inr (false, 138), .inr (false, 1380), .inr (false, 276), .inr (true, 2), .inr (false, 64)]) (ci := 10) (j := 14) (nb := 7) (by decide +kernel) rfl (Nat.le_of_ble_eq_true rfl) rfl rfl w_854 rfl ⟨_, rfl⟩ (Nat.le_of_ble_eq_true rfl) d_Model_init_69 (by decide +kernel) rfl ?_
  rw [glb_z]
  dsimp only [List.set]
  refine k_aload0 d_Model_init_72 rfl ?_
  refine k_bipush 64 d_Model_init_73 bp_64 ?_
  refine k_newa (N := 64) rfl (by decide) (Nat.le_of_ble_eq_true rfl) (Nat.le_of_ble_eq_true rfl) d_Model_init_75 (fun q8 => ?_)
  refine k_arr (b := false) (LR := [.inr (false, 60), .inr (false, 138), .inr (false, 138), .inr (false, 138), .inr (false, 1380), .inr (false, 276), .inr (true, 2), .inr (false, 64)]) (LR2 := [.inr (false, 60), .inr (false, 138), .inr (false, 138), .inr (false, 138), .inr (false, 1380), .inr (false, 276), .inr (true, 2), .inr (false, 64), .inr (false, 64)]) (ci := 10) (j := 16) (nb := 8) (by decide +kernel) rfl (Nat.le_of_ble_eq_true rfl) rfl rfl w_856 rfl ⟨_, rfl⟩ (Nat.le_of_ble_eq_true rfl) d_Model_init_77 (by decide +kernel) rfl ?_
  rw [glb_z]
  dsimp only [List.set]
  refine k_aload0 d_Model_init_80 rfl ?_
  refine k_bipush 64 d_Model_init_81 bp_64 ?_
  refine k_newa (N := 64) rfl (by decide) (Nat.le_of_ble_eq_true rfl) (Nat.le_of_ble_eq_true rfl) d_Model_init_83 (fun q9 => ?_)
  refine k_arr (b := false) (LR := [.inr (false, 60), .inr (false, 138), .inr (false, 138), .inr (false, 138), .inr (false, 1380), .inr (false, 276), .inr (true, 2), .inr (false, 64), .inr (false, 64)]) (LR2 := [.inr (false, 60), .inr (false, 138), .inr (false, 138), .inr (false, 138), .inr (false, 1380), .inr (false, 276), .inr (true, 2), .inr (false, 64), .inr (false, 64), .inr (false, 64)]) (ci := 10) (j := 17) (nb := 9) (by decide +kernel) rfl (Nat.le_of_ble_eq_true rfl) rfl rfl w_857 rfl ⟨_, rfl⟩ (Nat.le_of_ble_eq_true rfl) d_Model_init_85 (by decide +kernel) rfl ?_
  rw [glb_z]
  dsimp only [List.set]
  refine k_aload0 d_Model_init_88 rfl ?_
  refine k_bipush 31 d_Model_init_89 bp_31 ?_
  refine k_newz (N := 31) rfl (by decide) (Nat.le_of_ble_eq_true rfl) (Nat.le_of_ble_eq_true rfl) d_Model_init_91 (fun q10 => ?_)
  refine k_arr (b := true) (LR := [.inr (false, 60), .inr (false, 138), .inr (false, 138), .inr (false, 138), .inr (false, 1380), .inr (false, 276), .inr (true, 2), .inr (false, 64), .inr (false, 64), .inr (false, 64)]) (LR2 := [.inr (false, 60), .inr (false, 138), .inr (false, 138), .inr (false, 138), .inr (false, 1380), .inr (false, 276), .inr (true, 2), .inr (false, 64), .inr (false, 64), .inr (false, 64), .inr (true, 31)]) (ci := 10) (j := 19) (nb := 10) (by decide +kernel) rfl (Nat.le_of_ble_eq_true rfl) rfl rfl w_859 rfl ⟨_, rfl⟩ (Nat.le_of_ble_eq_true rfl) d_Model_init_93 (by decide +kernel) rfl ?_
  rw [glb_z]
  dsimp only [List.set]
  refine k_aload0 d_Model_init_96 rfl ?_
  refine k_sipush 217 d_Model_init_97 sp_217 ?_
  refine k_newa (N := 217) rfl (by decide) (Nat.le_of_ble_eq_true rfl) (Nat.le_of_ble_eq_true rfl) d_Model_init_100 (fun q11 => ?_)
  refine k_arr (b := false) (LR := [.inr (false, 60), .inr (false, 138), .inr (false, 138), .inr (false, 138), .inr (false, 1380), .inr (false, 276), .inr (true, 2), .inr (false, 64), .inr (false, 64), .inr (false, 64), .inr (true, 31)]) (LR2 := [.inr (false, 60), .inr (false, 138), .inr (false, 138), .inr (false, 138), .inr (false, 1380), .inr (false, 276), .inr (true, 2), .inr (false, 64), .inr (false, 64), .inr (false, 64), .inr (true, 31), .inr (false, 217)]) (ci := 10) (j := 20) (nb := 11) (by decide +kernel) rfl (Nat.le_of_ble_eq_true rfl) rfl rfl w_860 rfl ⟨_, rfl⟩ (Nat.le_of_ble_eq_true rfl) d_Model_init_102 (by decide +kernel) rfl ?_
  rw [glb_z]
  dsimp only [List.set]
  refine k_aload0 d_Model_init_105 rfl ?_
  refine k_sipush 217 d_Model_init_106 sp_217 ?_
  refine k_newa (N := 217) rfl (by decide) (Nat.le_of_ble_eq_true rfl) (Nat.le_of_ble_eq_true rfl) d_Model_init_109 (fun q12 => ?_)
  refine k_arr (b := false) (LR := [.inr (false, 60), .inr (false, 138), .inr (false, 138), .inr (false, 138), .inr (false, 1380), .inr (false, 276), .inr (true, 2), .inr (false, 64), .inr (false, 64), .inr (false, 64), .inr (true, 31), .inr (false, 217)]) (LR2 := [.inr (false, 60), .inr (false, 138), .inr (false, 138), .inr (false, 138), .inr (false, 1380), .inr (false, 276), .inr (true, 2), .inr (false, 64), .inr (false, 64), .inr (false, 64), .inr (true, 31), .inr (false, 217), .inr (false, 217)]) (ci := 10) (j := 21) (nb := 12) (by decide +kernel) rfl (Nat.le_of_ble_eq_true rfl) rfl rfl w_861 rfl ⟨_, rfl⟩ (Nat.le_of_ble_eq_true rfl) d_Model_init_111 (by decide +kernel) rfl ?_
  rw [glb_z]
  dsimp only [List.set]
  refine k_aload0 d_Model_init_114 rfl ?_
  refine k_bipush 31 d_Model_init_115 bp_31 ?_
  refine k_newa (N := 31) rfl (by decide) (Nat.le_of_ble_eq_true rfl) (Nat.le_of_ble_eq_true rfl) d_Model_init_117 (fun q13 => ?_)
  refine k_arr (b := false) (LR := [.inr (false, 60), .inr (false, 138), .inr (false, 138), .inr (false, 138), .inr (false, 1380), .inr (false, 276), .inr (true, 2), .inr (false, 64), .inr (false, 64), .inr (false, 64), .inr (true, 31), .inr (false, 217), .inr (false, 217)]) (LR2 := [.inr (false, 60), .inr (false, 138), .inr (false, 138), .inr (false, 138), .inr (false, 1380), .inr (false, 276), .inr (true, 2), .inr (false, 64), .inr (false, 64), .inr (false, 64), .inr (true, 31), .inr (false, 217), .inr (false, 217), .inr (false, 31)]) (ci := 10) (j := 22) (nb := 13) (by decide +kernel) rfl (Nat.le_of_ble_eq_true rfl) rfl rfl w_862 rfl ⟨_, rfl⟩ (Nat.le_of_ble_eq_true rfl) d_Model_init_119 (by decide +kernel) rfl ?_
  rw [glb_z]
  dsimp only [List.set]
  refine k_aload0 d_Model_init_122 rfl ?_
  refine k_sipush 1280 d_Model_init_123 sp_1280 ?_
  refine k_newa (N := 1280) rfl (by decide) (Nat.le_of_ble_eq_true rfl) (Nat.le_of_ble_eq_true rfl) d_Model_init_126 (fun q14 => ?_)
  refine k_arr (b := false) (LR := [.inr (false, 60), .inr (false, 138), .inr (false, 138), .inr (false, 138), .inr (false, 1380), .inr (false, 276), .inr (true, 2), .inr (false, 64), .inr (false, 64), .inr (false, 64), .inr (true, 31), .inr (false, 217), .inr (false, 217), .inr (false, 31)]) (LR2 := [.inr (false, 60), .inr (false, 138), .inr (false, 138), .inr (false, 138), .inr (false, 1380), .inr (false, 276), .inr (true, 2), .inr (false, 64), .inr (false, 64), .inr (false, 64), .inr (true, 31), .inr (false, 217), .inr (false, 217), .inr (false, 31), .inr (false, 1280)]) (ci := 10) (j := 23) (nb := 14) (by decide +kernel) rfl (Nat.le_of_ble_eq_true rfl) rfl rfl w_863 rfl ⟨_, rfl⟩ (Nat.le_of_ble_eq_true rfl) d_Model_init_128 (by decide +kernel) rfl ?_
  rw [glb_z]
  dsimp only [List.set]
  refine k_aload0 d_Model_init_131 rfl ?_
  refine k_sipush 640 d_Model_init_132 sp_640 ?_
  refine k_newa (N := 640) rfl (by decide) (Nat.le_of_ble_eq_true rfl) (Nat.le_of_ble_eq_true rfl) d_Model_init_135 (fun q15 => ?_)
  refine k_arr (b := false) (LR := [.inr (false, 60), .inr (false, 138), .inr (false, 138), .inr (false, 138), .inr (false, 1380), .inr (false, 276), .inr (true, 2), .inr (false, 64), .inr (false, 64), .inr (false, 64), .inr (true, 31), .inr (false, 217), .inr (false, 217), .inr (false, 31), .inr (false, 1280)]) (LR2 := [.inr (false, 60), .inr (false, 138), .inr (false, 138), .inr (false, 138), .inr (false, 1380), .inr (false, 276), .inr (true, 2), .inr (false, 64), .inr (false, 64), .inr (false, 64), .inr (true, 31), .inr (false, 217), .inr (false, 217), .inr (false, 31), .inr (false, 1280), .inr (false, 640)]) (ci := 10) (j := 25) (nb := 15) (by decide +kernel) rfl (Nat.le_of_ble_eq_true rfl) rfl rfl w_865 rfl ⟨_, rfl⟩ (Nat.le_of_ble_eq_true rfl) d_Model_init_137 (by decide +kernel) rfl ?_
  rw [glb_z]
  dsimp only [List.set]
  refine k_aload0 d_Model_init_140 rfl ?_
  refine k_bipush 31 d_Model_init_141 bp_31 ?_
  refine k_newa (N := 31) rfl (by decide) (Nat.le_of_ble_eq_true rfl) (Nat.le_of_ble_eq_true rfl) d_Model_init_143 (fun q16 => ?_)
  refine k_arr (b := false) (LR := [.inr (false, 60), .inr (false, 138), .inr (false, 138), .inr (false, 138), .inr (false, 1380), .inr (false, 276), .inr (true, 2), .inr (false, 64), .inr (false, 64), .inr (false, 64), .inr (true, 31), .inr (false, 217), .inr (false, 217), .inr (false, 31), .inr (false, 1280), .inr (false, 640)]) (LR2 := [.inr (false, 60), .inr (false, 138), .inr (false, 138), .inr (false, 138), .inr (false, 1380), .inr (false, 276), .inr (true, 2), .inr (false, 64), .inr (false, 64), .inr (false, 64), .inr (true, 31), .inr (false, 217), .inr (false, 217), .inr (false, 31), .inr (false, 1280), .inr (false, 640), .inr (false, 31)]) (ci := 10) (j := 27) (nb := 16) (by decide +kernel) rfl (Nat.le_of_ble_eq_true rfl) rfl rfl w_867 rfl ⟨_, rfl⟩ (Nat.le_of_ble_eq_true rfl) d_Model_init_145 (by decide +kernel) rfl ?_
  rw [glb_z]
  dsimp only [List.set]
  refine k_aload0 d_Model_init_148 rfl ?_
  refine k_bipush 8 d_Model_init_149 bp_8 ?_
  refine k_newa (N := 8) rfl (by decide) (Nat.le_of_ble_eq_true rfl) (Nat.le_of_ble_eq_true rfl) d_Model_init_151 (fun q17 => ?_)
  refine k_arr (b := false) (LR := [.inr (false, 60), .inr (false, 138), .inr (false, 138), .inr (false, 138), .inr (false, 1380), .inr (false, 276), .inr (true, 2), .inr (false, 64), .inr (false, 64), .inr (false, 64), .inr (true, 31), .inr (false, 217), .inr (false, 217), .inr (false, 31), .inr (false, 1280), .inr (false, 640), .inr (false, 31)]) (LR2 := [.inr (false, 60), .inr (false, 138), .inr (false, 138), .inr (false, 138), .inr (false, 1380), .inr (false, 276), .inr (true, 2), .inr (false, 64), .inr (false, 64), .inr (false, 64), .inr (true, 31), .inr (false, 217), .inr (false, 217), .inr (false, 31), .inr (false, 1280), .inr (false, 640), .inr (false, 31), .inr (false, 8)]) (ci := 10) (j := 29) (nb := 17) (by decide +kernel) rfl (Nat.le_of_ble_eq_true rfl) rfl rfl w_869 rfl ⟨_, rfl⟩ (Nat.le_of_ble_eq_true rfl) d_Model_init_153 (by decide +kernel) rfl ?_
  rw [glb_z]
  dsimp only [List.set]
  refine k_aload0 d_Model_init_156 rfl ?_
  refine k_bipush 32 d_Model_init_157 bp_32 ?_
  refine k_newa (N := 32) rfl (by decide) (Nat.le_of_ble_eq_true rfl) (Nat.le_of_ble_eq_true rfl) d_Model_init_159 (fun q18 => ?_)
  refine k_arr (b := false) (LR := [.inr (false, 60), .inr (false, 138), .inr (false, 138), .inr (false, 138), .inr (false, 1380), .inr (false, 276), .inr (true, 2), .inr (false, 64), .inr (false, 64), .inr (false, 64), .inr (true, 31), .inr (false, 217), .inr (false, 217), .inr (false, 31), .inr (false, 1280), .inr (false, 640), .inr (false, 31), .inr (false, 8)]) (LR2 := [.inr (false, 60), .inr (false, 138), .inr (false, 138), .inr (false, 138), .inr (false, 1380), .inr (false, 276), .inr (true, 2), .inr (false, 64), .inr (false, 64), .inr (false, 64), .inr (true, 31), .inr (false, 217), .inr (false, 217), .inr (false, 31), .inr (false, 1280), .inr (false, 640), .inr (false, 31), .inr (false, 8), .inr (false, 32)]) (ci := 10) (j := 30) (nb := 18) (by decide +kernel) rfl (Nat.le_of_ble_eq_true rfl) rfl rfl w_870 rfl ⟨_, rfl⟩ (Nat.le_of_ble_eq_true rfl) d_Model_init_161 (by decide +kernel) rfl ?_
  rw [glb_z]
  dsimp only [List.set]
  refine k_aload0 d_Model_init_164 rfl ?_
  refine k_bipush 31 d_Model_init_165 bp_31 ?_
  refine k_newa (N := 31) rfl (by decide) (Nat.le_of_ble_eq_true rfl) (Nat.le_of_ble_eq_true rfl) d_Model_init_167 (fun q19 => ?_)
  refine k_arr (b := false) (LR := [.inr (false, 60), .inr (false, 138), .inr (false, 138), .inr (false, 138), .inr (false, 1380), .inr (false, 276), .inr (true, 2), .inr (false, 64), .inr (false, 64), .inr (false, 64), .inr (true, 31), .inr (false, 217), .inr (false, 217), .inr (false, 31), .inr (false, 1280), .inr (false, 640), .inr (false, 31), .inr (false, 8), .inr (false, 32)]) (LR2 := [.inr (false, 60), .inr (false, 138), .inr (false, 138), .inr (false, 138), .inr (false, 1380), .inr (false, 276), .inr (true, 2), .inr (false, 64), .inr (false, 64), .inr (false, 64), .inr (true, 31), .inr (false, 217), .inr (false, 217), .inr (false, 31), .inr (false, 1280), .inr (false, 640), .inr (false, 31), .inr (false, 8), .inr (false, 32), .inr (false, 31)]) (ci := 10) (j := 31) (nb := 19) (by decide +kernel) rfl (Nat.le_of_ble_eq_true rfl) rfl rfl w_871 rfl ⟨_, rfl⟩ (Nat.le_of_ble_eq_true rfl) d_Model_init_169 (by decide +kernel) rfl ?_
  rw [glb_z]
  dsimp only [List.set]
  refine k_aload0 d_Model_init_172 rfl ?_
  refine k_bipush (-9) d_Model_init_173 bp_m9 ?_
  refine k_puti (ci := 10) (j := 13) rfl (Nat.le_of_ble_eq_true rfl) rfl w_853 rfl rfl (Nat.le_of_ble_eq_true rfl) d_Model_init_175 ?_
  refine k_obj2 (f0 := fN) (L := LM) (fl := [none, some 1, none, none, none, some 2, some 3, some 4, some 5, none, some 6, some 7, none, none, some 8, none, some 9, some 10, none, some 11, some 12, some 13, some 14, some 15, none, some 16, none, some 17, none, some 18, some 19, some 20]) ?_ ?_ (fun ad had => ?_)
  · decide +kernel
  · rfl
  have hi : I1a (glb 1 (fun _ => fN) z0) := ⟨rfl, rfl, rfl, rfl, rfl, rfl, rfl, fun _ _ => rfl⟩
  generalize glb 1 (fun _ => fN) z0 = M at hi ⊢
  subst had
  refine k_aload0 d_Model_init_178 rfl ?_
  refine k_getr (i := 0) nf_Model_16 lm_0 rfl d_Model_init_179 ?_
  refine k_sipush 133 d_Model_init_182 sp_133 ?_
  refine k_iconst 3 d_Model_init_185 ic_3 ?_
  refine k_iast (q := 133) lm_3 rfl (by decide) (by decide) d_Model_init_186 ?_
  refine k_aload0 d_Model_init_187 rfl ?_
  refine k_getr (i := 0) nf_Model_16 lm_0 rfl d_Model_init_188 ?_
  refine k_sipush 134 d_Model_init_191 sp_134 ?_
  refine k_iconst 3 d_Model_init_194 ic_3 ?_
  refine k_iast (q := 134) lm_3 rfl (by decide) (by decide) d_Model_init_195 ?_
  refine k_aload0 d_Model_init_196 rfl ?_
  refine k_getr (i := 0) nf_Model_16 lm_0 rfl d_Model_init_197 ?_
  refine k_sipush 135 d_Model_init_200 sp_135 ?_
  refine k_iconst 3 d_Model_init_203 ic_3 ?_
  refine k_iast (q := 135) lm_3 rfl (by decide) (by decide) d_Model_init_204 ?_
  refine k_aload0 d_Model_init_205 rfl ?_
  refine k_getr (i := 0) nf_Model_16 lm_0 rfl d_Model_init_206 ?_
  refine k_sipush 136 d_Model_init_209 sp_136 ?_
  refine k_iconst 1 d_Model_init_212 ic_1 ?_
  refine k_iast (q := 136) lm_3 rfl (by decide) (by decide) d_Model_init_213 ?_
  refine k_aload0 d_Model_init_214 rfl ?_
  refine k_getr (i := 0) nf_Model_16 lm_0 rfl d_Model_init_215 ?_
  refine k_sipush 137 d_Model_init_218 sp_137 ?_
  refine k_iconst 2 d_Model_init_221 ic_2 ?_
  refine k_iast (q := 137) lm_3 rfl (by decide) (by decide) d_Model_init_222 ?_
  refine k_ret rfl (Nat.le_of_ble_eq_true rfl) (Nat.le_of_ble_eq_true rfl) d_Model_init_223 ?_
  refine ⟨ad, _, rfl, rfl, ⟨hi.1, hi.2.1, hi.2.2.1, hi.2.2.2.1, hi.2.2.2.2.1, hi.2.2.2.2.2.1, ?_, fun j hj => ?_⟩, fun j hj => ?_⟩
  · simp (disch := omega) only [ms_same, upd_ne]; exact hi.2.2.2.2.2.2.1
  · simp (disch := omega) only [ms_same, upd_ne]; exact hi.2.2.2.2.2.2.2 j hj
  · rcases (show j = 0 ∨ j = 1 ∨ j = 2 ∨ j = 3 ∨ j = 4 by omega) with rfl | rfl | rfl | rfl | rfl <;> simp (disch := omega) only [ms_same, upd_at, upd_ne] <;> rfl
end IJ
