-- calls
theorem nw_blind {G : nw_G} {L : nw_L} {M : nw_M} {sz : Nat} {av : List Value} : FrameBlind (va_Pc av (nw_B G L M sz)) := by
  intro a U g mk h
  obtain ⟨h1, h2, h3, h4, h5, h6⟩ := h
  exact ⟨h1, h2, h3, va_K.moved (u := U) (U := U.calling g mk a) (Vm.Alike.refl U.vm) h4, h5, fun w hw => nests_same (s := U) (U := U.calling g mk a) hw rfl (h6 w hw)⟩
theorem nw_gi {k k2 : nk_T} (hc : Cond.code k2.1 k2.2.1 k2.2.2.1 k2.2.2.2 ∈ lw_tbl) : GoodIn (wK k) (wK k2) := by
  intro w hw
  rcases List.mem_cons.mp hw with rfl | h
  · exact ⟨List.mem_cons_of_mem _ (gw_of hc rfl), Or.inl rfl⟩
  · exact ⟨List.mem_cons_of_mem _ h, gw_good h⟩
theorem nw_Am {G : nw_G} {L : nw_L} {a b q : Nat} (h : a ≤ b) (hq : nw_A G L b q) : nw_A G L a q := hq.elim Or.inl (fun z => Or.inr (Nat.le_trans h z))
section RC
variable {G : nw_G} {L : nw_L} {k : nk_T} {d : Nat} {P : Option Value → nw_M → Prop} {pc : Nat} {lv : List (Option Value)} {st : List Value} {M : nw_M}
theorem nw_pre {p : Program} {s : State} {m : MethodId} {args : Array Value} {meth : Method} {c : Code} {H : Heap} {av : List Value} (C : CX G L k p s m args meth c) (hP : va_P G.1 classes (nw_W G L M) H) : ∀ U : State, U.heap = H → s.WarmedH U.vm → va_Pc av (nw_B G L M H.size) av.toArray U := by
  intro U hU hW
  refine ⟨rfl, by rw [hU], by rw [hU]; exact hP, va_K.moved hW.alike C.2.2.2.2.2.2.2.1, (C.2.2.2.2.2.2.2.2.1 M).weaken (fun _ _ _ _ => trivial), fun w hw => nests_warm hw hW (C.2.2.2.2.2.2.2.2.2 w hw)⟩
theorem nw_after {p : Program} {l : Launch} {e : Env} {s : State} {m : MethodId} {args a : Array Value} {below : List Frame} {meth : Method} {c : Code} {H : Heap} {locs : List Loc} {ls : Array Slot} {rest : List Value} {P2 : Option Value → nw_M → Prop} (C : CX G L k p s m args meth c) (hn : lv.length = k.2.2.1) (hS : va_S (nw_A G L s.heap.size) s.heap H locs) (hl : nl_has ls lv)
    (hr : va_Run p l e (rmD d) s m args below meth c H locs 0 0 0 0 (F0 m pc ls st) rest (nw_Q G L P2 H.size a) (nw_A G L H.size))
    (kk : ∀ v N, P2 v N → RJ G L k d P (pc + 3) lv (v.toList ++ rest) N) : W p l e (rmD d) s m args below meth c H locs 0 0 (MQ below (nw_Q G L P s.heap.size) args s 0 0 (nw_A G L s.heap.size)) (F0 m pc ls st) := by
  intro T hT X
  obtain ⟨v, st₀, t, T', Lc, h0, X', hL, e1, e2, ⟨⟨v', N, hv, hp, hP1⟩, hz, hk⟩, stp⟩ := hr T hT X
  cases hv
  rw [h0] at hz hk
  obtain ⟨t2, a1, b1⟩ := kk v N hp p l e s m args below meth c T'.heap (locs ++ Lc) ls C hn (by rw [e1]; exact hP1)
    ⟨Nat.le_trans hS.1 (by rw [e1]; exact hz), fun q h1 h2 => by
      rw [e1, hk q (Nat.lt_of_lt_of_le h1 hS.1) (fun z => h2 (nw_Am hS.1 z))]
      exact hS.2.1 q h1 h2, fun q hq => by
      rcases List.mem_append.mp hq with h | h
      · exact hS.2.2 q h
      · exact nw_Am hS.1 (hL q h)⟩ hl T' rfl X'
  exact ⟨t2, stp t2 a1, b1⟩
theorem nw_room {d d2 n : Nat} (h : d2 + 1 ≤ d) (hn : n ≤ 21) : (rmD d2).frames + 1 ≤ (rmD d).frames ∧ 8 + (n + 11) + (rmD d2).locals ≤ (rmD d).locals := by
  simp only [rmD]
  exact ⟨h, by omega⟩
theorem r_callV {k2 : nk_T} {n d2 idx b ci : Nat} {fl : List (Option Nat)} {As rest : List Value} {P2 : Option Value → nw_M → Prop} (hf : mfV k2 n) (hl2 : Cond.methodLink k.1.cls idx k2.1 ∈ lw_tbl) (hL : L[b]? = some (.inl (ci, fl))) (hcls : (classes[ci]?).map (fun q => q.1) = some k2.1.cls)
    (hM : CJ G L k2 d2 (.ref (G.2.2 b) :: As) M P2) (hdd : d2 + 1 ≤ d) (hn' : As.length = n) (hst : st = As.reverse ++ .ref (G.2.2 b) :: rest) (hroom : (rest.map fun v => v.category).sum ≤ 8) (hd : decode k.2.1 pc = .ok (.invokevirtual idx, 3))
    (kk : ∀ v N, P2 v N → RJ G L k d P (pc + 3) lv (v.toList ++ rest) N) : RJ G L k d P pc lv st M := by
  intro p l e s m args below meth c H locs ls C hn hP hS hl
  obtain ⟨f1, f2, f3, f4, f5, f6, f7⟩ := hf
  obtain ⟨q, hq, hqc⟩ := Option.map_eq_some_iff.mp hcls
  refine nw_after C hn hS hl (va_runV (C := k2.1.cls) (As := As) (rest := rest) (bytes := k2.2.1) (maxL := k2.2.2.1) (ret := k2.2.2.2) (n := n) ⟨C.1, C.2.1, C.2.2.1, C.2.2.2.1, C.2.2.2.2.1⟩ (hM l H.size) ⟨callB_of n C.2.2.2.2.1 (nw_gi f4) rfl rfl rfl (C.gw _ (gw_of f3 rfl)) (C.gw _ (gw_of hl2 rfl)) f5 (nw_room hdd f6), C.gw _ (gw_of f1 rfl), C.gw _ (gw_of f2 rfl)⟩ ⟨nw_blind, ?_, nw_pre C hP⟩ rfl hn' (hl.1.trans hn) hst (lv_room hroom) hd ⟨Nat.le_refl _, Nat.le_refl _⟩) kk
  have := va_recv C.2.2.2.2.2.2.2.1 hP hq (nw_at (G := G) (M := M) hL)
  rw [hqc] at this
  exact this
theorem r_callVN {k2 : nk_T} {n d2 idx b ci : Nat} {host : String} {fl : List (Option Nat)} {As rest : List Value} {P2 : Option Value → nw_M → Prop} (hf : mfV k2 n) (hl2 : Cond.methodLinkNest k.1.cls idx k2.1 host ∈ lw_tbl) (hL : L[b]? = some (.inl (ci, fl))) (hcls : (classes[ci]?).map (fun q => q.1) = some k2.1.cls)
    (hM : CJ G L k2 d2 (.ref (G.2.2 b) :: As) M P2) (hdd : d2 + 1 ≤ d) (hn' : As.length = n) (hst : st = As.reverse ++ .ref (G.2.2 b) :: rest) (hroom : (rest.map fun v => v.category).sum ≤ 8) (hd : decode k.2.1 pc = .ok (.invokevirtual idx, 3))
    (kk : ∀ v N, P2 v N → RJ G L k d P (pc + 3) lv (v.toList ++ rest) N) : RJ G L k d P pc lv st M := by
  intro p l e s m args below meth c H locs ls C hn hP hS hl
  obtain ⟨f1, f2, f3, f4, f5, f6, f7⟩ := hf
  obtain ⟨q, hq, hqc⟩ := Option.map_eq_some_iff.mp hcls
  refine nw_after C hn hS hl (va_runVN (C := k2.1.cls) (host := host) (As := As) (rest := rest) (bytes := k2.2.1) (maxL := k2.2.2.1) (ret := k2.2.2.2) (n := n) ⟨C.1, C.2.1, C.2.2.1, C.2.2.2.1, C.2.2.2.2.1⟩ (hM l H.size) ⟨va_cnB n C.2.2.2.2.1 (nw_gi f4) rfl rfl rfl (C.2.2.2.2.2.2.2.2.2 _ (nests_of hl2 rfl)) (C.gw _ (gw_of f3 rfl)) f5 (nw_room hdd f6), C.gw _ (gw_of f1 rfl), C.gw _ (gw_of f2 rfl)⟩ ⟨nw_blind, ?_, nw_pre C hP⟩ rfl hn' (hl.1.trans hn) hst (lv_room hroom) hd ⟨Nat.le_refl _, Nat.le_refl _⟩) kk
  have := va_recv C.2.2.2.2.2.2.2.1 hP hq (nw_at (G := G) (M := M) hL)
  rw [hqc] at this
  exact this
theorem r_callS {k2 : nk_T} {n d2 idx : Nat} {As rest : List Value} {P2 : Option Value → nw_M → Prop} (hf : mfS k2 n) (hl2 : Cond.methodLink k.1.cls idx k2.1 ∈ lw_tbl)
    (hM : CJ G L k2 d2 As M P2) (hdd : d2 + 1 ≤ d) (hn' : As.length = n) (hst : st = As.reverse ++ rest) (hroom : (rest.map fun v => v.category).sum ≤ 8) (hd : decode k.2.1 pc = .ok (.invokestatic idx, 3))
    (kk : ∀ v N, P2 v N → RJ G L k d P (pc + 3) lv (v.toList ++ rest) N) : RJ G L k d P pc lv st M := by
  intro p l e s m args below meth c H locs ls C hn hP hS hl
  obtain ⟨f1, f3, f4, f5, f6, f7⟩ := hf
  exact nw_after C hn hS hl (va_runS (As := As) (rest := rest) (bytes := k2.2.1) (maxL := k2.2.2.1) (ret := k2.2.2.2) (n := n) ⟨C.1, C.2.1, C.2.2.1, C.2.2.2.1, C.2.2.2.2.1⟩ (hM l H.size) ⟨callB_of n C.2.2.2.2.1 (nw_gi f4) rfl rfl rfl (C.gw _ (gw_of f3 rfl)) (C.gw _ (gw_of hl2 rfl)) f5 (nw_room hdd f6), C.gw _ (gw_of f1 rfl)⟩ ⟨nw_blind, nw_pre C hP⟩ rfl hn' (hl.1.trans hn) hst (lv_room hroom) hd ⟨Nat.le_refl _, Nat.le_refl _⟩) kk
/-- an answer and a memory that are functions of the start -/
def CF (G : nw_G) (L : nw_L) (k : nk_T) (d : Nat) (av : List Value) (M : nw_M) (r : Option Value) (N : nw_M) : Prop := CJ G L k d av M (fun v N' => v = r ∧ N' = N)
theorem r_callVF {k2 : nk_T} {n d2 idx b ci : Nat} {fl : List (Option Nat)} {As rest : List Value} {r : Option Value} {N : nw_M} (hf : mfV k2 n) (hl2 : Cond.methodLink k.1.cls idx k2.1 ∈ lw_tbl) (hL : L[b]? = some (.inl (ci, fl))) (hcls : (classes[ci]?).map (fun q => q.1) = some k2.1.cls)
    (hM : CF G L k2 d2 (.ref (G.2.2 b) :: As) M r N) (hdd : d2 + 1 ≤ d) (hn' : As.length = n) (hst : st = As.reverse ++ .ref (G.2.2 b) :: rest) (hroom : (rest.map fun v => v.category).sum ≤ 8) (hd : decode k.2.1 pc = .ok (.invokevirtual idx, 3))
    (kk : RJ G L k d P (pc + 3) lv (r.toList ++ rest) N) : RJ G L k d P pc lv st M :=
  r_callV hf hl2 hL hcls hM hdd hn' hst hroom hd (fun v N' h => by rw [h.1, h.2]; exact kk)
theorem r_callVNF {k2 : nk_T} {n d2 idx b ci : Nat} {host : String} {fl : List (Option Nat)} {As rest : List Value} {r : Option Value} {N : nw_M} (hf : mfV k2 n) (hl2 : Cond.methodLinkNest k.1.cls idx k2.1 host ∈ lw_tbl) (hL : L[b]? = some (.inl (ci, fl))) (hcls : (classes[ci]?).map (fun q => q.1) = some k2.1.cls)
    (hM : CF G L k2 d2 (.ref (G.2.2 b) :: As) M r N) (hdd : d2 + 1 ≤ d) (hn' : As.length = n) (hst : st = As.reverse ++ .ref (G.2.2 b) :: rest) (hroom : (rest.map fun v => v.category).sum ≤ 8) (hd : decode k.2.1 pc = .ok (.invokevirtual idx, 3))
    (kk : RJ G L k d P (pc + 3) lv (r.toList ++ rest) N) : RJ G L k d P pc lv st M :=
  r_callVN hf hl2 hL hcls hM hdd hn' hst hroom hd (fun v N' h => by rw [h.1, h.2]; exact kk)
theorem r_callSF {k2 : nk_T} {n d2 idx : Nat} {As rest : List Value} {r : Option Value} {N : nw_M} (hf : mfS k2 n) (hl2 : Cond.methodLink k.1.cls idx k2.1 ∈ lw_tbl)
    (hM : CF G L k2 d2 As M r N) (hdd : d2 + 1 ≤ d) (hn' : As.length = n) (hst : st = As.reverse ++ rest) (hroom : (rest.map fun v => v.category).sum ≤ 8) (hd : decode k.2.1 pc = .ok (.invokestatic idx, 3))
    (kk : RJ G L k d P (pc + 3) lv (r.toList ++ rest) N) : RJ G L k d P pc lv st M :=
  r_callS hf hl2 hM hdd hn' hst hroom hd (fun v N' h => by rw [h.1, h.2]; exact kk)
theorem r_mmax {idx : Nat} {x y : Int32} (hl2 : Cond.methodLink k.1.cls idx ⟨"java/lang/Math", "max", "(II)I"⟩ ∈ lw_tbl) (hd1 : 1 ≤ d) (hroom : (st.map fun v => v.category).sum ≤ 8) (hd : decode k.2.1 pc = .ok (.invokestatic idx, 3)) (kk : RJ G L k d P (pc + 3) lv (.int (if x < y then y else x) :: st) M) : RJ G L k d P pc lv (.int y :: .int x :: st) M :=
  fun p l e s m args below meth c H locs ls C hn hP hS hl => va_mmax C.1 C.2.1 (by rw [C.2.2.1, hl.1, hn]) C.2.2.2.1 (C.gw _ (gw_of hl2 rfl)) (C.gw _ (gw_of w_30 rfl)) (C.gw _ (gw_of w_3 rfl)) (C.gw _ (gw_of w_31 rfl)) hd1 (by simp only [rmD]; omega) (Nat.zero_le _) (Nat.zero_le _) hd (kk p l e s m args below meth c H locs ls C hn hP hS hl)
theorem r_mmin {idx : Nat} {x y : Int32} (hl2 : Cond.methodLink k.1.cls idx ⟨"java/lang/Math", "min", "(II)I"⟩ ∈ lw_tbl) (hd1 : 1 ≤ d) (hroom : (st.map fun v => v.category).sum ≤ 8) (hd : decode k.2.1 pc = .ok (.invokestatic idx, 3)) (kk : RJ G L k d P (pc + 3) lv (.int (if y < x then y else x) :: st) M) : RJ G L k d P pc lv (.int y :: .int x :: st) M :=
  fun p l e s m args below meth c H locs ls C hn hP hS hl => va_mmin C.1 C.2.1 (by rw [C.2.2.1, hl.1, hn]) C.2.2.2.1 (C.gw _ (gw_of hl2 rfl)) (C.gw _ (gw_of w_471 rfl)) (C.gw _ (gw_of w_3 rfl)) (C.gw _ (gw_of w_472 rfl)) hd1 (by simp only [rmD]; omega) (Nat.zero_le _) (Nat.zero_le _) hd (kk p l e s m args below meth c H locs ls C hn hP hS hl)
theorem r_copy {idx i i2 n n2 : Nat} {c' : Int32} (hl2 : Cond.methodLink k.1.cls idx ⟨"java/lang/System", "arraycopy", "(Ljava/lang/Object;ILjava/lang/Object;II)V"⟩ ∈ lw_tbl) (hL : L[i]? = some (.inr (false, n))) (hL2 : L[i2]? = some (.inr (false, n2))) (h3 : ¬ c' < 0) (h4 : c'.toNatClampNeg ≤ n) (h5 : c'.toNatClampNeg ≤ n2) (hd1 : 2 ≤ d) (hroom : (st.map fun v => v.category).sum ≤ 8) (hd : decode k.2.1 pc = .ok (.invokestatic idx, 3))
    (kk : RJ G L k d P (pc + 3) lv st (ms M i2 (va_cpy (M i) (M i2) 0 0 c'.toNatClampNeg))) : RJ G L k d P pc lv (.int c' :: .int 0 :: .ref (G.2.2 i2) :: .int 0 :: .ref (G.2.2 i) :: st) M := by
  intro p l e s m args below meth c H locs ls C hn hP hS hl
  have hw : nativeFrameWords "java/lang/System" "arraycopy" 5 + 11 ≤ 40 := by decide +kernel
  refine va_copyi C.1 C.2.1 (by rw [C.2.2.1, hl.1, hn]) C.2.2.2.1 (C.gw _ (gw_of hl2 rfl)) (C.gw _ (gw_of w_507 rfl)) (C.gw _ (gw_of w_506 rfl)) (C.gw _ (gw_of w_14 rfl)) C.2.2.2.2.2.2.2.1 hP (C.2.2.2.2.2.2.2.2.1 M) hS i i2 0 0 (nw_at hL) (nw_at hL2) rfl rfl rfl (sp := 0) (dp := 0) (by decide) (by decide) h3 (by rw [show (0 : Int32).toNatClampNeg = 0 from rfl]; omega) (by rw [show (0 : Int32).toNatClampNeg = 0 from rfl]; omega) (fun _ _ => rfl) (by simp only [rmD]; omega) (by simp only [rmD]; omega) hd ?_
  intro H1 locs1 hP1 _ hS1
  exact kk p l e s m args below meth c H1 locs1 ls C hn (by rw [← nw_set hL2]; exact hP1) hS1 hl
end RC
