/-! THE CLAIM OUT OF ONE WALK OF THE LAW'S BODY. Your part is whole_start (and what it stands on); all else here is the same for every law, but numbers. -/
def R_law : String := "NeedCodeLaw"
def lw_P (b : Addr) (xs : List Int32) (args : Array Value) (s : State) : Prop := args = #[.ref b] ∧ s.IntsAt b xs ∧ xs.length ≤ 3072 ∧ (Jvm.Cond.and given_1 narrow_1).before args s = true
def lw_Q (_ : Array Value) (s : State) (o : Outcome) (t : State) : Prop := o = .returned (some (.int 1)) ∧ Framed s o t [] 600000 7302250
def lw_Z (below : List Frame) (a : Array Value) (s : State) : State → Prop := fun t => ∃ o, t.status = .running ∧ Ended t below o ∧ lw_Q a s o t
/-- the law's own end, with 1 on the stack, nothing written that was there before, its room as the claim has it -/
theorem lw_ret {p : Program} {l : Launch} {e : Env} {s : State} {m : MethodId} {below : List Frame} {meth : Method} {c : Code} {b : Nat} (hx : p.tables.exec = Jvm.exec) (hb : c.code = code) (hr : meth.sig.returnType = ret) (hlocks : meth.locks = false) {pc : Nat} {H : Heap} {ls : Array Slot} (hdg : decode code pc = .ok (.ireturn, 1)) : W p l e room_1 s m #[Value.ref b] below meth c H [] 600000 7302250 (lw_Z below #[Value.ref b] s) (F0 m pc ls [.int 1]) := by
  intro T hT X
  obtain ⟨fs, hret, hrun, hended, hW, hframe⟩ := X.leave (v := some (.int 1)) (hlocks := hlocks) (fun h => by rw [hr] at h; cases h)
  have hmeth' : T.vm.method? m = some meth := X.method'
  refine ⟨T.setFrames fs, ?_, .returned (some (.int 1)), hrun, hended, rfl, ⟨_, rfl⟩, hW, hframe⟩
  jvm_step X.here [X.here.top, hx, hb, hdg, hmeth', hr, ret, narrow_b1]
  (try refine ⟨rfl, ?_⟩); (try refine ⟨rfl, ?_⟩)
  first | (intro acts; rw [hret _ acts rfl rfl rfl]) | rw [hret _ _ rfl rfl rfl]
  exact Steps.refl _
/-- what holds at the law's entry: the machine, the code, the tables' words (any of lw_tbl by 'hts w (by decide +kernel)'), the script of L ints xs at the cell b, what the Statement gives of the start (any of its parts by flat_of_before) -/
def lw_At (p : Program) (s : State) (m : MethodId) (meth : Method) (c : Code) (b L : Nat) (xs : Nat → Int32) : Prop :=
  p.tables.exec = Jvm.exec ∧ c.code = code ∧ meth.sig.returnType = ret ∧ c.maxLocals = 4 ∧ s.vm.findClass R_law = some m.cls ∧ (∀ w ∈ lw_tbl, w.before #[Value.ref b] s = true) ∧ va_X b L xs s s.heap ∧ b < s.heap.size ∧ meth.locks = false ∧ (Jvm.Cond.and given_1 narrow_1).before #[Value.ref b] s = true
-- both are made: they are in step
theorem jr_0 {M M2 : nw_M} (h : I0 M) (h2 : I1 M2) : JR M M2 := by
  obtain ⟨⟨a1, a2, a3, a4, a5, a6, a7, a8, a9, a10, a11, a12⟩, a13⟩ := h
  obtain ⟨⟨b1, b2, b3, b4, b5, b6, b7, b8⟩, b9⟩ := h2
  have hw : WF 0 (M 13) (M 15) (M 17) (M 19) (fun _ => 1) := ⟨by decide, fun k hk => absurd hk (Nat.not_lt_zero k)⟩
  have hg : GH 0 (M 13) (M 15) (M 17) (M 19) (fun _ => 1) (fun _ => false) (fun _ => 0) (fun _ => 0) (fun _ => 0) := ⟨hw, fun k hk => absurd hk (Nat.not_lt_zero k)⟩
  have hm : MOK mc0 := ⟨by decide, by decide, fun j h1 h2 => by
    rcases (show j = 1 ∨ j = 2 ∨ j = 3 ∨ j = 4 by omega) with rfl | rfl | rfl | rfl <;> decide⟩
  obtain ⟨C, Q, hS⟩ := gs_of hg hm
  obtain ⟨V, hV⟩ := vs_of hw mc0 (fun _ => false) (fun _ => 0)
  refine ⟨0, M2 3, [], fun _ => none, 0, -9, ⟨0, fun _ => 1, fun _ => false, fun _ => 0, fun _ => 0, fun _ => 0, mc0, C, Q, V, Nat.zero_le _, a1, a2, a3, ⟨⟨⟨a4, hg, fun j hj => absurd hj (Nat.not_lt_zero j)⟩, hS, a13, fun j hj => absurd hj (Nat.not_lt_zero j)⟩, hV, ⟨⟨?_, fun c x hx => ?_⟩, Or.inl a7⟩, 0, a8, by omega, Or.inl rfl⟩, ⟨b7, fun j hj => absurd hj (Nat.not_lt_zero j), fun j hj => by rw [b8 j hj, a5 j hj], b9⟩, ⟨0, by omega, a9, a10, Nat.zero_le _, trivial⟩, a11, a12⟩, b1, fun j hj => absurd hj (Nat.not_lt_zero j), fun _ _ => rfl, b2, trivial, fun i hi => ?_, b5, b6⟩
  · exact a6
  · exact absurd (shL_at hx).1 (Nat.not_lt_zero _)
  · show M2 7 i = 0
    rcases (show i = 0 ∨ i = 1 by omega) with rfl | rfl
    · exact b3
    · exact b4
/-- a constructor is called on the newest cell, from any frame -/
theorem w_init {E : kE} {own : String} {k2 : nk_T} {n d2 C2 S2 idx q : Nat} {As rest st : List Value} {x : va_E} {ws : va_W} {P2 : va_W → Prop} {p : Program} {l : Launch} {e : Env} {R : Room} {s : State} {m : MethodId} {args : Array Value} {below : List Frame} {meth : Method} {c : Code} {cc : ByteArray} {nL : Nat} {H : Heap} {locs : List Loc} {cells slots pc : Nat} {Q : State → Prop} {A : Nat → Prop} {ls : Array Slot}
    (hx : p.tables.exec = Jvm.exec) (hb : c.code = cc) (hml : c.maxLocals = nL) (hown : s.vm.findClass own = some m.cls) (hgw : ∀ w ∈ gw, w.before args s = true) (hK : va_K E.1 classes (kTy E) s) (hN : ∀ w ∈ nests, va_Nw w s)
    (hf : mfI k2 n) (hl2 : Cond.methodLink own idx k2.1 ∈ lw_tbl) (hM : KC E k2 d2 C2 S2 (.ref q :: As) [(q, x)] P2) (hR : d2 + 1 ≤ R.frames ∧ 40 * (d2 + 1) ≤ R.locals) (hn' : As.length = n) (hst : st = As.reverse ++ .ref q :: rest) (hroom : (rest.map fun v => v.category).sum ≤ 8) (hd : decode cc pc = .ok (.invokespecial idx, 3)) (hcs : cells + C2 ≤ R.cells ∧ slots + S2 ≤ R.slots) (hsize : ls.size = nL)
    (hP : va_P E.1 classes (ws ++ [(q, x)]) H) (hD : va_D A (ws ++ [(q, x)])) (hS : va_S A s.heap H locs) (hA : ∀ q, s.heap.size ≤ q → A q)
    (kk : ∀ (w1 : va_W) (H1 : Heap) (locs1 : List Loc), P2 w1 → va_P E.1 classes (ws ++ w1) H1 → va_D A (ws ++ w1) → va_S A s.heap H1 locs1 → W p l e R s m args below meth c H1 locs1 (cells + C2) (slots + S2) Q (F0 m (pc + 3) ls rest)) :
    W p l e R s m args below meth c H locs cells slots Q (F0 m pc ls st) := by
  obtain ⟨f1, f2, f3, f4, f5, f6, f7, f8⟩ := hf
  have hPc : va_P E.1 classes [(q, x)] H := hP.sub [ws.length] (by simp)
  have hDc : va_D A [(q, x)] := hD.sub [ws.length] rfl (by simp)
  have hFc : ∀ y, va_A [(q, x)] H.size y → A y := va_free hD hS hA [ws.length] (by simp)
  have hblind : FrameBlind (va_Pc (.ref q :: As) (kB E [(q, x)] H.size)) := by
    intro a U g mk h
    obtain ⟨h1, h2, h3, h4, h5, h6⟩ := h
    exact ⟨h1, h2, h3, va_K.moved (u := U) (U := U.calling g mk a) (Vm.Alike.refl U.vm) h4, h5, fun w hw => nests_same (s := U) (U := U.calling g mk a) hw rfl (h6 w hw)⟩
  have hpre : ∀ U : State, U.heap = H → s.WarmedH U.vm → va_Pc (.ref q :: As) (kB E [(q, x)] H.size) (Value.ref q :: As).toArray U := fun U hU hW => ⟨rfl, by rw [hU], by rw [hU]; exact hPc, va_K.moved hW.alike hK, hDc.weaken (fun _ _ _ _ => trivial), fun w hw => nests_warm hw hW (hN w hw)⟩
  have hrm : (rmC d2 C2 S2).frames + 1 ≤ R.frames ∧ 8 + (k2.2.2.1 + 11) + (rmC d2 C2 S2).locals ≤ R.locals := by
    simp only [rmC]
    exact ⟨hR.1, by omega⟩
  have hrun : va_Run p l e R s m args below meth c H locs cells slots C2 S2 (F0 m pc ls st) rest (kQ E (va_A [(q, x)] H.size) P2 (Value.ref q :: As).toArray) (va_A [(q, x)] H.size) :=
    va_runI (As := As) (rest := rest) (bytes := k2.2.1) (maxL := k2.2.2.1) (n := n) ⟨hx, hb, hml, hown, hgw⟩ (hM l H.size) ⟨callB_of n hgw (gi_gw f3) (by rw [wK, f8]) rfl rfl (hgw _ (gw_of f2 rfl)) (hgw _ (gw_of hl2 rfl)) f4 hrm, f7, hgw _ (gw_of f1 rfl)⟩ ⟨hblind, hpre⟩ rfl hn' hsize hst (lv_room hroom) hd hcs
  intro T hT Y
  obtain ⟨v, st₀, t, T', Lc, h0, X', hL, e1, e2, ⟨⟨w1, hv, hp, hP1, hD1⟩, hz, hk⟩, stp⟩ := hrun T hT Y
  cases hv
  rw [h0] at hz hk
  obtain ⟨hPj, hDj⟩ := k_join hP hD hk hFc hP1 hD1
  obtain ⟨t2, a1, b1⟩ := kk w1 T'.heap (locs ++ Lc) hp (by rw [e1]; exact hPj) hDj
    ⟨Nat.le_trans hS.1 (by rw [e1]; exact hz), fun y h1 h2 => by
      rw [e1, hk y (Nat.lt_of_lt_of_le h1 hS.1) (fun z => h2 (hFc y z))]
      exact hS.2.1 y h1 h2, fun y hy => by
      rcases List.mem_append.mp hy with h | h
      · exact hS.2.2 y h
      · exact hFc _ (hL y h)⟩ T' rfl X'
  exact ⟨t2, stp t2 a1, b1⟩
-- the law's frame over the two worlds
def LCx (E : kE) (p : Program) (s : State) (m : MethodId) (meth : Method) (c : Code) (b L : Nat) (xs : Nat → Int32) : Prop := lw_At p s m meth c b L xs ∧ va_K E.1 classes (kTy E) s ∧ (∀ w ∈ nests, va_Nw w s) ∧ ∀ w ∈ gw, w.before #[Value.ref b] s = true
def LW (E : kE) (ac am : Nat → Nat) (M M2 : nw_M) (A : Nat → Prop) (H : Heap) : Prop := va_P E.1 classes (nw_W (E.1, E.2, ac) LC M) H ∧ va_P E.1 classes (nw_W (E.1, E.2, am) LM M2) H ∧ va_D A (nw_W (E.1, E.2, ac) LC M) ∧ va_D A (nw_W (E.1, E.2, am) LM M2) ∧ ∀ i j, i < LC.length → j < LM.length → ac i ≠ am j
def LJ (E : kE) (ac am : Nat → Nat) (p : Program) (l : Launch) (e : Env) (s : State) (m : MethodId) (below : List Frame) (meth : Method) (c : Code) (b : Nat) (pc : Nat) (lv : List (Option Value)) (st : List Value) (M M2 : nw_M) : Prop :=
  ∀ (H : Heap) (locs : List Loc) (ls : Array Slot), LW E ac am M M2 (fun q => s.heap.size ≤ q) H → va_S (fun q => s.heap.size ≤ q) s.heap H locs → nl_has ls lv → lv.length = 4 → W p l e room_1 s m #[Value.ref b] below meth c H locs 162 7995 (lw_Z below #[Value.ref b] s) (F0 m pc ls st)
section LL
variable {E : kE} {ac am : Nat → Nat} {p : Program} {l : Launch} {e : Env} {s : State} {m : MethodId} {below : List Frame} {meth : Method} {c : Code} {b L : Nat} {xs : Nat → Int32} {pc : Nat} {lv : List (Option Value)} {st : List Value} {M M2 : nw_M}
theorem l_iconst (X : LCx E p s m meth c b L xs) {n : Int} (v : Int32) (hd : decode code pc = .ok (.iconst n, 1)) (hv : Int32.ofInt n = v) (kk : LJ E ac am p l e s m below meth c b (pc + 1) lv (.int v :: st) M M2) : LJ E ac am p l e s m below meth c b pc lv st M M2 :=
  fun H locs ls hW hS hl hn => lv_iconst X.1.1 X.1.2.1 hd hv (kk H locs ls hW hS hl hn)
theorem l_bipush (X : LCx E p s m meth c b L xs) {n : Int} (v : Int32) (hd : decode code pc = .ok (.bipush n, 2)) (hv : (Int8.ofInt n).toInt32 = v) (kk : LJ E ac am p l e s m below meth c b (pc + 2) lv (.int v :: st) M M2) : LJ E ac am p l e s m below meth c b pc lv st M M2 :=
  fun H locs ls hW hS hl hn => lv_bipush X.1.1 X.1.2.1 hd hv (kk H locs ls hW hS hl hn)
theorem l_iload (X : LCx E p s m meth c b L xs) {q : Fin 4} {i : Nat} {x : Int32} (hd : decode code pc = .ok (.iload_n q, 1)) (hi : (q : Nat) = i) (hx : lv[i]? = some (some (.int x))) (kk : LJ E ac am p l e s m below meth c b (pc + 1) lv (.int x :: st) M M2) : LJ E ac am p l e s m below meth c b pc lv st M M2 :=
  fun H locs ls hW hS hl hn => lv_iload_n X.1.1 X.1.2.1 hd hi (hl.2.2 i _ hx).2 (kk H locs ls hW hS hl hn)
theorem l_aload (X : LCx E p s m meth c b L xs) {q : Fin 4} {i : Nat} {x : Nat} (hd : decode code pc = .ok (.aload_n q, 1)) (hi : (q : Nat) = i) (hx : lv[i]? = some (some (.ref x))) (kk : LJ E ac am p l e s m below meth c b (pc + 1) lv (.ref x :: st) M M2) : LJ E ac am p l e s m below meth c b pc lv st M M2 :=
  fun H locs ls hW hS hl hn => lv_aload_n X.1.1 X.1.2.1 hd hi (hl.2.2 i _ hx).2 (kk H locs ls hW hS hl hn)
theorem l_iinc (X : LCx E p s m meth c b L xs) {i : Nat} {n : Int} {x y : Int32} {lv' : List (Option Value)} (hd : decode code pc = .ok (.iinc i n, 3)) (hx : lv[i]? = some (some (.int x))) (hy : x + Int32.ofInt n = y) (hi : i < 4) (hl' : lv.set i (some (.int y)) = lv') (kk : LJ E ac am p l e s m below meth c b (pc + 3) lv' st M M2) : LJ E ac am p l e s m below meth c b pc lv st M M2 := by
  intro H locs ls hW hS hl hn
  have hil : i < lv.length := by omega
  obtain ⟨j, hj⟩ := List.getElem?_of_mem (nl_mem.mpr hx)
  refine lv_iinc X.1.1 X.1.2.1 hd (nl_lv hl) hj hy hil rfl (fun ls' h' => ?_)
  subst hl'
  exact kk H locs ls' hW hS (nl_back hl hil rfl h') (by simp [hn])
theorem l_iadd (X : LCx E p s m meth c b L xs) {x y : Int32} {a d : Nat} (hd : decode code pc = .ok (.iadd, 1)) (h1 : x = nI a) (h2 : y = nI d) (kk : LJ E ac am p l e s m below meth c b (pc + 1) lv (.int (nI (a + d)) :: st) M M2) : LJ E ac am p l e s m below meth c b pc lv (.int y :: .int x :: st) M M2 :=
  fun H locs ls hW hS hl hn => lv_iadd X.1.1 X.1.2.1 hd (by rw [adE h1 h2]; exact kk H locs ls hW hS hl hn)
theorem l_isub (X : LCx E p s m meth c b L xs) {x y : Int32} (hd : decode code pc = .ok (.isub, 1)) (kk : LJ E ac am p l e s m below meth c b (pc + 1) lv (.int (x - y) :: st) M M2) : LJ E ac am p l e s m below meth c b pc lv (.int y :: .int x :: st) M M2 :=
  fun H locs ls hW hS hl hn => lv_isub X.1.1 X.1.2.1 hd (kk H locs ls hW hS hl hn)
theorem l_iand (X : LCx E p s m meth c b L xs) {x y : Int32} (hd : decode code pc = .ok (.iand, 1)) (kk : LJ E ac am p l e s m below meth c b (pc + 1) lv (.int (x &&& y) :: st) M M2) : LJ E ac am p l e s m below meth c b pc lv (.int y :: .int x :: st) M M2 :=
  fun H locs ls hW hS hl hn => lv_iand X.1.1 X.1.2.1 hd (kk H locs ls hW hS hl hn)
theorem l_goto (X : LCx E p s m meth c b L xs) {off : Int} (tgt : Nat) (hd : decode code pc = .ok (.goto off, 3)) (ht : (pc : Int) + off = (tgt : Int)) (kk : LJ E ac am p l e s m below meth c b tgt lv st M M2) : LJ E ac am p l e s m below meth c b pc lv st M M2 :=
  fun H locs ls hW hS hl hn => lv_goto X.1.1 X.1.2.1 hd ht (kk H locs ls hW hS hl hn)
theorem l_icmp_gt (X : LCx E p s m meth c b L xs) {x y : Int32} {off : Int} (tgt : Nat) (hd : decode code pc = .ok (.if_icmp .gt off, 3)) (ht : (pc : Int) + off = (tgt : Int)) (kt : y < x → LJ E ac am p l e s m below meth c b tgt lv st M M2) (kf : ¬ y < x → LJ E ac am p l e s m below meth c b (pc + 3) lv st M M2) : LJ E ac am p l e s m below meth c b pc lv (.int y :: .int x :: st) M M2 :=
  fun H locs ls hW hS hl hn => lv_icmp_gt X.1.1 X.1.2.1 hd ht (fun h => kt h H locs ls hW hS hl hn) (fun h => kf h H locs ls hW hS hl hn)
theorem l_icmp_eq (X : LCx E p s m meth c b L xs) {x : Int32} {off : Int} (tgt : Nat) (hd : decode code pc = .ok (.if_icmp .eq off, 3)) (ht : (pc : Int) + off = (tgt : Int)) (kt : LJ E ac am p l e s m below meth c b tgt lv st M M2) : LJ E ac am p l e s m below meth c b pc lv (.int x :: .int x :: st) M M2 :=
  fun H locs ls hW hS hl hn => lv_icmp_eq X.1.1 X.1.2.1 hd ht (fun _ => kt H locs ls hW hS hl hn) (fun h => absurd rfl h)
theorem l_tableIn (X : LCx E p s m meth c b L xs) {dflt lo hi : Int} {offs : Array Int} {len : Nat} {x : Int32} {off : Int} (tgt : Nat) (hd : decode code pc = .ok (.tableswitch dflt lo hi offs, len)) (h1 : ¬ x.toInt < lo) (h2 : ¬ hi < x.toInt) (ho : offs[(x.toInt - lo).toNat]? = some off) (ht : (pc : Int) + off = (tgt : Int)) (kk : LJ E ac am p l e s m below meth c b tgt lv st M M2) : LJ E ac am p l e s m below meth c b pc lv (.int x :: st) M M2 :=
  fun H locs ls hW hS hl hn => lv_tableIn X.1.1 X.1.2.1 hd h1 h2 ho ht (kk H locs ls hW hS hl hn)
theorem l_tableOut (X : LCx E p s m meth c b L xs) {dflt lo hi : Int} {offs : Array Int} {len : Nat} {x : Int32} (tgt : Nat) (hd : decode code pc = .ok (.tableswitch dflt lo hi offs, len)) (h : x.toInt < lo ∨ hi < x.toInt) (ht : (pc : Int) + dflt = (tgt : Int)) (kk : LJ E ac am p l e s m below meth c b tgt lv st M M2) : LJ E ac am p l e s m below meth c b pc lv (.int x :: st) M M2 :=
  fun H locs ls hW hS hl hn => lv_tableOut X.1.1 X.1.2.1 hd h ht (kk H locs ls hW hS hl hn)
theorem l_sld (X : LCx E p s m meth c b L xs) {q : Nat} (hL : L ≤ 3072) (hq : q < L) (hd : decode code pc = .ok (.iaload, 1)) (kk : LJ E ac am p l e s m below meth c b (pc + 1) lv (.int (xs q) :: st) M M2) : LJ E ac am p l e s m below meth c b pc lv (.int (nI q) :: .ref b :: st) M M2 := by
  intro H locs ls hW hS hl hn
  have hbl := X.1.2.2.2.2.2.2.2.1
  refine va_sld X.1.1 X.1.2.1 X.1.2.2.2.2.2.2.1 hbl (fun h => absurd hbl (Nat.not_lt.mpr h)) hS (vp_in_nI hq (by omega)) hd ?_
  rw [nI_clamp (by omega)]
  exact kk H locs ls hW hS hl hn
theorem l_slen (X : LCx E p s m meth c b L xs) (hd : decode code pc = .ok (.arraylength, 1)) (kk : LJ E ac am p l e s m below meth c b (pc + 1) lv (.int (nI L) :: st) M M2) : LJ E ac am p l e s m below meth c b pc lv (.ref b :: st) M M2 := by
  intro H locs ls hW hS hl hn
  have hbl := X.1.2.2.2.2.2.2.2.1
  exact va_slen X.1.1 X.1.2.1 X.1.2.2.2.2.2.2.1 hbl (fun h => absurd hbl (Nat.not_lt.mpr h)) hS hd (kk H locs ls hW hS hl hn)
theorem l_ret (X : LCx E p s m meth c b L xs) (hd : decode code pc = .ok (.ireturn, 1)) : LJ E ac am p l e s m below meth c b pc lv [.int 1] M M2 := by
  intro H locs ls hW hS hl hn
  refine va_forget hS.2.2 ?_
  refine W.widen (k := 600000) (n := 7302250) (Nat.le_of_ble_eq_true rfl) (Nat.le_of_ble_eq_true rfl) ?_
  exact lw_ret X.1.1 X.1.2.1 X.1.2.2.1 X.1.2.2.2.2.2.2.2.2.1 hd
theorem l_callc (X : LCx E p s m meth c b L xs) {k2 : nk_T} {n d2 idx ci : Nat} {As rest : List Value} {P2 : Option Value → nw_M → Prop} (hf : mV k2 n 9) (hl2 : Cond.methodLink R_law idx k2.1 ∈ lw_tbl) (hM : CJ (E.1, E.2, ac) LC k2 d2 (.ref (ac 0) :: As) M P2) (hd2 : d2 ≤ 110) (hn' : As.length = n) (hst : st = As.reverse ++ .ref (ac 0) :: rest) (hroom : (rest.map fun v => v.category).sum ≤ 8) (hd : decode code pc = .ok (.invokevirtual idx, 3))
    (kk : ∀ v N, P2 v N → LJ E ac am p l e s m below meth c b (pc + 3) lv (v.toList ++ rest) N M2) : LJ E ac am p l e s m below meth c b pc lv st M M2 := by
  intro H locs ls hW hS hl hn
  obtain ⟨w1, w2, w3, w4, w5⟩ := hW
  refine w_callV (G := (E.1, E.2, ac)) (own := R_law) X.1.1 X.1.2.1 X.1.2.2.2.1 X.1.2.2.2.2.1 X.2.2.2 X.2.1 X.2.2.1 hf.1 hl2 lc_0 hf.2 hM ⟨by show d2 + 1 ≤ 2048; omega, by show 40 * (d2 + 1) ≤ 84000; omega⟩ hn' hst hroom hd ⟨Nat.le_of_ble_eq_true rfl, Nat.le_of_ble_eq_true rfl⟩ (hl.1.trans hn) w1 w3 hS (fun q hq => hq) (fun v N H1 locs1 hp hP1 hD1 hk hz hS1 => ?_)
  refine kk v N hp H1 locs1 ls ⟨hP1, w2.kept (fun i y hy => ?_), hD1, w4, w5⟩ hS1 hl hn
  obtain ⟨e0, h1, rfl⟩ := nw_inv hy
  exact hk _ ((w2 i _ hy).lt) (fun i2 hi2 => (w5 i2 i hi2 (List.getElem?_eq_some_iff.mp h1).1).symm)
theorem l_callm (X : LCx E p s m meth c b L xs) {k2 : nk_T} {n d2 idx ci : Nat} {As rest : List Value} {P2 : Option Value → nw_M → Prop} (hf : mV k2 n 10) (hl2 : Cond.methodLink R_law idx k2.1 ∈ lw_tbl) (hM : CJ (E.1, E.2, am) LM k2 d2 (.ref (am 0) :: As) M2 P2) (hd2 : d2 ≤ 110) (hn' : As.length = n) (hst : st = As.reverse ++ .ref (am 0) :: rest) (hroom : (rest.map fun v => v.category).sum ≤ 8) (hd : decode code pc = .ok (.invokevirtual idx, 3))
    (kk : ∀ v N, P2 v N → LJ E ac am p l e s m below meth c b (pc + 3) lv (v.toList ++ rest) M N) : LJ E ac am p l e s m below meth c b pc lv st M M2 := by
  intro H locs ls hW hS hl hn
  obtain ⟨w1, w2, w3, w4, w5⟩ := hW
  refine w_callV (G := (E.1, E.2, am)) (own := R_law) X.1.1 X.1.2.1 X.1.2.2.2.1 X.1.2.2.2.2.1 X.2.2.2 X.2.1 X.2.2.1 hf.1 hl2 lm_0 hf.2 hM ⟨by show d2 + 1 ≤ 2048; omega, by show 40 * (d2 + 1) ≤ 84000; omega⟩ hn' hst hroom hd ⟨Nat.le_of_ble_eq_true rfl, Nat.le_of_ble_eq_true rfl⟩ (hl.1.trans hn) w2 w4 hS (fun q hq => hq) (fun v N H1 locs1 hp hP1 hD1 hk hz hS1 => ?_)
  refine kk v N hp H1 locs1 ls ⟨w1.kept (fun i y hy => ?_), hP1, w3, hD1, w5⟩ hS1 hl hn
  obtain ⟨e0, h1, rfl⟩ := nw_inv hy
  exact hk _ ((w1 i _ hy).lt) (fun i2 hi2 => w5 i i2 (List.getElem?_eq_some_iff.mp h1).1 hi2)
theorem cat_opt (v : Option Value) : (v.toList.map fun v => v.category).sum ≤ 8 := by
  cases v with
  | none => exact Nat.zero_le _
  | some x => cases x <;> exact Nat.le_of_ble_eq_true rfl
end LL
