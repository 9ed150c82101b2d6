-- making: frames of constructors over a growing list of cells
abbrev kE : Type := va_G × (ClassId × ClassId)
def kTy (E : kE) : List (ClassId × FieldType) := [(E.2.1, .int), (E.2.2, .boolean)]
def rmC (d C S : Nat) : Room := { frames := d, cells := C, slots := S, locals := 40 * d }
def kB (E : kE) (ws : va_W) (sz : Nat) (U : State) : Prop := U.heap.size = sz ∧ va_P E.1 classes ws U.heap ∧ va_K E.1 classes (kTy E) U ∧ va_D (fun _ => True) ws ∧ ∀ w ∈ nests, va_Nw w U
def kQ (E : kE) (A : Nat → Prop) (P : va_W → Prop) : Array Value → State → Outcome → State → Prop := fun _ st oc t => (∃ ws, oc = .returned none ∧ P ws ∧ va_P E.1 classes ws t.heap ∧ va_D A ws) ∧ va_F A st t
def KC (E : kE) (k : nk_T) (d C S : Nat) (av : List Value) (ws0 : va_W) (P : va_W → Prop) : Prop :=
  ∀ (l : Launch) (sz : Nat), Met l k.1 (wK k) (rmC d C S) (va_Pc av (kB E ws0 sz)) (kQ E (va_A ws0 sz) P) C S (va_A ws0 sz)
def KX (E : kE) (k : nk_T) (p : Program) (s : State) (m : MethodId) (args : Array Value) (meth : Method) (c : Code) : Prop :=
  p.tables.exec = Jvm.exec ∧ c.code = k.2.1 ∧ c.maxLocals = k.2.2.1 ∧ s.vm.findClass k.1.cls = some m.cls ∧ (∀ w ∈ gw, w.before args s = true) ∧ meth.sig.returnType = k.2.2.2 ∧ meth.locks = false ∧ va_K E.1 classes (kTy E) s ∧ meth.name = "<init>" ∧ ∀ w ∈ nests, va_Nw w s
def KJ (E : kE) (k : nk_T) (d C S : Nat) (ws0 : va_W) (P : va_W → Prop) (pc : Nat) (lv : List (Option Value)) (st : List Value) (ws : va_W) (cells slots : Nat) : Prop :=
  ∀ (p : Program) (l : Launch) (e : Env) (s : State) (m : MethodId) (args : Array Value) (below : List Frame) (meth : Method) (c : Code) (H : Heap) (locs : List Loc) (ls : Array Slot),
    KX E k p s m args meth c → lv.length = k.2.2.1 → va_P E.1 classes ws H → va_D (va_A ws0 s.heap.size) ws → va_S (va_A ws0 s.heap.size) s.heap H locs → nl_has ls lv →
    W p l e (rmC d C S) s m args below meth c H locs cells slots (MQ below (kQ E (va_A ws0 s.heap.size) P) args s C S (va_A ws0 s.heap.size)) (F0 m pc ls st)
theorem gi_gw {k2 : nk_T} (hc : Cond.code k2.1 k2.2.1 k2.2.2.1 k2.2.2.2 ∈ lw_tbl) : GoodIn gw (wK k2) := by
  intro w hw
  rcases List.mem_cons.mp hw with rfl | h
  · exact ⟨gw_of hc rfl, Or.inl rfl⟩
  · exact ⟨h, gw_good h⟩
theorem KC_of {E : kE} {k : nk_T} {d C S : Nat} {av : List Value} {ws0 : va_W} {P : va_W → Prop} (hp : plainName k.1.cls = true) (hc : av.all (fun v => v.category == 1) = true) (hn : av.length ≤ k.2.2.1) (hnm : k.1.name = "<init>")
    (h : KJ E k d C S ws0 P 0 (av.map some ++ List.replicate (k.2.2.1 - av.length) none) [] ws0 0 0) : KC E k d C S av ws0 P := by
  intro l sz
  refine Met.ofW (cc := k.2.1) (maxL := k.2.2.1) (ret := k.2.2.2) hp rfl ?_
  intro p e s m args below meth c s₁ B hml hv
  obtain ⟨rfl, hsz, hP, hK, hD0, hN⟩ := hv
  subst hsz
  have hts := atoms_spec (ws := wK k) B.pre
  have hl := lv_entry av (n := k.2.2.1) (by rw [lg_len hc]; exact hn)
  rw [lg_entry_eq]
  exact h p l e s m _ below meth c s.heap [] _ ⟨B.exec, B.bytes, hml, findClass_of_methodNamed B.named, fun w hw => hts w (List.mem_cons_of_mem _ hw), B.returns, B.notSynchronized, hK, ((name_of_methodNamed B.named B.method).1).trans hnm, hN⟩ (by simp; omega) hP hD0.self va_S.rf (nl_entry hc hl hn)
theorem nd_of : ∀ (l : List Nat), l.Nodup → va_nd l = true
  | [], _ => rfl
  | a :: l, h => by
    have h2 := List.nodup_cons.mp h
    show (decide (a ∉ l) && va_nd l) = true
    rw [nd_of l h2.2, decide_eq_true h2.1]
    rfl
theorem k_join {A0 : Nat → Prop} {D : va_G} {ws w1 : va_W} {x : Nat × va_E} {H H1 : Heap} (hP : va_P D classes (ws ++ [x]) H) (hD : va_D A0 (ws ++ [x])) (hk : ∀ q : Nat, q < H.size → ¬ va_A [x] H.size q → H1[q]? = H[q]?) (hF : ∀ q, va_A [x] H.size q → A0 q) (hP1 : va_P D classes w1 H1) (hD1 : va_D (va_A [x] H.size) w1) : va_P D classes (ws ++ w1) H1 ∧ va_D A0 (ws ++ w1) := by
  refine va_join (wc := [x]) (wr := ws) hP hD [ws.length] (List.range ws.length) (by simp) ?_ (nd_of _ List.nodup_range) (fun i hi => ?_) hk hF hP1 hD1
  · apply List.ext_getElem?
    intro i
    by_cases h : i < ws.length
    · simp [h, List.getElem?_append_left]
    · simp [h, List.getElem?_append_left]
  · have := List.mem_range.mp hi
    simp
    omega
section KK
variable {E : kE} {k : nk_T} {d C S : Nat} {ws0 : va_W} {P : va_W → Prop} {pc : Nat} {lv : List (Option Value)} {st : List Value} {ws : va_W} {cells slots : Nat}
theorem k_aload0 {x : Nat} (hd : decode k.2.1 pc = .ok (.aload_n 0, 1)) (hx : lv[0]? = some (some (.ref x))) (kk : KJ E k d C S ws0 P (pc + 1) lv (.ref x :: st) ws cells slots) : KJ E k d C S ws0 P pc lv st ws cells slots :=
  fun p l e s m args below meth c H locs ls X hn hP hD hS hl => lv_aload_n X.1 X.2.1 hd (i := 0) rfl (hl.2.2 0 _ hx).2 (kk p l e s m args below meth c H locs ls X hn hP hD hS hl)
theorem k_iload1 {x : Int32} (hd : decode k.2.1 pc = .ok (.iload_n 1, 1)) (hx : lv[1]? = some (some (.int x))) (kk : KJ E k d C S ws0 P (pc + 1) lv (.int x :: st) ws cells slots) : KJ E k d C S ws0 P pc lv st ws cells slots :=
  fun p l e s m args below meth c H locs ls X hn hP hD hS hl => lv_iload_n X.1 X.2.1 hd (i := 1) rfl (hl.2.2 1 _ hx).2 (kk p l e s m args below meth c H locs ls X hn hP hD hS hl)
theorem k_iconst {n : Int} (v : Int32) (hd : decode k.2.1 pc = .ok (.iconst n, 1)) (hv : Int32.ofInt n = v) (kk : KJ E k d C S ws0 P (pc + 1) lv (.int v :: st) ws cells slots) : KJ E k d C S ws0 P pc lv st ws cells slots :=
  fun p l e s m args below meth c H locs ls X hn hP hD hS hl => lv_iconst X.1 X.2.1 hd hv (kk p l e s m args below meth c H locs ls X hn hP hD hS hl)
theorem k_bipush {n : Int} (v : Int32) (hd : decode k.2.1 pc = .ok (.bipush n, 2)) (hv : (Int8.ofInt n).toInt32 = v) (kk : KJ E k d C S ws0 P (pc + 2) lv (.int v :: st) ws cells slots) : KJ E k d C S ws0 P pc lv st ws cells slots :=
  fun p l e s m args below meth c H locs ls X hn hP hD hS hl => lv_bipush X.1 X.2.1 hd hv (kk p l e s m args below meth c H locs ls X hn hP hD hS hl)
theorem k_sipush {n : Int} (v : Int32) (hd : decode k.2.1 pc = .ok (.sipush n, 3)) (hv : (Int16.ofInt n).toInt32 = v) (kk : KJ E k d C S ws0 P (pc + 3) lv (.int v :: st) ws cells slots) : KJ E k d C S ws0 P pc lv st ws cells slots :=
  fun p l e s m args below meth c H locs ls X hn hP hD hS hl => lv_sipush X.1 X.2.1 hd hv (kk p l e s m args below meth c H locs ls X hn hP hD hS hl)
theorem k_dup {x : Nat} (hd : decode k.2.1 pc = .ok (.dup, 1)) (kk : KJ E k d C S ws0 P (pc + 1) lv (.ref x :: .ref x :: st) ws cells slots) : KJ E k d C S ws0 P pc lv (.ref x :: st) ws cells slots :=
  fun p l e s m args below meth c H locs ls X hn hP hD hS hl => lv_dup X.1 X.2.1 hd rfl (kk p l e s m args below meth c H locs ls X hn hP hD hS hl)
theorem k_obj {x idx : Nat} (hw : Cond.methodLink k.1.cls idx Lib.objectInit ∈ lw_tbl) (hd1 : 1 ≤ d) (hd : decode k.2.1 pc = .ok (.invokespecial idx, 3)) (kk : KJ E k d C S ws0 P (pc + 3) lv [] ws cells slots) : KJ E k d C S ws0 P pc lv [.ref x] ws cells slots := by
  intro p l e s m args below meth c H locs ls X hn hP hD hS hl
  refine W.objInit X.1 X.2.1 X.2.2.2.1 (X.2.2.2.2.1 _ (gw_of hw rfl)) (X.2.2.2.2.1 _ (gw_of w_21 rfl)) (X.2.2.2.2.1 _ (gw_of w_22 rfl)) rfl (by rw [X.2.2.1]; exact hl.1.trans hn) rfl hd hd1 (by simp only [rmC]; show 2 * 0 + 0 + 12 ≤ 40 * d; omega) ?_
  exact W.eq (g2 := F0 m (pc + 3) ls []) rfl (kk p l e s m args below meth c H locs ls X hn hP hD hS hl)
theorem k_new {idx ci N : Nat} {Cn : String} {T : u_T} {fs : List Value} (hc : classes[ci]? = some (Cn, T, N)) (hw1 : Cond.classLink k.1.cls idx Cn ∈ lw_tbl) (hw2 : Cond.instantiable Cn N ∈ lw_tbl) (hw3 : Cond.initialized Cn ∈ lw_tbl) (hfs : ∀ j, j < N → defaultValue (clty ci j) = vp_V fs j) (h1 : cells + 1 ≤ C) (h2 : slots + N ≤ S) (hd : decode k.2.1 pc = .ok (.new idx, 3))
    (kk : ∀ q, KJ E k d C S ws0 P (pc + 3) lv (.ref q :: st) (ws ++ [(q, .inr (ci, fs))]) (cells + 1) (slots + N)) : KJ E k d C S ws0 P pc lv st ws cells slots := by
  intro p l e s m args below meth c H locs ls X hn hP hD hS hl
  refine va_new X.1 X.2.1 X.2.2.2.2.1 (cls_in ci _ hc) (clty ci) (cls_ty ci _ hc) X.2.2.2.1 (X.2.2.2.2.1 _ (gw_of hw1 rfl)) (X.2.2.2.2.1 _ (gw_of hw2 rfl)) (X.2.2.2.2.1 _ (gw_of hw3 rfl)) X.2.2.2.2.2.2.2.1 hP hD hS (fun q hq => Or.inr hq) hc hfs h1 h2 hd (fun q H1 hP1 hD1 hS1 => ?_)
  exact kk q p l e s m args below meth c H1 locs ls X hn hP1 hD1 hS1 hl
theorem k_newa {n : Int32} {N : Nat} (hn' : n = nI N) (hN : N < 100000) (h1 : cells + 1 ≤ C) (h2 : slots + N ≤ S) (hd : decode k.2.1 pc = .ok (.newarray .int, 2))
    (kk : ∀ q, KJ E k d C S ws0 P (pc + 2) lv (.ref q :: st) (ws ++ [(q, .inl (E.2.1, N, .inl (fun _ => 0)))]) (cells + 1) (slots + N)) : KJ E k d C S ws0 P pc lv (.int n :: st) ws cells slots := by
  intro p l e s m args below meth c H locs ls X hn hP hD hS hl
  subst hn'
  refine va_newa (atype := .int) (ty := .int) (a0 := (N, .inl (fun _ => 0))) X.1 X.2.1 (X.2.2.2.2.1 _ (gw_of w_36 rfl)) rfl X.2.2.2.2.2.2.2.1 hP hD hS (fun q hq => Or.inr hq) (fun _ => rfl) (nI_pos (by omega)) (nI_clamp (by omega)) (by show N * 4 ≤ _; omega) h1 h2 hd (fun q cA H1 hK1 hP1 hD1 hS1 => ?_)
  have e1 : s.vm.findClass ("[" ++ FieldType.int.toString) = some cA := (hK1.2 2 _ rfl).2
  have e2 : s.vm.findClass ("[" ++ FieldType.int.toString) = some E.2.1 := (X.2.2.2.2.2.2.2.1.2 0 _ rfl).2
  have e3 : cA = E.2.1 := Option.some.inj (e1.symm.trans e2)
  subst e3
  exact kk q p l e s m args below meth c H1 locs ls X hn hP1 hD1 hS1 hl
theorem k_newz {n : Int32} {N : Nat} (hn' : n = nI N) (hN : N < 100000) (h1 : cells + 1 ≤ C) (h2 : slots + N ≤ S) (hd : decode k.2.1 pc = .ok (.newarray .boolean, 2))
    (kk : ∀ q, KJ E k d C S ws0 P (pc + 2) lv (.ref q :: st) (ws ++ [(q, .inl (E.2.2, N, .inl (fun _ => 0)))]) (cells + 1) (slots + N)) : KJ E k d C S ws0 P pc lv (.int n :: st) ws cells slots := by
  intro p l e s m args below meth c H locs ls X hn hP hD hS hl
  subst hn'
  refine va_newa (atype := .boolean) (ty := .boolean) (a0 := (N, .inl (fun _ => 0))) X.1 X.2.1 (X.2.2.2.2.1 _ (gw_of w_937 rfl)) rfl X.2.2.2.2.2.2.2.1 hP hD hS (fun q hq => Or.inr hq) (fun _ => rfl) (nI_pos (by omega)) (nI_clamp (by omega)) (by show N * 1 ≤ _; omega) h1 h2 hd (fun q cA H1 hK1 hP1 hD1 hS1 => ?_)
  have e1 : s.vm.findClass ("[" ++ FieldType.boolean.toString) = some cA := (hK1.2 2 _ rfl).2
  have e2 : s.vm.findClass ("[" ++ FieldType.boolean.toString) = some E.2.2 := (X.2.2.2.2.2.2.2.1.2 1 _ rfl).2
  have e3 : cA = E.2.2 := Option.some.inj (e1.symm.trans e2)
  subst e3
  exact kk q p l e s m args below meth c H1 locs ls X hn hP1 hD1 hS1 hl
/-- a final field is set, of the object that is made -/
theorem k_putF {idx ci j h0 q : Nat} {fs : List Value} {rest : va_W} {Cn : String} {T : u_T} {N : Nat} (hc : classes[ci]? = some (Cn, T, N)) (hj : j < N) (hself : (T j).1 = Cn) (hown : Cn = k.1.cls) (hw : Cond.fieldLink k.1.cls idx Cn (T j).2.1 (T j).2.2.1 ∈ lw_tbl) (hfin : (T j).2.2.2 = true) (hnr : narrow (clty ci j) (.ref q) = .ref q) (hfit : fits (clty ci j) (.ref q) = true) (hlen : j < fs.length) (hd : decode k.2.1 pc = .ok (.putfield idx, 3))
    (kk : KJ E k d C S ws0 P (pc + 3) lv st ((h0, .inr (ci, fs.set j (.ref q))) :: rest) cells slots) : KJ E k d C S ws0 P pc lv (.ref q :: .ref h0 :: st) ((h0, .inr (ci, fs)) :: rest) cells slots := by
  intro p l e s m args below meth c H locs ls X hn hP hD hS hl
  refine va_putF (q0 := 0) X.1 X.2.1 X.2.2.2.2.1 (cls_in ci _ hc) (clty ci) (cls_ty ci _ hc) (cls_nm ci _ hc) X.2.2.2.1 X.2.2.2.2.2.2.2.1 hP hD hS rfl hc j hj (X.2.2.2.2.1 _ (gw_of hw rfl)) (fun x hx => by rw [hself] at hx; exact hx) hfin X.2.2.2.2.2.2.2.2.1 (by rw [hself, hown]) (cls_ty ci _ hc j hj) hnr hfit hlen hd (fun H1 locs1 hP1 hD1 hS1 => ?_)
  exact kk p l e s m args below meth c H1 locs1 ls X hn hP1 hD1 hS1 hl
/-- a constructor is called on the newest cell -/
theorem k_init {k2 : nk_T} {n d2 C2 S2 idx q : Nat} {As rest : List Value} {x : va_E} {P2 : va_W → Prop} (hf : mfI k2 n) (hl2 : Cond.methodLink k.1.cls idx k2.1 ∈ lw_tbl ∨ ∃ host, Cond.methodLinkNest k.1.cls idx k2.1 host ∈ lw_tbl)
    (hM : KC E k2 d2 C2 S2 (.ref q :: As) [(q, x)] P2) (hdd : d2 + 1 ≤ d) (hn' : As.length = n) (hst : st = As.reverse ++ .ref q :: rest) (hroom : (rest.map fun v => v.category).sum ≤ 8) (hC : cells + C2 ≤ C) (hS2 : slots + S2 ≤ S) (hd : decode k.2.1 pc = .ok (.invokespecial idx, 3))
    (kk : ∀ w1, P2 w1 → KJ E k d C S ws0 P (pc + 3) lv rest (ws ++ w1) (cells + C2) (slots + S2)) : KJ E k d C S ws0 P pc lv st (ws ++ [(q, x)]) cells slots := by
  intro p l e s m args below meth c H locs ls X hn hP hD hS hl
  obtain ⟨f1, f2, f3, f4, f5, f6, f7, f8⟩ := hf
  have hPc : va_P E.1 classes [(q, x)] H := hP.sub [ws.length] (by simp)
  have hDc : va_D (va_A ws0 s.heap.size) [(q, x)] := hD.sub [ws.length] rfl (by simp)
  have hFc : ∀ y, va_A [(q, x)] H.size y → va_A ws0 s.heap.size y := va_free hD hS (fun q hq => Or.inr hq) [ws.length] (by simp)
  have hblind : FrameBlind (va_Pc (.ref q :: As) (kB E [(q, x)] H.size)) := by
    intro a U g mk h
    obtain ⟨h1, h2, h3, h4, h5, h6⟩ := h
    exact ⟨h1, h2, h3, va_K.moved (u := U) (U := U.calling g mk a) (Vm.Alike.refl U.vm) h4, h5, fun w hw => nests_same (s := U) (U := U.calling g mk a) hw rfl (h6 w hw)⟩
  have hpre : ∀ U : State, U.heap = H → s.WarmedH U.vm → va_Pc (.ref q :: As) (kB E [(q, x)] H.size) (Value.ref q :: As).toArray U := fun U hU hW => ⟨rfl, by rw [hU], by rw [hU]; exact hPc, va_K.moved hW.alike X.2.2.2.2.2.2.2.1, hDc.weaken (fun _ _ _ _ => trivial), fun w hw => nests_warm hw hW (X.2.2.2.2.2.2.2.2.2 w hw)⟩
  have hrm : (rmC d2 C2 S2).frames + 1 ≤ (rmC d C S).frames ∧ 8 + (k2.2.2.1 + 11) + (rmC d2 C2 S2).locals ≤ (rmC d C S).locals := by
    simp only [rmC]
    exact ⟨hdd, by omega⟩
  have hrun : va_Run p l e (rmC d C S) s m args below meth c H locs cells slots C2 S2 (F0 m pc ls st) rest (kQ E (va_A [(q, x)] H.size) P2 (Value.ref q :: As).toArray) (va_A [(q, x)] H.size) := by
    rcases hl2 with hl2 | ⟨host, hl2⟩
    · exact va_runI (As := As) (rest := rest) (bytes := k2.2.1) (maxL := k2.2.2.1) (n := n) ⟨X.1, X.2.1, X.2.2.1, X.2.2.2.1, X.2.2.2.2.1⟩ (hM l H.size) ⟨callB_of n X.2.2.2.2.1 (gi_gw f3) (by rw [wK, f8]) rfl rfl (X.2.2.2.2.1 _ (gw_of f2 rfl)) (X.2.2.2.2.1 _ (gw_of hl2 rfl)) f4 hrm, f7, X.2.2.2.2.1 _ (gw_of f1 rfl)⟩ ⟨hblind, hpre⟩ rfl hn' (hl.1.trans hn) hst (lv_room hroom) hd ⟨hC, hS2⟩
    · exact va_runIN (As := As) (rest := rest) (bytes := k2.2.1) (maxL := k2.2.2.1) (n := n) (host := host) ⟨X.1, X.2.1, X.2.2.1, X.2.2.2.1, X.2.2.2.2.1⟩ (hM l H.size) ⟨va_cnB n X.2.2.2.2.1 (gi_gw f3) (by rw [wK, f8]) rfl rfl (X.2.2.2.2.2.2.2.2.2 _ (nests_of hl2 rfl)) (X.2.2.2.2.1 _ (gw_of f2 rfl)) f4 hrm, f7, X.2.2.2.2.1 _ (gw_of f1 rfl)⟩ ⟨hblind, hpre⟩ rfl hn' (hl.1.trans hn) hst (lv_room hroom) hd ⟨hC, hS2⟩
  intro T hT Y
  obtain ⟨v, st₀, t, T', Lc, h0, X', hL, e1, e2, ⟨⟨w1, hv, hp, hP1, hD1⟩, hz, hk⟩, stp⟩ := hrun T hT Y
  cases hv
  rw [h0] at hz hk
  obtain ⟨hPj, hDj⟩ := k_join hP hD hk hFc hP1 hD1
  obtain ⟨t2, a1, b1⟩ := kk w1 hp p l e s m args below meth c T'.heap (locs ++ Lc) ls X hn (by rw [e1]; exact hPj) hDj
    ⟨Nat.le_trans hS.1 (by rw [e1]; exact hz), fun y h1 h2 => by
      rw [e1, hk y (Nat.lt_of_lt_of_le h1 hS.1) (fun z => h2 (hFc y z))]
      exact hS.2.1 y h1 h2, fun y hy => by
      rcases List.mem_append.mp hy with h | h
      · exact hS.2.2 y h
      · exact hFc _ (hL y h)⟩ hl T' rfl X'
  exact ⟨t2, stp t2 a1, b1⟩
theorem k_ret (hr : k.2.2.2 = none) (h1 : cells ≤ C) (h2 : slots ≤ S) (hd : decode k.2.1 pc = .ok (.return_, 1)) (hp : P ws) : KJ E k d C S ws0 P pc lv [] ws cells slots := by
  intro p l e s m args below meth c H locs ls X hn hP hD hS hl
  refine W.widen (k := C) (n := S) h1 h2 ?_
  exact W.vret X.1 X.2.1 (X.2.2.2.2.2.1.trans hr) (fun t ht hW => ⟨⟨ws, rfl, hp, by rw [ht]; exact hP, hD⟩, hS.F ht⟩) hS.2.2 hd X.2.2.2.2.2.2.1
theorem k_eq {ws' : va_W} (h : ws = ws') (kk : KJ E k d C S ws0 P pc lv st ws' cells slots) : KJ E k d C S ws0 P pc lv st ws cells slots := by subst h; exact kk
theorem k_num {x y : Int32} (h : x = y) (kk : KJ E k d C S ws0 P pc lv (.int y :: st) ws cells slots) : KJ E k d C S ws0 P pc lv (.int x :: st) ws cells slots := by subst h; exact kk
theorem k_mmax {idx : Nat} {x y : Int32} (hl2 : Cond.methodLink k.1.cls idx ⟨"java/lang/Math", "max", "(II)I"⟩ ∈ lw_tbl) (hd1 : 1 ≤ d) (hroom : (st.map fun v => v.category).sum ≤ 8) (h1 : cells ≤ C) (h2 : slots ≤ S) (hd : decode k.2.1 pc = .ok (.invokestatic idx, 3)) (kk : KJ E k d C S ws0 P (pc + 3) lv (.int (if x < y then y else x) :: st) ws cells slots) : KJ E k d C S ws0 P pc lv (.int y :: .int x :: st) ws cells slots :=
  fun p l e s m args below meth c H locs ls X hn hP hD hS hl => va_mmax X.1 X.2.1 (by rw [X.2.2.1, hl.1, hn]) X.2.2.2.1 (X.2.2.2.2.1 _ (gw_of hl2 rfl)) (X.2.2.2.2.1 _ (gw_of w_30 rfl)) (X.2.2.2.2.1 _ (gw_of w_3 rfl)) (X.2.2.2.2.1 _ (gw_of w_31 rfl)) hd1 (by simp only [rmC]; omega) h1 h2 hd (kk p l e s m args below meth c H locs ls X hn hP hD hS hl)
end KK
