-- the worlds of the two systems as memories over a fixed layout; one judgement a frame, one a call; a rule an instruction
def isNest : Cond → Bool
  | .fieldLinkNest .. => true
  | .methodLinkNest .. => true
  | _ => false
def gw : List Cond := lw_tbl.filter goodWord
def nests : List Cond := lw_tbl.filter isNest
theorem gw_of {w : Cond} (h : w ∈ lw_tbl) (hg : goodWord w = true) : w ∈ gw := List.mem_filter.mpr ⟨h, hg⟩
theorem nests_of {w : Cond} (h : w ∈ lw_tbl) (hg : isNest w = true) : w ∈ nests := List.mem_filter.mpr ⟨h, hg⟩
theorem gw_good {w : Cond} (h : w ∈ gw) : (w.onTables && w.keeps) = true ∨ ∃ ty, w = .arrayClass ty := good_of_word (List.mem_filter.mp h).2
theorem nests_warm {w : Cond} {s U : State} (hw : w ∈ nests) (hW : s.WarmedH U.vm) (h : va_Nw w s) : va_Nw w U := by
  have h1 := (List.mem_filter.mp hw).2
  cases w <;> first | exact va_Nw.warmF hW h | exact va_Nw.warmM hW h | (simp [isNest] at h1)
theorem nests_same {w : Cond} {s U : State} (hw : w ∈ nests) (hv : s.vm = U.vm) (h : va_Nw w s) : va_Nw w U := by
  have h1 := (List.mem_filter.mp hw).2
  refine va_Nw.same ?_ hv h
  cases w <;> first | rfl | (simp [isNest] at h1)
theorem nests_on {w : Cond} (hw : w ∈ nests) : w.onTables = true := by
  have h1 := (List.mem_filter.mp hw).2
  cases w <;> first | rfl | (simp [isNest] at h1)
-- memories
abbrev nw_M : Type := Nat → Nat → Int32
abbrev nw_C : Type := (Nat × List (Option Nat)) ⊕ (Bool × Nat)
abbrev nw_L : Type := List nw_C
abbrev nw_G : Type := va_G × (ClassId × ClassId) × (Nat → Nat)
def nw_f (ad : Nat → Nat) (f : Nat → Int32) (j : Nat) (o : Option Nat) : Value := match o with
  | none => .int (f j)
  | some q => .ref (ad q)
def nw_E (G : nw_G) (f : Nat → Int32) (e : nw_C) : va_E := match e with
  | .inl o => .inr (o.1, o.2.mapIdx (nw_f G.2.2 f))
  | .inr a => .inl (if a.1 then G.2.1.2 else G.2.1.1, a.2, .inl f)
def nw_W (G : nw_G) (L : nw_L) (M : nw_M) : va_W := L.mapIdx (fun i e => (G.2.2 i, nw_E G (M i) e))
def ms (M : nw_M) (i : Nat) (f : Nat → Int32) : nw_M := fun j => if j = i then f else M j
theorem ms_same (M : nw_M) (i : Nat) (f : Nat → Int32) : ms M i f i = f := by simp [ms]
theorem ms_ne (M : nw_M) {i j : Nat} (f : Nat → Int32) (h : j ≠ i) : ms M i f j = M j := by simp [ms, h]
theorem ms_self (M : nw_M) (i : Nat) : ms M i (M i) = M := by funext j; by_cases h : j = i <;> simp [ms, h]
theorem ms_ms (M : nw_M) (i : Nat) (f g : Nat → Int32) : ms (ms M i f) i g = ms M i g := by funext j; by_cases h : j = i <;> simp [ms, h]
theorem nw_at {G : nw_G} {L : nw_L} {M : nw_M} {i : Nat} {e : nw_C} (h : L[i]? = some e) : (nw_W G L M)[i]? = some (G.2.2 i, nw_E G (M i) e) := by
  simp [nw_W, h]
theorem nw_inv {G : nw_G} {L : nw_L} {M : nw_M} {i : Nat} {q : Nat × va_E} (h : (nw_W G L M)[i]? = some q) : ∃ e, L[i]? = some e ∧ q = (G.2.2 i, nw_E G (M i) e) := by
  simp only [nw_W, List.getElem?_mapIdx] at h
  cases hl : L[i]? with
  | none => simp [hl] at h
  | some e => simp [hl] at h; exact ⟨e, rfl, h.symm⟩
theorem nw_set {G : nw_G} {L : nw_L} {M : nw_M} {i : Nat} {e : nw_C} {f : Nat → Int32} (h : L[i]? = some e) : (nw_W G L M).set i (G.2.2 i, nw_E G f e) = nw_W G L (ms M i f) := by
  apply List.ext_getElem?
  intro j
  have hlen : i < L.length := (List.getElem?_eq_some_iff.mp h).1
  by_cases hj : j = i
  · subst hj
    rw [List.getElem?_set_self (by simpa [nw_W] using hlen), nw_at h, ms_same]
  · rw [List.getElem?_set_ne (Ne.symm hj)]
    simp [nw_W, ms_ne _ _ hj]
theorem nw_fs {ad : Nat → Nat} {f : Nat → Int32} {fl : List (Option Nat)} {k : Nat} {x : Int32} (h : fl[k]? = some none) : (fl.mapIdx (nw_f ad f)).set k (.int x) = fl.mapIdx (nw_f ad (upd f k x)) := by
  apply List.ext_getElem?
  intro j
  have hlen : k < fl.length := (List.getElem?_eq_some_iff.mp h).1
  by_cases hj : j = k
  · subst hj
    rw [List.getElem?_set_self (by simpa using hlen)]
    simp [h, nw_f, upd]
  · rw [List.getElem?_set_ne (Ne.symm hj)]
    simp only [List.getElem?_mapIdx]
    cases fl[j]? with
    | none => rfl
    | some o => cases o <;> simp [nw_f, upd, hj]
theorem nw_D {G : nw_G} {L : nw_L} {A : Nat → Prop} {M N : nw_M} (h : va_D A (nw_W G L M)) : va_D A (nw_W G L N) := by
  have key : ∀ (i : Nat) (q : Nat × va_E), (nw_W G L N)[i]? = some q → ∃ q0, (nw_W G L M)[i]? = some q0 ∧ q0.1 = q.1 := by
    intro i q hq
    obtain ⟨e, h1, rfl⟩ := nw_inv hq
    exact ⟨_, nw_at h1, rfl⟩
  refine ⟨fun i j p q h1 h2 h3 => ?_, fun k q hk => ?_⟩
  · obtain ⟨p0, a1, a2⟩ := key i p h1
    obtain ⟨q0, b1, b2⟩ := key j q h2
    exact h.1 i j p0 q0 a1 b1 (a2.trans (h3.trans b2.symm))
  · obtain ⟨q0, b1, b2⟩ := key k q hk
    rw [← b2]
    exact h.2 k q0 b1
-- locals
def nl_has (ls : Array Slot) (lv : List (Option Value)) : Prop := ls.size = lv.length ∧ lv_wf ls ∧ ∀ (i : Nat) (v : Value), lv[i]? = some (some v) → v.category = 1 ∧ ls[i]? = some (.val v)
def nl_ps (lv : List (Option Value)) : List (Nat × Value) := (List.range lv.length).filterMap (fun i => (lv[i]?.join).map (fun v => (i, v)))
theorem nl_mem {lv : List (Option Value)} {i : Nat} {v : Value} : (i, v) ∈ nl_ps lv ↔ lv[i]? = some (some v) := by
  simp only [nl_ps, List.mem_filterMap, List.mem_range, Option.map_eq_some_iff, Prod.mk.injEq, Option.join_eq_some_iff]
  constructor
  · rintro ⟨j, hj, w, h1, rfl, rfl⟩; exact h1
  · intro h
    exact ⟨i, (List.getElem?_eq_some_iff.mp h).1, v, h, rfl, rfl⟩
theorem nl_lv {ls : Array Slot} {lv : List (Option Value)} (h : nl_has ls lv) : lv_has ls lv.length (nl_ps lv) := ⟨h.1, h.2.1, fun q hq => (h.2.2 q.1 q.2 (nl_mem.mp hq)).2⟩
theorem nl_back {ls ls' : Array Slot} {lv : List (Option Value)} {i : Nat} {v : Value} (h0 : nl_has ls lv) (hi : i < lv.length) (hc : v.category = 1) (h : lv_has ls' lv.length ((i, v) :: (nl_ps lv).filter (fun q => !(q.1 == i) && !(q.1 + 1 == i && q.2.category == 2)))) : nl_has ls' (lv.set i (some v)) := by
  refine ⟨by rw [h.1]; simp, h.2.1, fun j w hj => ?_⟩
  by_cases hji : j = i
  · subst hji
    rw [List.getElem?_set_self hi] at hj
    cases hj
    exact ⟨hc, h.2.2 _ List.mem_cons_self⟩
  · rw [List.getElem?_set_ne (Ne.symm hji)] at hj
    obtain ⟨c1, c2⟩ := h0.2.2 j w hj
    refine ⟨c1, h.2.2 (j, w) (List.mem_cons_of_mem _ (List.mem_filter.mpr ⟨nl_mem.mpr hj, ?_⟩))⟩
    simp [hji, c1]
-- contexts, contracts
def rmD (d : Nat) : Room := { frames := d, cells := 0, slots := 0, locals := 40 * d }
def wK (k : nk_T) : List Cond := Cond.code k.1 k.2.1 k.2.2.1 k.2.2.2 :: gw
def nw_T (G : nw_G) : List (ClassId × FieldType) := [(G.2.1.1, .int), (G.2.1.2, .boolean)]
def nw_A (G : nw_G) (L : nw_L) (sz : Nat) : Nat → Prop := fun q => (∃ i, i < L.length ∧ q = G.2.2 i) ∨ sz ≤ q
def nw_B (G : nw_G) (L : nw_L) (M : nw_M) (sz : Nat) (U : State) : Prop := U.heap.size = sz ∧ va_P G.1 classes (nw_W G L M) U.heap ∧ va_K G.1 classes (nw_T G) U ∧ va_D (fun _ => True) (nw_W G L M) ∧ ∀ w ∈ nests, va_Nw w U
def nw_Q (G : nw_G) (L : nw_L) (P : Option Value → nw_M → Prop) (sz : Nat) : Array Value → State → Outcome → State → Prop := fun _ st oc t => (∃ (v : Option Value) (N : nw_M), oc = .returned v ∧ P v N ∧ va_P G.1 classes (nw_W G L N) t.heap) ∧ va_F (nw_A G L sz) st t
def CJ (G : nw_G) (L : nw_L) (k : nk_T) (d : Nat) (av : List Value) (M : nw_M) (P : Option Value → nw_M → Prop) : Prop :=
  ∀ (l : Launch) (sz : Nat), Met l k.1 (wK k) (rmD d) (va_Pc av (nw_B G L M sz)) (nw_Q G L P sz) 0 0 (nw_A G L sz)
def CX (G : nw_G) (L : nw_L) (k : nk_T) (p : Program) (s : State) (m : MethodId) (args : Array Value) (meth : Method) (c : Code) : Prop :=
  p.tables.exec = Jvm.exec ∧ c.code = k.2.1 ∧ c.maxLocals = k.2.2.1 ∧ s.vm.findClass k.1.cls = some m.cls ∧ (∀ w ∈ wK k, w.before args s = true) ∧ meth.sig.returnType = k.2.2.2 ∧ meth.locks = false ∧ va_K G.1 classes (nw_T G) s ∧ (∀ M, va_D (nw_A G L s.heap.size) (nw_W G L M)) ∧ ∀ w ∈ nests, va_Nw w s
def RJ (G : nw_G) (L : nw_L) (k : nk_T) (d : Nat) (P : Option Value → nw_M → Prop) (pc : Nat) (lv : List (Option Value)) (st : List Value) (M : nw_M) : Prop :=
  ∀ (p : Program) (l : Launch) (e : Env) (s : State) (m : MethodId) (args : Array Value) (below : List Frame) (meth : Method) (c : Code) (H : Heap) (locs : List Loc) (ls : Array Slot),
    CX G L k p s m args meth c → lv.length = k.2.2.1 → va_P G.1 classes (nw_W G L M) H → va_S (nw_A G L s.heap.size) s.heap H locs → nl_has ls lv →
    W p l e (rmD d) s m args below meth c H locs 0 0 (MQ below (nw_Q G L P s.heap.size) args s 0 0 (nw_A G L s.heap.size)) (F0 m pc ls st)
theorem nl_entry {av : List Value} {n : Nat} {ls : Array Slot} (hc : av.all (fun v => v.category == 1) = true) (h : lv_has ls n (lv_args 0 av)) (hn : av.length ≤ n) : nl_has ls (av.map some ++ List.replicate (n - av.length) none) := by
  have key : ∀ (av : List Value) (o : Nat), av.all (fun v => v.category == 1) = true → ∀ (i : Nat) (v : Value), av[i]? = some v → v.category = 1 ∧ (o + i, v) ∈ lv_args o av := by
    intro av
    induction av with
    | nil => intro o _ i v h; simp at h
    | cons a av ih =>
      intro o hc i v h
      simp only [List.all_cons, Bool.and_eq_true, beq_iff_eq] at hc
      cases i with
      | zero =>
        simp at h
        subst h
        exact ⟨hc.1, by simp [lv_args]⟩
      | succ i =>
        simp at h
        obtain ⟨h1, h2⟩ := ih (o + 1) hc.2 i v h
        refine ⟨h1, ?_⟩
        simp only [lv_args]
        rw [if_neg (by rw [hc.1]; decide), show o + (i + 1) = o + 1 + i by omega]
        exact List.mem_cons_of_mem _ h2
  refine ⟨by rw [h.1]; simp; omega, h.2.1, fun i v hv => ?_⟩
  by_cases hi : i < av.length
  · rw [List.getElem?_append_left (by simpa using hi), List.getElem?_map] at hv
    cases ha : av[i]? with
    | none => simp [ha] at hv
    | some w =>
      simp [ha] at hv
      subst hv
      obtain ⟨h1, h2⟩ := key av 0 hc i w ha
      rw [Nat.zero_add] at h2
      exact ⟨h1, h.2.2 _ h2⟩
  · rw [List.getElem?_append_right (by simpa using hi)] at hv
    have := List.mem_of_getElem? hv
    simp at this
theorem lg_len {av : List Value} (hc : av.all (fun v => v.category == 1) = true) : (lg_sl av).length = av.length := by
  induction av with
  | nil => rfl
  | cons a av ih =>
    simp only [List.all_cons, Bool.and_eq_true, beq_iff_eq] at hc
    have h := ih hc.2
    simp only [lg_sl, List.flatMap_cons, List.length_append, List.length_cons] at h ⊢
    rw [if_neg (by rw [hc.1]; decide), h]
    simp
    omega
/-- a contract out of a run of its body from the first instruction -/
theorem CJ_of {G : nw_G} {L : nw_L} {k : nk_T} {d : Nat} {av : List Value} {M : nw_M} {P : Option Value → nw_M → Prop} (hp : plainName k.1.cls = true) (hc : av.all (fun v => v.category == 1) = true) (hn : av.length ≤ k.2.2.1)
    (h : RJ G L k d P 0 (av.map some ++ List.replicate (k.2.2.1 - av.length) none) [] M) : CJ G L k d av M P := by
  intro l sz
  refine Met.ofW (cc := k.2.1) (maxL := k.2.2.1) (ret := k.2.2.2) hp rfl ?_
  intro p e s m args below meth c s₁ B hml hv
  obtain ⟨rfl, hsz, hP, hK, hD0, hN⟩ := hv
  subst hsz
  have hts := atoms_spec (ws := wK k) B.pre
  have hl := lv_entry av (n := k.2.2.1) (by rw [lg_len hc]; exact hn)
  rw [lg_entry_eq]
  refine h p l e s m _ below meth c s.heap [] _ ⟨B.exec, B.bytes, hml, findClass_of_methodNamed B.named, hts, B.returns, B.notSynchronized, hK, fun N => nw_D (M := M) ⟨hD0.1, fun i q hq => ?_⟩, hN⟩ (by simp; omega) hP va_S.rf (nl_entry hc hl hn)
  obtain ⟨e, h1, rfl⟩ := nw_inv hq
  exact Or.inl ⟨i, (List.getElem?_eq_some_iff.mp h1).1, rfl⟩
section RR
variable {G : nw_G} {L : nw_L} {k : nk_T} {d : Nat} {P : Option Value → nw_M → Prop} {pc : Nat} {lv : List (Option Value)} {st : List Value} {M : nw_M}
theorem r_iconst {n : Int} (v : Int32) (hd : decode k.2.1 pc = .ok (.iconst n, 1)) (hv : Int32.ofInt n = v) (kk : RJ G L k d P (pc + 1) lv (.int v :: st) M) : RJ G L k d P pc lv st M :=
  fun p l e s m args below meth c H locs ls C hn hP hS hl => lv_iconst C.1 C.2.1 hd hv (kk p l e s m args below meth c H locs ls C hn hP hS hl)
theorem r_bipush {n : Int} (v : Int32) (hd : decode k.2.1 pc = .ok (.bipush n, 2)) (hv : (Int8.ofInt n).toInt32 = v) (kk : RJ G L k d P (pc + 2) lv (.int v :: st) M) : RJ G L k d P pc lv st M :=
  fun p l e s m args below meth c H locs ls C hn hP hS hl => lv_bipush C.1 C.2.1 hd hv (kk p l e s m args below meth c H locs ls C hn hP hS hl)
theorem r_sipush {n : Int} (v : Int32) (hd : decode k.2.1 pc = .ok (.sipush n, 3)) (hv : (Int16.ofInt n).toInt32 = v) (kk : RJ G L k d P (pc + 3) lv (.int v :: st) M) : RJ G L k d P pc lv st M :=
  fun p l e s m args below meth c H locs ls C hn hP hS hl => lv_sipush C.1 C.2.1 hd hv (kk p l e s m args below meth c H locs ls C hn hP hS hl)
theorem r_ldc {ix : Nat} {v : Int32} (hw : Cond.constant k.1.cls ix v ∈ lw_tbl) (hd : decode k.2.1 pc = .ok (.ldc ix, 2)) (kk : RJ G L k d P (pc + 2) lv (.int v :: st) M) : RJ G L k d P pc lv st M :=
  fun p l e s m args below meth c H locs ls C hn hP hS hl => lv_ldc C.1 C.2.1 C.2.2.2.1 (C.2.2.2.2.1 _ (List.mem_cons_of_mem _ (gw_of hw rfl))) hd (kk p l e s m args below meth c H locs ls C hn hP hS hl)
theorem r_iload_n {q : Fin 4} {i : Nat} {x : Int32} (hd : decode k.2.1 pc = .ok (.iload_n q, 1)) (hi : (q : Nat) = i) (hx : lv[i]? = some (some (.int x))) (kk : RJ G L k d P (pc + 1) lv (.int x :: st) M) : RJ G L k d P pc lv st M :=
  fun p l e s m args below meth c H locs ls C hn hP hS hl => lv_iload_n C.1 C.2.1 hd hi (hl.2.2 i _ hx).2 (kk p l e s m args below meth c H locs ls C hn hP hS hl)
theorem r_iload {i : Nat} {x : Int32} (hd : decode k.2.1 pc = .ok (.iload i, 2)) (hx : lv[i]? = some (some (.int x))) (kk : RJ G L k d P (pc + 2) lv (.int x :: st) M) : RJ G L k d P pc lv st M :=
  fun p l e s m args below meth c H locs ls C hn hP hS hl => lv_iload C.1 C.2.1 hd (hl.2.2 i _ hx).2 (kk p l e s m args below meth c H locs ls C hn hP hS hl)
theorem r_aload_n {q : Fin 4} {i : Nat} {x : Nat} (hd : decode k.2.1 pc = .ok (.aload_n q, 1)) (hi : (q : Nat) = i) (hx : lv[i]? = some (some (.ref x))) (kk : RJ G L k d P (pc + 1) lv (.ref x :: st) M) : RJ G L k d P pc lv st M :=
  fun p l e s m args below meth c H locs ls C hn hP hS hl => lv_aload_n C.1 C.2.1 hd hi (hl.2.2 i _ hx).2 (kk p l e s m args below meth c H locs ls C hn hP hS hl)
theorem r_aload {i : Nat} {x : Nat} (hd : decode k.2.1 pc = .ok (.aload i, 2)) (hx : lv[i]? = some (some (.ref x))) (kk : RJ G L k d P (pc + 2) lv (.ref x :: st) M) : RJ G L k d P pc lv st M :=
  fun p l e s m args below meth c H locs ls C hn hP hS hl => lv_aload C.1 C.2.1 hd (hl.2.2 i _ hx).2 (kk p l e s m args below meth c H locs ls C hn hP hS hl)
theorem r_istore_n {q : Fin 4} {i : Nat} {x : Int32} {lv' : List (Option Value)} (hd : decode k.2.1 pc = .ok (.istore_n q, 1)) (hi : (q : Nat) = i) (hil : i < k.2.2.1) (hl' : lv.set i (some (.int x)) = lv') (kk : RJ G L k d P (pc + 1) lv' st M) : RJ G L k d P pc lv (.int x :: st) M := by
  intro p l e s m args below meth c H locs ls C hn hP hS hl
  have hil' : i < lv.length := by rw [hn]; exact hil
  refine lv_istore_n C.1 C.2.1 hd hi (nl_lv hl) hil' rfl (fun ls' h' => ?_)
  subst hl'
  exact kk p l e s m args below meth c H locs ls' C (by simp [hn]) hP hS (nl_back hl hil' rfl h')
theorem r_istore {i : Nat} {x : Int32} {lv' : List (Option Value)} (hd : decode k.2.1 pc = .ok (.istore i, 2)) (hil : i < k.2.2.1) (hl' : lv.set i (some (.int x)) = lv') (kk : RJ G L k d P (pc + 2) lv' st M) : RJ G L k d P pc lv (.int x :: st) M := by
  intro p l e s m args below meth c H locs ls C hn hP hS hl
  have hil' : i < lv.length := by rw [hn]; exact hil
  refine lv_istore C.1 C.2.1 hd (nl_lv hl) hil' rfl (fun ls' h' => ?_)
  subst hl'
  exact kk p l e s m args below meth c H locs ls' C (by simp [hn]) hP hS (nl_back hl hil' rfl h')
theorem r_astore_n {q : Fin 4} {i : Nat} {x : Nat} {lv' : List (Option Value)} (hd : decode k.2.1 pc = .ok (.astore_n q, 1)) (hi : (q : Nat) = i) (hil : i < k.2.2.1) (hl' : lv.set i (some (.ref x)) = lv') (kk : RJ G L k d P (pc + 1) lv' st M) : RJ G L k d P pc lv (.ref x :: st) M := by
  intro p l e s m args below meth c H locs ls C hn hP hS hl
  have hil' : i < lv.length := by rw [hn]; exact hil
  refine lv_astore_n C.1 C.2.1 hd hi (nl_lv hl) hil' rfl (fun ls' h' => ?_)
  subst hl'
  exact kk p l e s m args below meth c H locs ls' C (by simp [hn]) hP hS (nl_back hl hil' rfl h')
theorem r_iinc {i : Nat} {n : Int} {x v : Int32} {lv' : List (Option Value)} (hd : decode k.2.1 pc = .ok (.iinc i n, 3)) (hx : lv[i]? = some (some (.int x))) (hv : x + Int32.ofInt n = v) (hil : i < k.2.2.1) (hl' : lv.set i (some (.int v)) = lv') (kk : RJ G L k d P (pc + 3) lv' st M) : RJ G L k d P pc lv st M := by
  intro p l e s m args below meth c H locs ls C hn hP hS hl
  have hil' : i < lv.length := by rw [hn]; exact hil
  obtain ⟨j, hj⟩ := List.getElem?_of_mem (nl_mem.mpr hx)
  refine lv_iinc C.1 C.2.1 hd (nl_lv hl) hj hv hil' rfl (fun ls' h' => ?_)
  subst hl'
  exact kk p l e s m args below meth c H locs ls' C (by simp [hn]) hP hS (nl_back hl hil' rfl h')
theorem r_iadd {x y : Int32} (hd : decode k.2.1 pc = .ok (.iadd, 1)) (kk : RJ G L k d P (pc + 1) lv (.int (x + y) :: st) M) : RJ G L k d P pc lv (.int y :: .int x :: st) M :=
  fun p l e s m args below meth c H locs ls C hn hP hS hl => lv_iadd C.1 C.2.1 hd (kk p l e s m args below meth c H locs ls C hn hP hS hl)
theorem r_isub {x y : Int32} (hd : decode k.2.1 pc = .ok (.isub, 1)) (kk : RJ G L k d P (pc + 1) lv (.int (x - y) :: st) M) : RJ G L k d P pc lv (.int y :: .int x :: st) M :=
  fun p l e s m args below meth c H locs ls C hn hP hS hl => lv_isub C.1 C.2.1 hd (kk p l e s m args below meth c H locs ls C hn hP hS hl)
theorem r_imul {x y : Int32} (hd : decode k.2.1 pc = .ok (.imul, 1)) (kk : RJ G L k d P (pc + 1) lv (.int (x * y) :: st) M) : RJ G L k d P pc lv (.int y :: .int x :: st) M :=
  fun p l e s m args below meth c H locs ls C hn hP hS hl => lv_imul C.1 C.2.1 hd (kk p l e s m args below meth c H locs ls C hn hP hS hl)
theorem r_iand {x y : Int32} (hd : decode k.2.1 pc = .ok (.iand, 1)) (kk : RJ G L k d P (pc + 1) lv (.int (x &&& y) :: st) M) : RJ G L k d P pc lv (.int y :: .int x :: st) M :=
  fun p l e s m args below meth c H locs ls C hn hP hS hl => lv_iand C.1 C.2.1 hd (kk p l e s m args below meth c H locs ls C hn hP hS hl)
theorem r_idiv {x y : Int32} (hd : decode k.2.1 pc = .ok (.idiv, 1)) (hne : ¬ y = 0) (kk : RJ G L k d P (pc + 1) lv (.int (x / y) :: st) M) : RJ G L k d P pc lv (.int y :: .int x :: st) M :=
  fun p l e s m args below meth c H locs ls C hn hP hS hl => lv_idiv C.1 C.2.1 hd hne (kk p l e s m args below meth c H locs ls C hn hP hS hl)
theorem r_ineg {x : Int32} (hd : decode k.2.1 pc = .ok (.ineg, 1)) (kk : RJ G L k d P (pc + 1) lv (.int (-x) :: st) M) : RJ G L k d P pc lv (.int x :: st) M :=
  fun p l e s m args below meth c H locs ls C hn hP hS hl => lv_ineg C.1 C.2.1 hd (kk p l e s m args below meth c H locs ls C hn hP hS hl)
theorem r_ishl {x y : Int32} (hd : decode k.2.1 pc = .ok (.ishl, 1)) (kk : RJ G L k d P (pc + 1) lv (.int (x <<< (y &&& 31)) :: st) M) : RJ G L k d P pc lv (.int y :: .int x :: st) M :=
  fun p l e s m args below meth c H locs ls C hn hP hS hl => lv_ishl C.1 C.2.1 hd (kk p l e s m args below meth c H locs ls C hn hP hS hl)
theorem r_ishr {x y : Int32} (hd : decode k.2.1 pc = .ok (.ishr, 1)) (kk : RJ G L k d P (pc + 1) lv (.int (x >>> (y &&& 31)) :: st) M) : RJ G L k d P pc lv (.int y :: .int x :: st) M :=
  fun p l e s m args below meth c H locs ls C hn hP hS hl => lv_ishr C.1 C.2.1 hd (kk p l e s m args below meth c H locs ls C hn hP hS hl)
theorem r_i2l {x : Int32} (hd : decode k.2.1 pc = .ok (.i2l, 1)) (kk : RJ G L k d P (pc + 1) lv (.long x.toInt64 :: st) M) : RJ G L k d P pc lv (.int x :: st) M :=
  fun p l e s m args below meth c H locs ls C hn hP hS hl => lv_i2l C.1 C.2.1 hd rfl (kk p l e s m args below meth c H locs ls C hn hP hS hl)
theorem r_l2i {x : Int64} (hd : decode k.2.1 pc = .ok (.l2i, 1)) (kk : RJ G L k d P (pc + 1) lv (.int x.toInt32 :: st) M) : RJ G L k d P pc lv (.long x :: st) M :=
  fun p l e s m args below meth c H locs ls C hn hP hS hl => lv_l2i C.1 C.2.1 hd rfl (kk p l e s m args below meth c H locs ls C hn hP hS hl)
theorem r_ladd {x y : Int64} (hd : decode k.2.1 pc = .ok (.ladd, 1)) (kk : RJ G L k d P (pc + 1) lv (.long (x + y) :: st) M) : RJ G L k d P pc lv (.long y :: .long x :: st) M :=
  fun p l e s m args below meth c H locs ls C hn hP hS hl => lv_ladd C.1 C.2.1 hd (kk p l e s m args below meth c H locs ls C hn hP hS hl)
theorem r_lcmp {x y : Int64} (hd : decode k.2.1 pc = .ok (.lcmp, 1)) (kk : RJ G L k d P (pc + 1) lv (.int (lg_cmp x y) :: st) M) : RJ G L k d P pc lv (.long y :: .long x :: st) M :=
  fun p l e s m args below meth c H locs ls C hn hP hS hl => W.lcmp C.1 C.2.1 hd (kk p l e s m args below meth c H locs ls C hn hP hS hl)
theorem r_dup {v : Value} (hd : decode k.2.1 pc = .ok (.dup, 1)) (hv : v.category = 1) (kk : RJ G L k d P (pc + 1) lv (v :: v :: st) M) : RJ G L k d P pc lv (v :: st) M :=
  fun p l e s m args below meth c H locs ls C hn hP hS hl => lv_dup C.1 C.2.1 hd hv (kk p l e s m args below meth c H locs ls C hn hP hS hl)
theorem r_dup2 {v w : Value} (hd : decode k.2.1 pc = .ok (.dup2, 1)) (hv : v.category = 1) (hw : w.category = 1) (kk : RJ G L k d P (pc + 1) lv (v :: w :: v :: w :: st) M) : RJ G L k d P pc lv (v :: w :: st) M :=
  fun p l e s m args below meth c H locs ls C hn hP hS hl => lv_dup2_11 C.1 C.2.1 hd hv hw (kk p l e s m args below meth c H locs ls C hn hP hS hl)
theorem r_goto {off : Int} (tgt : Nat) (hd : decode k.2.1 pc = .ok (.goto off, 3)) (ht : (pc : Int) + off = (tgt : Int)) (kk : RJ G L k d P tgt lv st M) : RJ G L k d P pc lv st M :=
  fun p l e s m args below meth c H locs ls C hn hP hS hl => lv_goto C.1 C.2.1 hd ht (kk p l e s m args below meth c H locs ls C hn hP hS hl)
theorem r_if_eq {x : Int32} {off : Int} (tgt : Nat) (hd : decode k.2.1 pc = .ok (.ifCond .eq off, 3)) (ht : (pc : Int) + off = (tgt : Int)) (kt : x = 0 → RJ G L k d P tgt lv st M) (kf : ¬ x = 0 → RJ G L k d P (pc + 3) lv st M) : RJ G L k d P pc lv (.int x :: st) M :=
  fun p l e s m args below meth c H locs ls C hn hP hS hl => lv_if_eq C.1 C.2.1 hd ht (fun h => kt h p l e s m args below meth c H locs ls C hn hP hS hl) (fun h => kf h p l e s m args below meth c H locs ls C hn hP hS hl)
theorem r_icmp_eq {x y : Int32} {off : Int} (tgt : Nat) (hd : decode k.2.1 pc = .ok (.if_icmp .eq off, 3)) (ht : (pc : Int) + off = (tgt : Int)) (kt : x = y → RJ G L k d P tgt lv st M) (kf : ¬ x = y → RJ G L k d P (pc + 3) lv st M) : RJ G L k d P pc lv (.int y :: .int x :: st) M :=
  fun p l e s m args below meth c H locs ls C hn hP hS hl => lv_icmp_eq C.1 C.2.1 hd ht (fun h => kt h p l e s m args below meth c H locs ls C hn hP hS hl) (fun h => kf h p l e s m args below meth c H locs ls C hn hP hS hl)
theorem r_if_ne {x : Int32} {off : Int} (tgt : Nat) (hd : decode k.2.1 pc = .ok (.ifCond .ne off, 3)) (ht : (pc : Int) + off = (tgt : Int)) (kt : ¬ x = 0 → RJ G L k d P tgt lv st M) (kf : x = 0 → RJ G L k d P (pc + 3) lv st M) : RJ G L k d P pc lv (.int x :: st) M :=
  fun p l e s m args below meth c H locs ls C hn hP hS hl => lv_if_ne C.1 C.2.1 hd ht (fun h => kt h p l e s m args below meth c H locs ls C hn hP hS hl) (fun h => kf h p l e s m args below meth c H locs ls C hn hP hS hl)
theorem r_icmp_ne {x y : Int32} {off : Int} (tgt : Nat) (hd : decode k.2.1 pc = .ok (.if_icmp .ne off, 3)) (ht : (pc : Int) + off = (tgt : Int)) (kt : ¬ x = y → RJ G L k d P tgt lv st M) (kf : x = y → RJ G L k d P (pc + 3) lv st M) : RJ G L k d P pc lv (.int y :: .int x :: st) M :=
  fun p l e s m args below meth c H locs ls C hn hP hS hl => lv_icmp_ne C.1 C.2.1 hd ht (fun h => kt h p l e s m args below meth c H locs ls C hn hP hS hl) (fun h => kf h p l e s m args below meth c H locs ls C hn hP hS hl)
theorem r_if_lt {x : Int32} {off : Int} (tgt : Nat) (hd : decode k.2.1 pc = .ok (.ifCond .lt off, 3)) (ht : (pc : Int) + off = (tgt : Int)) (kt : x < 0 → RJ G L k d P tgt lv st M) (kf : ¬ x < 0 → RJ G L k d P (pc + 3) lv st M) : RJ G L k d P pc lv (.int x :: st) M :=
  fun p l e s m args below meth c H locs ls C hn hP hS hl => lv_if_lt C.1 C.2.1 hd ht (fun h => kt h p l e s m args below meth c H locs ls C hn hP hS hl) (fun h => kf h p l e s m args below meth c H locs ls C hn hP hS hl)
theorem r_icmp_lt {x y : Int32} {off : Int} (tgt : Nat) (hd : decode k.2.1 pc = .ok (.if_icmp .lt off, 3)) (ht : (pc : Int) + off = (tgt : Int)) (kt : x < y → RJ G L k d P tgt lv st M) (kf : ¬ x < y → RJ G L k d P (pc + 3) lv st M) : RJ G L k d P pc lv (.int y :: .int x :: st) M :=
  fun p l e s m args below meth c H locs ls C hn hP hS hl => lv_icmp_lt C.1 C.2.1 hd ht (fun h => kt h p l e s m args below meth c H locs ls C hn hP hS hl) (fun h => kf h p l e s m args below meth c H locs ls C hn hP hS hl)
theorem r_if_ge {x : Int32} {off : Int} (tgt : Nat) (hd : decode k.2.1 pc = .ok (.ifCond .ge off, 3)) (ht : (pc : Int) + off = (tgt : Int)) (kt : 0 ≤ x → RJ G L k d P tgt lv st M) (kf : ¬ 0 ≤ x → RJ G L k d P (pc + 3) lv st M) : RJ G L k d P pc lv (.int x :: st) M :=
  fun p l e s m args below meth c H locs ls C hn hP hS hl => lv_if_ge C.1 C.2.1 hd ht (fun h => kt h p l e s m args below meth c H locs ls C hn hP hS hl) (fun h => kf h p l e s m args below meth c H locs ls C hn hP hS hl)
theorem r_icmp_ge {x y : Int32} {off : Int} (tgt : Nat) (hd : decode k.2.1 pc = .ok (.if_icmp .ge off, 3)) (ht : (pc : Int) + off = (tgt : Int)) (kt : y ≤ x → RJ G L k d P tgt lv st M) (kf : ¬ y ≤ x → RJ G L k d P (pc + 3) lv st M) : RJ G L k d P pc lv (.int y :: .int x :: st) M :=
  fun p l e s m args below meth c H locs ls C hn hP hS hl => lv_icmp_ge C.1 C.2.1 hd ht (fun h => kt h p l e s m args below meth c H locs ls C hn hP hS hl) (fun h => kf h p l e s m args below meth c H locs ls C hn hP hS hl)
theorem r_if_gt {x : Int32} {off : Int} (tgt : Nat) (hd : decode k.2.1 pc = .ok (.ifCond .gt off, 3)) (ht : (pc : Int) + off = (tgt : Int)) (kt : 0 < x → RJ G L k d P tgt lv st M) (kf : ¬ 0 < x → RJ G L k d P (pc + 3) lv st M) : RJ G L k d P pc lv (.int x :: st) M :=
  fun p l e s m args below meth c H locs ls C hn hP hS hl => lv_if_gt C.1 C.2.1 hd ht (fun h => kt h p l e s m args below meth c H locs ls C hn hP hS hl) (fun h => kf h p l e s m args below meth c H locs ls C hn hP hS hl)
theorem r_icmp_gt {x y : Int32} {off : Int} (tgt : Nat) (hd : decode k.2.1 pc = .ok (.if_icmp .gt off, 3)) (ht : (pc : Int) + off = (tgt : Int)) (kt : y < x → RJ G L k d P tgt lv st M) (kf : ¬ y < x → RJ G L k d P (pc + 3) lv st M) : RJ G L k d P pc lv (.int y :: .int x :: st) M :=
  fun p l e s m args below meth c H locs ls C hn hP hS hl => lv_icmp_gt C.1 C.2.1 hd ht (fun h => kt h p l e s m args below meth c H locs ls C hn hP hS hl) (fun h => kf h p l e s m args below meth c H locs ls C hn hP hS hl)
theorem r_if_le {x : Int32} {off : Int} (tgt : Nat) (hd : decode k.2.1 pc = .ok (.ifCond .le off, 3)) (ht : (pc : Int) + off = (tgt : Int)) (kt : x ≤ 0 → RJ G L k d P tgt lv st M) (kf : ¬ x ≤ 0 → RJ G L k d P (pc + 3) lv st M) : RJ G L k d P pc lv (.int x :: st) M :=
  fun p l e s m args below meth c H locs ls C hn hP hS hl => lv_if_le C.1 C.2.1 hd ht (fun h => kt h p l e s m args below meth c H locs ls C hn hP hS hl) (fun h => kf h p l e s m args below meth c H locs ls C hn hP hS hl)
theorem r_icmp_le {x y : Int32} {off : Int} (tgt : Nat) (hd : decode k.2.1 pc = .ok (.if_icmp .le off, 3)) (ht : (pc : Int) + off = (tgt : Int)) (kt : x ≤ y → RJ G L k d P tgt lv st M) (kf : ¬ x ≤ y → RJ G L k d P (pc + 3) lv st M) : RJ G L k d P pc lv (.int y :: .int x :: st) M :=
  fun p l e s m args below meth c H locs ls C hn hP hS hl => lv_icmp_le C.1 C.2.1 hd ht (fun h => kt h p l e s m args below meth c H locs ls C hn hP hS hl) (fun h => kf h p l e s m args below meth c H locs ls C hn hP hS hl)
theorem r_irem {x y : Int32} (hd : decode k.2.1 pc = .ok (.irem, 1)) (hne : ¬ y = 0) (kk : RJ G L k d P (pc + 1) lv (.int (x - x / y * y) :: st) M) : RJ G L k d P pc lv (.int y :: .int x :: st) M :=
  fun p l e s m args below meth c H locs ls C hn hP hS hl => lv_irem C.1 C.2.1 hd hne (kk p l e s m args below meth c H locs ls C hn hP hS hl)
/-- forgetting locals, other names for the same values -/
theorem r_cut {lv' : List (Option Value)} {st' : List Value} (h1 : lv'.length = lv.length) (h2 : ∀ (i : Nat) (v : Value), lv'[i]? = some (some v) → lv[i]? = some (some v)) (kk : RJ G L k d P pc lv' st M) : RJ G L k d P pc lv st M :=
  fun p l e s m args below meth c H locs ls C hn hP hS hl => kk p l e s m args below meth c H locs ls C (h1.trans hn) hP hS ⟨hl.1.trans h1.symm, hl.2.1, fun i v h => hl.2.2 i v (h2 i v h)⟩
theorem r_eq {lv' : List (Option Value)} {st' : List Value} {M' : nw_M} (h1 : lv = lv') (h2 : st = st') (h3 : M = M') (kk : RJ G L k d P pc lv' st' M') : RJ G L k d P pc lv st M := by
  subst h1; subst h2; subst h3; exact kk
theorem r_post {P' : Option Value → nw_M → Prop} (h : ∀ v N, P' v N → P v N) (kk : RJ G L k d P' pc lv st M) : RJ G L k d P pc lv st M := by
  intro p l e s m args below meth c H locs ls C hn hP hS hl T hT X
  obtain ⟨t, h1, o, h2, h3, ⟨⟨v, N, e1, e2, e3⟩, h5⟩, h6⟩ := kk p l e s m args below meth c H locs ls C hn hP hS hl T hT X
  exact ⟨t, h1, o, h2, h3, ⟨⟨v, N, e1, h v N e2, e3⟩, h5⟩, h6⟩
-- switches
theorem r_tableIn {dflt lo hi : Int} {offs : Array Int} {len : Nat} {x : Int32} {off : Int} (tgt : Nat) (hd : decode k.2.1 pc = .ok (.tableswitch dflt lo hi offs, len)) (h1 : ¬ x.toInt < lo) (h2 : ¬ hi < x.toInt) (ho : offs[(x.toInt - lo).toNat]? = some off) (ht : (pc : Int) + off = (tgt : Int)) (kk : RJ G L k d P tgt lv st M) : RJ G L k d P pc lv (.int x :: st) M :=
  fun p l e s m args below meth c H locs ls C hn hP hS hl => lv_tableIn C.1 C.2.1 hd h1 h2 ho ht (kk p l e s m args below meth c H locs ls C hn hP hS hl)
theorem r_tableOut {dflt lo hi : Int} {offs : Array Int} {len : Nat} {x : Int32} (tgt : Nat) (hd : decode k.2.1 pc = .ok (.tableswitch dflt lo hi offs, len)) (h : x.toInt < lo ∨ hi < x.toInt) (ht : (pc : Int) + dflt = (tgt : Int)) (kk : RJ G L k d P tgt lv st M) : RJ G L k d P pc lv (.int x :: st) M :=
  fun p l e s m args below meth c H locs ls C hn hP hS hl => lv_tableOut C.1 C.2.1 hd h ht (kk p l e s m args below meth c H locs ls C hn hP hS hl)
theorem r_lookup {dflt : Int} {ps : Array (Int × Int)} {len : Nat} {x : Int32} {off : Int} (tgt : Nat) (hd : decode k.2.1 pc = .ok (.lookupswitch dflt ps, len)) (hp : (ps.toList.zip (ps.toList.drop 1)).all (fun (a, next) => a.1 < next.1) = true) (ho : Op.lookupswitch.offset ps.toList dflt x.toInt = off) (ht : (pc : Int) + off = (tgt : Int)) (kk : RJ G L k d P tgt lv st M) : RJ G L k d P pc lv (.int x :: st) M :=
  fun p l e s m args below meth c H locs ls C hn hP hS hl => lv_lookup C.1 C.2.1 hd hp ho ht (kk p l e s m args below meth c H locs ls C hn hP hS hl)
-- returns
theorem nw_end {A : Nat → Prop} {s : State} {H : Heap} {locs : List Loc} {sz : Nat} {args : Array Value} (v : Option Value) (hP : va_P G.1 classes (nw_W G L M) H) (hS : va_S (nw_A G L sz) s.heap H locs) (hp : P v M) : ∀ t : State, t.heap = H → s.WarmedH t.vm → nw_Q G L P sz args s (.returned v) t :=
  fun t ht _ => ⟨⟨v, M, rfl, hp, by rw [ht]; exact hP⟩, hS.F ht⟩
theorem r_iret {v : Int32} (hr : k.2.2.2 = some .int) (hd : decode k.2.1 pc = .ok (.ireturn, 1)) (hp : P (some (.int v)) M) : RJ G L k d P pc lv [.int v] M :=
  fun p l e s m args below meth c H locs ls C hn hP hS hl => W.iret C.1 C.2.1 (C.2.2.2.2.2.1.trans hr) (nw_end (A := nw_A G L s.heap.size) _ hP hS hp) hS.2.2 hd C.2.2.2.2.2.2.1
theorem r_zret {v : Int32} (hr : k.2.2.2 = some .boolean) (hv : v = 0 ∨ v = 1) (hd : decode k.2.1 pc = .ok (.ireturn, 1)) (hp : P (some (.int v)) M) : RJ G L k d P pc lv [.int v] M :=
  fun p l e s m args below meth c H locs ls C hn hP hS hl => W.zret C.1 C.2.1 (C.2.2.2.2.2.1.trans hr) (by rcases hv with rfl | rfl <;> rfl) (nw_end (A := nw_A G L s.heap.size) _ hP hS hp) hS.2.2 hd C.2.2.2.2.2.2.1
theorem r_vret (hr : k.2.2.2 = none) (hd : decode k.2.1 pc = .ok (.return_, 1)) (hp : P none M) : RJ G L k d P pc lv [] M :=
  fun p l e s m args below meth c H locs ls C hn hP hS hl => W.vret C.1 C.2.1 (C.2.2.2.2.2.1.trans hr) (nw_end (A := nw_A G L s.heap.size) _ hP hS hp) hS.2.2 hd C.2.2.2.2.2.2.1
theorem r_aret {a : Nat} {o : String} (hr : k.2.2.2 = some (.object o)) (hd : decode k.2.1 pc = .ok (.areturn, 1)) (hp : P (some (.ref a)) M) : RJ G L k d P pc lv [.ref a] M :=
  fun p l e s m args below meth c H locs ls C hn hP hS hl => W.aret C.1 C.2.1 (C.2.2.2.2.2.1.trans hr) (Or.inl ⟨_, rfl⟩) (Or.inr ⟨_, rfl⟩) (nw_end (A := nw_A G L s.heap.size) _ hP hS hp) hS.2.2 hd C.2.2.2.2.2.2.1
end RR
-- fields
theorem cls_in : ∀ (ci : Nat) (q : vw_C), classes[ci]? = some q → ∀ w ∈ u_ws q.1 q.2.1 q.2.2, w ∈ gw := by
  have h : ∀ q ∈ classes, ∀ w ∈ u_ws q.1 q.2.1 q.2.2, w ∈ lw_tbl ∧ goodWord w = true := by decide +kernel
  intro ci q hq w hw
  obtain ⟨h1, h2⟩ := h q (List.mem_of_getElem? hq) w hw
  exact gw_of h1 h2
theorem cls_ty : ∀ (ci : Nat) (q : vw_C), classes[ci]? = some q → ∀ j, j < q.2.2 → parseFieldDescriptor (q.2.1 j).2.2.1 = some (clty ci j) := by
  intro ci q hq
  match ci, hq with
  | 0, hq => cases hq; exact t_Row_ok
  | 1, hq => cases hq; exact t_Tree_ok
  | 2, hq => cases hq; exact t_Image_ok
  | 3, hq => cases hq; exact t_Reader_ok
  | 4, hq => cases hq; exact t_Acts_ok
  | 5, hq => cases hq; exact t_Costs_ok
  | 6, hq => cases hq; exact t_Program_ok
  | 7, hq => cases hq; exact t_Device_ok
  | 8, hq => cases hq; exact t_Shares_ok
  | 9, hq => cases hq; exact t_Need_ok
  | 10, hq => cases hq; exact t_Model_ok
  | n + 11, hq => simp [classes] at hq
theorem cls_nm : ∀ (ci : Nat) (q : vw_C), classes[ci]? = some q → ∀ a, a < q.2.2 → ∀ b, b < q.2.2 → a ≠ b → (q.2.1 a).2.1 ≠ (q.2.1 b).2.1 := by
  intro ci q hq
  match ci, hq with
  | 0, hq => cases hq; exact n_Row
  | 1, hq => cases hq; exact n_Tree
  | 2, hq => cases hq; exact n_Image
  | 3, hq => cases hq; exact n_Reader
  | 4, hq => cases hq; exact n_Acts
  | 5, hq => cases hq; exact n_Costs
  | 6, hq => cases hq; exact n_Program
  | 7, hq => cases hq; exact n_Device
  | 8, hq => cases hq; exact n_Shares
  | 9, hq => cases hq; exact n_Need
  | 10, hq => cases hq; exact n_Model
  | n + 11, hq => simp [classes] at hq
/-- the field at a constant: class ci, place j -/
def nf_ok (own : String) (idx ci j : Nat) : Prop := ∃ q : vw_C, classes[ci]? = some q ∧ j < q.2.2 ∧ (q.2.1 j).1 = q.1 ∧ (Cond.fieldLink own idx q.1 (q.2.1 j).2.1 (q.2.1 j).2.2.1 ∈ lw_tbl ∨ ∃ host, Cond.fieldLinkNest own idx q.1 (q.2.1 j).2.1 (q.2.1 j).2.2.1 host ∈ lw_tbl)
section RF
variable {G : nw_G} {L : nw_L} {k : nk_T} {d : Nat} {P : Option Value → nw_M → Prop} {pc : Nat} {lv : List (Option Value)} {st : List Value} {M : nw_M}
theorem CX.gw {p : Program} {s : State} {m : MethodId} {args : Array Value} {meth : Method} {c : Code} (C : CX G L k p s m args meth c) : ∀ w ∈ gw, w.before args s = true := fun w h => C.2.2.2.2.1 w (List.mem_cons_of_mem _ h)
theorem CX.nest {p : Program} {s : State} {m : MethodId} {args : Array Value} {meth : Method} {c : Code} (C : CX G L k p s m args meth c) {w : Cond} (h : w ∈ lw_tbl) (hw : isNest w = true) : w.before args s = true :=
  va_Nw.use (nests_on (nests_of h hw)) (C.2.2.2.2.2.2.2.2.2 w (nests_of h hw))
theorem r_getv {idx ci j i : Nat} {fl : List (Option Nat)} {o : Option Nat} (hf : nf_ok k.1.cls idx ci j) (hL : L[i]? = some (.inl (ci, fl))) (hj : fl[j]? = some o) (hd : decode k.2.1 pc = .ok (.getfield idx, 3)) (kk : RJ G L k d P (pc + 3) lv (nw_f G.2.2 (M i) j o :: st) M) : RJ G L k d P pc lv (.ref (G.2.2 i) :: st) M := by
  intro p l e s m args below meth c H locs ls C hn hP hS hl
  obtain ⟨q, h1, h2, h3, h4⟩ := hf
  have hv : (fl.mapIdx (nw_f G.2.2 (M i)))[j]? = some (nw_f G.2.2 (M i) j o) := by simp [hj]
  have K := kk p l e s m args below meth c H locs ls C hn hP hS hl
  rcases h4 with h4 | ⟨host, h4⟩
  · exact va_get C.1 C.2.1 C.gw (cls_in ci q h1) C.2.2.2.1 C.2.2.2.2.2.2.2.1 hP i (nw_at hL) h1 j h2 (C.gw _ (gw_of h4 rfl)) (fun x hx => by rw [h3] at hx; exact hx) hv hd K
  · exact va_getN C.1 C.2.1 C.gw (cls_in ci q h1) C.2.2.2.1 C.2.2.2.2.2.2.2.1 hP i (nw_at hL) h1 j h2 (C.nest h4 rfl) (fun x hx => by rw [h3] at hx; exact hx) hv hd K
theorem r_geti {idx ci j i : Nat} {fl : List (Option Nat)} (hf : nf_ok k.1.cls idx ci j) (hL : L[i]? = some (.inl (ci, fl))) (hj : fl[j]? = some none) (hd : decode k.2.1 pc = .ok (.getfield idx, 3)) (kk : RJ G L k d P (pc + 3) lv (.int (M i j) :: st) M) : RJ G L k d P pc lv (.ref (G.2.2 i) :: st) M := r_getv hf hL hj hd kk
theorem r_getr {idx ci j i q : Nat} {fl : List (Option Nat)} (hf : nf_ok k.1.cls idx ci j) (hL : L[i]? = some (.inl (ci, fl))) (hj : fl[j]? = some (some q)) (hd : decode k.2.1 pc = .ok (.getfield idx, 3)) (kk : RJ G L k d P (pc + 3) lv (.ref (G.2.2 q) :: st) M) : RJ G L k d P pc lv (.ref (G.2.2 i) :: st) M := r_getv hf hL hj hd kk
theorem r_putx {idx ci j i : Nat} {fl : List (Option Nat)} {x : Int32} (ty : FieldType) (hf : nf_ok k.1.cls idx ci j) (hfin : ∀ q, classes[ci]? = some q → (q.2.1 j).2.2.2 = false) (ht : clty ci j = ty) (hn' : narrow ty (.int x) = .int x) (hfit : fits ty (.int x) = true) (hL : L[i]? = some (.inl (ci, fl))) (hj : fl[j]? = some none) (hd : decode k.2.1 pc = .ok (.putfield idx, 3)) (kk : RJ G L k d P (pc + 3) lv st (ms M i (upd (M i) j x))) : RJ G L k d P pc lv (.int x :: .ref (G.2.2 i) :: st) M := by
  intro p l e s m args below meth c H locs ls C hn hP hS hl
  obtain ⟨q, h1, h2, h3, h4⟩ := hf
  have hlen : j < (fl.mapIdx (nw_f G.2.2 (M i))).length := by simp; exact (List.getElem?_eq_some_iff.mp hj).1
  have hD := C.2.2.2.2.2.2.2.2.1 M
  have hd0 := cls_ty ci q h1 j h2
  rw [ht] at hd0
  have K : ∀ (H1 : Heap) (locs1 : List Loc), va_P G.1 classes ((nw_W G L M).set i (G.2.2 i, .inr (ci, (fl.mapIdx (nw_f G.2.2 (M i))).set j (.int x)))) H1 → va_D (nw_A G L s.heap.size) ((nw_W G L M).set i (G.2.2 i, .inr (ci, (fl.mapIdx (nw_f G.2.2 (M i))).set j (.int x)))) → va_S (nw_A G L s.heap.size) s.heap H1 locs1 → W p l e (rmD d) s m args below meth c H1 locs1 0 0 (MQ below (nw_Q G L P s.heap.size) args s 0 0 (nw_A G L s.heap.size)) (F0 m (pc + 3) ls st) := by
    intro H1 locs1 hP1 _ hS1
    rw [nw_fs hj] at hP1
    exact kk p l e s m args below meth c H1 locs1 ls C hn (by rw [← nw_set hL]; exact hP1) hS1 hl
  rcases h4 with h4 | ⟨host, h4⟩
  · exact va_put C.1 C.2.1 C.gw (cls_in ci q h1) (clty ci) (cls_ty ci q h1) (cls_nm ci q h1) C.2.2.2.1 C.2.2.2.2.2.2.2.1 hP hD hS i (nw_at hL) h1 j h2 (C.gw _ (gw_of h4 rfl)) (fun x hx => by rw [h3] at hx; exact hx) (hfin q h1) hd0 hn' hfit hlen hd K
  · exact va_putN C.1 C.2.1 C.gw (cls_in ci q h1) (clty ci) (cls_ty ci q h1) (cls_nm ci q h1) C.2.2.2.1 C.2.2.2.2.2.2.2.1 hP hD hS i (nw_at hL) h1 j h2 (C.nest h4 rfl) (fun x hx => by rw [h3] at hx; exact hx) (hfin q h1) hd0 hn' hfit hlen hd K
/-- a field that is no final one, of this kind -/
def nf_fin (ci j : Nat) (ty : FieldType) : Prop := (∀ q, classes[ci]? = some q → (q.2.1 j).2.2.2 = false) ∧ clty ci j = ty
theorem r_puti {idx ci j i : Nat} {fl : List (Option Nat)} {x : Int32} (hf : nf_ok k.1.cls idx ci j) (hfin : nf_fin ci j .int) (hL : L[i]? = some (.inl (ci, fl))) (hj : fl[j]? = some none) (hd : decode k.2.1 pc = .ok (.putfield idx, 3)) (kk : RJ G L k d P (pc + 3) lv st (ms M i (upd (M i) j x))) : RJ G L k d P pc lv (.int x :: .ref (G.2.2 i) :: st) M :=
  r_putx .int hf hfin.1 hfin.2 rfl rfl hL hj hd kk
theorem r_putz {idx ci j i : Nat} {fl : List (Option Nat)} {x : Int32} (hf : nf_ok k.1.cls idx ci j) (hfin : nf_fin ci j .boolean) (hx : x = 0 ∨ x = 1) (hL : L[i]? = some (.inl (ci, fl))) (hj : fl[j]? = some none) (hd : decode k.2.1 pc = .ok (.putfield idx, 3)) (kk : RJ G L k d P (pc + 3) lv st (ms M i (upd (M i) j x))) : RJ G L k d P pc lv (.int x :: .ref (G.2.2 i) :: st) M :=
  r_putx .boolean hf hfin.1 hfin.2 (by rcases hx with rfl | rfl <;> rfl) (by rcases hx with rfl | rfl <;> rfl) hL hj hd kk
-- arrays
theorem r_iald {i n : Nat} {ix : Int32} (hL : L[i]? = some (.inr (false, n))) (hin : vp_in ix n) (hd : decode k.2.1 pc = .ok (.iaload, 1)) (kk : RJ G L k d P (pc + 1) lv (.int (M i ix.toNatClampNeg) :: st) M) : RJ G L k d P pc lv (.int ix :: .ref (G.2.2 i) :: st) M :=
  fun p l e s m args below meth c H locs ls C hn hP hS hl => va_iald C.1 C.2.1 C.2.2.2.2.2.2.2.1 hP i 0 (nw_at hL) rfl hin hd (kk p l e s m args below meth c H locs ls C hn hP hS hl)
theorem r_zald {i n : Nat} {ix : Int32} (hL : L[i]? = some (.inr (true, n))) (hin : vp_in ix n) (hd : decode k.2.1 pc = .ok (.baload, 1)) (kk : RJ G L k d P (pc + 1) lv (.int (M i ix.toNatClampNeg) :: st) M) : RJ G L k d P pc lv (.int ix :: .ref (G.2.2 i) :: st) M :=
  fun p l e s m args below meth c H locs ls C hn hP hS hl => va_zald C.1 C.2.1 C.2.2.2.2.2.2.2.1 hP i 1 (nw_at hL) rfl hin hd (kk p l e s m args below meth c H locs ls C hn hP hS hl)
theorem r_iast {i n : Nat} {ix x : Int32} (hL : L[i]? = some (.inr (false, n))) (hin : vp_in ix n) (hd : decode k.2.1 pc = .ok (.iastore, 1)) (kk : RJ G L k d P (pc + 1) lv st (ms M i (upd (M i) ix.toNatClampNeg x))) : RJ G L k d P pc lv (.int x :: .int ix :: .ref (G.2.2 i) :: st) M :=
  fun p l e s m args below meth c H locs ls C hn hP hS hl => va_iast C.1 C.2.1 C.2.2.2.2.2.2.2.1 hP (C.2.2.2.2.2.2.2.2.1 M) hS i 0 (nw_at hL) rfl hin hd (fun H1 locs1 hP1 _ hS1 => kk p l e s m args below meth c H1 locs1 ls C hn (by rw [← nw_set hL]; exact hP1) hS1 hl)
theorem r_zast {i n : Nat} {ix x : Int32} (hL : L[i]? = some (.inr (true, n))) (hin : vp_in ix n) (hx : x = 0 ∨ x = 1) (hd : decode k.2.1 pc = .ok (.bastore, 1)) (kk : RJ G L k d P (pc + 1) lv st (ms M i (upd (M i) ix.toNatClampNeg x))) : RJ G L k d P pc lv (.int x :: .int ix :: .ref (G.2.2 i) :: st) M :=
  fun p l e s m args below meth c H locs ls C hn hP hS hl => va_zast C.1 C.2.1 C.2.2.2.2.2.2.2.1 hP (C.2.2.2.2.2.2.2.2.1 M) hS i 1 (nw_at hL) rfl hin hd (fun H1 locs1 hP1 _ hS1 => kk p l e s m args below meth c H1 locs1 ls C hn (by
    rw [← nw_set hL]
    have e : vp_nar .boolean x = x := by rcases hx with rfl | rfl <;> rfl
    rw [e] at hP1
    exact hP1) hS1 hl)
theorem r_alen {i n : Nat} {b : Bool} (hL : L[i]? = some (.inr (b, n))) (hd : decode k.2.1 pc = .ok (.arraylength, 1)) (kk : RJ G L k d P (pc + 1) lv (.int (nI n) :: st) M) : RJ G L k d P pc lv (.ref (G.2.2 i) :: st) M := by
  intro p l e s m args below meth c H locs ls C hn hP hS hl
  cases b with
  | false => exact va_alen C.1 C.2.1 C.2.2.2.2.2.2.2.1 hP i 0 (nw_at hL) (ty := .int) rfl rfl hd (kk p l e s m args below meth c H locs ls C hn hP hS hl)
  | true => exact va_alen C.1 C.2.1 C.2.2.2.2.2.2.2.1 hP i 1 (nw_at hL) (ty := .boolean) rfl rfl hd (kk p l e s m args below meth c H locs ls C hn hP hS hl)
end RF
