-- making: layouts that are put behind each other
def shE (b : Nat) (e : nw_C) : nw_C := match e with
  | .inl o => .inl (o.1, o.2.map (Option.map (fun q => q + b)))
  | .inr a => .inr a
def glb {α : Type} (b : Nat) (f g : Nat → α) : Nat → α := fun i => if i < b then f i else g (i - b)
def cloE (n : Nat) (e : nw_C) : Bool := match e with
  | .inl o => o.2.all (fun x => match x with
    | none => true
    | some q => decide (q < n))
  | .inr _ => true
def z0 : nw_M := fun _ _ => 0
def PS (E : kE) (L : nw_L) (M0 : nw_M) (h0 : Nat) (ws : va_W) : Prop := ∃ ad : Nat → Nat, ad 0 = h0 ∧ ws = nw_W (E.1, E.2, ad) L M0
theorem glb_lo {α : Type} {b i : Nat} {f g : Nat → α} (h : i < b) : glb b f g i = f i := by unfold glb; rw [if_pos h]
theorem glb_hi {α : Type} {b i : Nat} {f g : Nat → α} (h : b ≤ i) : glb b f g i = g (i - b) := by unfold glb; rw [if_neg (by omega)]
theorem glb_z (b : Nat) : glb b z0 z0 = z0 := by funext i; unfold glb; split <;> rfl
theorem nwE_lo {E : kE} {b : Nat} {adA adB : Nat → Nat} {f : Nat → Int32} {e : nw_C} (h : cloE b e = true) : nw_E (E.1, E.2, glb b adA adB) f e = nw_E (E.1, E.2, adA) f e := by
  cases e with
  | inr a => rfl
  | inl o =>
    simp only [nw_E, Sum.inr.injEq, Prod.mk.injEq, true_and]
    apply List.ext_getElem?
    intro j
    simp only [List.getElem?_mapIdx]
    cases hj : o.2[j]? with
    | none => rfl
    | some x =>
      cases x with
      | none => rfl
      | some q =>
        have hq : q < b := by
          have := List.all_eq_true.mp h (some q) (List.mem_of_getElem? hj)
          exact of_decide_eq_true this
        simp only [Option.map_some, nw_f, glb_lo hq]
theorem nwE_hi {E : kE} {b : Nat} {adA adB : Nat → Nat} {f : Nat → Int32} {e : nw_C} : nw_E (E.1, E.2, glb b adA adB) f (shE b e) = nw_E (E.1, E.2, adB) f e := by
  cases e with
  | inr a => rfl
  | inl o =>
    simp only [nw_E, shE, Sum.inr.injEq, Prod.mk.injEq, true_and]
    apply List.ext_getElem?
    intro j
    simp only [List.getElem?_mapIdx, List.getElem?_map]
    cases hj : o.2[j]? with
    | none => rfl
    | some x =>
      cases x with
      | none => rfl
      | some q => simp only [Option.map_some, nw_f, glb_hi (Nat.le_add_left b q), Nat.add_sub_cancel]
theorem nwW_get {G : nw_G} {L : nw_L} {M : nw_M} {i : Nat} : (nw_W G L M)[i]? = (L[i]?).map (fun e => (G.2.2 i, nw_E G (M i) e)) := by
  simp only [nw_W, List.getElem?_mapIdx]
theorem nwW_len {G : nw_G} {L : nw_L} {M : nw_M} : (nw_W G L M).length = L.length := by simp [nw_W]
theorem nw_app {E : kE} {A B : nw_L} {adA adB : Nat → Nat} {MA MB : nw_M} (h : A.all (cloE A.length) = true) : nw_W (E.1, E.2, adA) A MA ++ nw_W (E.1, E.2, adB) B MB = nw_W (E.1, E.2, glb A.length adA adB) (A ++ B.map (shE A.length)) (glb A.length MA MB) := by
  apply List.ext_getElem?
  intro i
  by_cases hi : i < A.length
  · rw [List.getElem?_append_left (by rw [nwW_len]; exact hi), nwW_get, nwW_get, List.getElem?_append_left hi]
    cases he : A[i]? with
    | none => rfl
    | some e =>
      simp only [Option.map_some, glb_lo hi]
      rw [nwE_lo (List.all_eq_true.mp h e (List.mem_of_getElem? he))]
  · rw [List.getElem?_append_right (by rw [nwW_len]; omega), nwW_len, nwW_get, nwW_get, List.getElem?_append_right (by omega), List.getElem?_map]
    cases he : B[i - A.length]? with
    | none => rfl
    | some e => simp only [Option.map_some, glb_hi (show A.length ≤ i by omega), nwE_hi]
/-- an object and what it holds -/
theorem nw_obj {E : kE} {ci h0 : Nat} {fs : List Value} {fl : List (Option Nat)} {L LR : nw_L} {adR : Nat → Nat} {f0 : Nat → Int32} {MR : nw_M} (hL : L = .inl (ci, fl) :: LR.map (shE 1)) (hfs : fs = fl.mapIdx (nw_f (glb 1 (fun _ => h0) adR) f0)) : ((h0, .inr (ci, fs)) :: nw_W (E.1, E.2, adR) LR MR : va_W) = nw_W (E.1, E.2, glb 1 (fun _ => h0) adR) L (glb 1 (fun _ => f0) MR) := by
  subst hL
  subst hfs
  apply List.ext_getElem?
  intro i
  cases i with
  | zero => rw [nwW_get]; rfl
  | succ i =>
    rw [List.getElem?_cons_succ, nwW_get, nwW_get, List.getElem?_cons_succ, List.getElem?_map]
    cases he : LR[i]? with
    | none => rfl
    | some e => simp only [Option.map_some, glb_hi (show 1 ≤ i + 1 by omega), Nat.add_sub_cancel, nwE_hi]
section KF2
variable {E : kE} {k : nk_T} {d C S : Nat} {ws0 : va_W} {P : va_W → Prop} {pc : Nat} {lv : List (Option Value)} {st : List Value} {ws : va_W} {cells slots : Nat}
/-- what is held is made, and put into its field -/
theorem k_field {k2 : nk_T} {n d2 C2 S2 idx idx2 q h0 ci j N : Nat} {As : List Value} {x : va_E} {L2 LR LR2 : nw_L} {M2 MR : nw_M} {adR : Nat → Nat} {fs : List Value} {Cn : String} {T : u_T} {nb : Nat} (hnb : LR.length = nb) (hf : mfI k2 n) (hl2 : Cond.methodLink k.1.cls idx k2.1 ∈ lw_tbl ∨ ∃ host, Cond.methodLinkNest k.1.cls idx k2.1 host ∈ lw_tbl)
    (hM : KC E k2 d2 C2 S2 (.ref q :: As) [(q, x)] (PS E L2 M2 q)) (hdd : d2 + 1 ≤ d) (hn' : As.length = n) (hst : st = As.reverse ++ [.ref q, .ref q, .ref h0]) (hC : cells + C2 ≤ C) (hS2 : slots + S2 ≤ S) (hd : decode k.2.1 pc = .ok (.invokespecial idx, 3))
    (hc : classes[ci]? = some (Cn, T, N)) (hj : j < N) (hself : (T j).1 = Cn) (hown : Cn = k.1.cls) (hw : Cond.fieldLink k.1.cls idx2 Cn (T j).2.1 (T j).2.2.1 ∈ lw_tbl) (hfin : (T j).2.2.2 = true) (hty : ∃ o, clty ci j = .object o) (hlen : j < fs.length) (hd2 : decode k.2.1 (pc + 3) = .ok (.putfield idx2, 3))
    (hclo : LR.all (cloE nb) = true) (hLR : LR2 = LR ++ L2.map (shE nb))
    (kk : ∀ ad : Nat → Nat, KJ E k d C S ws0 P (pc + 6) lv [] ((h0, .inr (ci, fs.set j (.ref (ad 0)))) :: nw_W (E.1, E.2, glb nb adR ad) LR2 (glb nb MR M2)) (cells + C2) (slots + S2)) :
    KJ E k d C S ws0 P pc lv st (((h0, .inr (ci, fs)) :: nw_W (E.1, E.2, adR) LR MR) ++ [(q, x)]) cells slots := by
  refine k_init hf hl2 hM hdd hn' hst (Nat.le_of_ble_eq_true rfl) hC hS2 hd (fun w1 hw1 => ?_)
  obtain ⟨ad, rfl, rfl⟩ := hw1
  obtain ⟨o, hty⟩ := hty
  refine k_eq (List.cons_append) ?_
  refine k_putF hc hj hself hown hw hfin (by rw [hty]; rfl) (by rw [hty]; rfl) hlen hd2 ?_
  subst hLR
  subst hnb
  rw [nw_app hclo]
  exact kk ad
theorem k_arr {b : Bool} {n : Nat} {q h0 ci j N idx2 : Nat} {LR LR2 : nw_L} {MR : nw_M} {adR : Nat → Nat} {fs : List Value} {Cn : String} {T : u_T} {rest : List Value} {nb : Nat} (hnb : LR.length = nb) (hc : classes[ci]? = some (Cn, T, N)) (hj : j < N) (hself : (T j).1 = Cn) (hown : Cn = k.1.cls) (hw : Cond.fieldLink k.1.cls idx2 Cn (T j).2.1 (T j).2.2.1 ∈ lw_tbl) (hfin : (T j).2.2.2 = true) (hty : ∃ o, clty ci j = .array o) (hlen : j < fs.length) (hd2 : decode k.2.1 pc = .ok (.putfield idx2, 3))
    (hclo : LR.all (cloE nb) = true) (hLR : LR2 = LR ++ [.inr (b, n)])
    (kk : KJ E k d C S ws0 P (pc + 3) lv rest ((h0, .inr (ci, fs.set j (.ref q))) :: nw_W (E.1, E.2, glb nb adR (fun _ => q)) LR2 (glb nb MR z0)) cells slots) :
    KJ E k d C S ws0 P pc lv (.ref q :: .ref h0 :: rest) (((h0, .inr (ci, fs)) :: nw_W (E.1, E.2, adR) LR MR) ++ [(q, .inl (if b then E.2.2 else E.2.1, n, .inl (fun _ => 0)))]) cells slots := by
  obtain ⟨o, hty⟩ := hty
  refine k_eq (List.cons_append) ?_
  refine k_putF hc hj hself hown hw hfin (by rw [hty]; rfl) (by rw [hty]; rfl) hlen hd2 ?_
  have e : ([(q, .inl (if b then E.2.2 else E.2.1, n, .inl (fun _ => 0)))] : va_W) = nw_W (E.1, E.2, fun _ => q) [.inr (b, n)] z0 := rfl
  subst hLR
  subst hnb
  rw [e, nw_app hclo]
  exact kk
theorem k_puti {idx ci j h0 : Nat} {v : Int32} {fs : List Value} {rest : va_W} {Cn : String} {T : u_T} {N : Nat} (hc : classes[ci]? = some (Cn, T, N)) (hj : j < N) (hself : (T j).1 = Cn) (hw : Cond.fieldLink k.1.cls idx Cn (T j).2.1 (T j).2.2.1 ∈ lw_tbl) (hfin : (T j).2.2.2 = false) (hty : clty ci j = .int) (hlen : j < fs.length) (hd : decode k.2.1 pc = .ok (.putfield idx, 3))
    (kk : KJ E k d C S ws0 P (pc + 3) lv st ((h0, .inr (ci, fs.set j (.int v))) :: rest) cells slots) : KJ E k d C S ws0 P pc lv (.int v :: .ref h0 :: st) ((h0, .inr (ci, fs)) :: rest) cells slots := by
  intro p l e s m args below meth c H locs ls X hn hP hD hS hl
  have hd0 := cls_ty ci _ hc j hj
  rw [hty] at hd0
  refine va_put (q0 := 0) X.1 X.2.1 X.2.2.2.2.1 (cls_in ci _ hc) (clty ci) (cls_ty ci _ hc) (cls_nm ci _ hc) X.2.2.2.1 X.2.2.2.2.2.2.2.1 hP hD hS rfl hc j hj (X.2.2.2.2.1 _ (gw_of hw rfl)) (fun x hx => by rw [hself] at hx; exact hx) hfin hd0 rfl rfl hlen hd (fun H1 locs1 hP1 hD1 hS1 => ?_)
  exact kk p l e s m args below meth c H1 locs1 ls X hn hP1 hD1 hS1 hl
theorem k_getr {ad : Nat → Nat} {L : nw_L} {M : nw_M} {idx ci j i q : Nat} {fl : List (Option Nat)} (hf : nf_ok k.1.cls idx ci j) (hL : L[i]? = some (.inl (ci, fl))) (hj : fl[j]? = some (some q)) (hd : decode k.2.1 pc = .ok (.getfield idx, 3)) (kk : KJ E k d C S ws0 P (pc + 3) lv (.ref (ad q) :: st) (nw_W (E.1, E.2, ad) L M) cells slots) : KJ E k d C S ws0 P pc lv (.ref (ad i) :: st) (nw_W (E.1, E.2, ad) L M) cells slots := by
  intro p l e s m args below meth c H locs ls X hn hP hD hS hl
  obtain ⟨y, h1, h2, h3, h4⟩ := hf
  have hv : (fl.mapIdx (nw_f ad (M i)))[j]? = some (.ref (ad q)) := by simp [hj, nw_f]
  have K := kk p l e s m args below meth c H locs ls X hn hP hD hS hl
  rcases h4 with h4 | ⟨host, h4⟩
  · exact va_get X.1 X.2.1 X.2.2.2.2.1 (cls_in ci y h1) X.2.2.2.1 X.2.2.2.2.2.2.2.1 hP i (nw_at (G := (E.1, E.2, ad)) hL) h1 j h2 (X.2.2.2.2.1 _ (gw_of h4 rfl)) (fun x hx => by rw [h3] at hx; exact hx) hv hd K
  · exact va_getN X.1 X.2.1 X.2.2.2.2.1 (cls_in ci y h1) X.2.2.2.1 X.2.2.2.2.2.2.2.1 hP i (nw_at (G := (E.1, E.2, ad)) hL) h1 j h2 (va_Nw.use (nests_on (nests_of h4 rfl)) (X.2.2.2.2.2.2.2.2.2 _ (nests_of h4 rfl))) (fun x hx => by rw [h3] at hx; exact hx) hv hd K
theorem k_iast {ad : Nat → Nat} {L : nw_L} {M : nw_M} {i n q : Nat} {ix x : Int32} (hL : L[i]? = some (.inr (false, n))) (e : ix = nI q) (hq : q < n) (hn31 : n < 2 ^ 31) (hd : decode k.2.1 pc = .ok (.iastore, 1)) (kk : KJ E k d C S ws0 P (pc + 1) lv st (nw_W (E.1, E.2, ad) L (ms M i (upd (M i) q x))) cells slots) : KJ E k d C S ws0 P pc lv (.int x :: .int ix :: .ref (ad i) :: st) (nw_W (E.1, E.2, ad) L M) cells slots := by
  intro p l en s m args below meth c H locs ls X hn hP hD hS hl
  subst e
  refine va_iast X.1 X.2.1 X.2.2.2.2.2.2.2.1 hP hD hS i 0 (nw_at (G := (E.1, E.2, ad)) hL) rfl (vp_in_nI hq hn31) hd (fun H1 locs1 hP1 hD1 hS1 => ?_)
  rw [nI_clamp (by omega)] at hP1 hD1
  have ew := nw_set (G := (E.1, E.2, ad)) (M := M) (f := upd (M i) q x) hL
  exact kk p l en s m args below meth c H1 locs1 ls X hn (by rw [← ew]; exact hP1) (by rw [← ew]; exact hD1) hS1 hl
end KF2
/-- a call on a world, from any frame -/
theorem w_callV {G : nw_G} {L : nw_L} {M : nw_M} {own : String} {k2 : nk_T} {n d2 idx b ci : Nat} {fl : List (Option Nat)} {As rest st : List Value} {P2 : Option Value → nw_M → Prop} {p : Program} {l : Launch} {e : Env} {R : Room} {s : State} {m : MethodId} {args : Array Value} {below : List Frame} {meth : Method} {c : Code} {cc : ByteArray} {nL : Nat} {H : Heap} {locs : List Loc} {cells slots pc : Nat} {Q : State → Prop} {A : Nat → Prop} {ls : Array Slot}
    (hx : p.tables.exec = Jvm.exec) (hb : c.code = cc) (hml : c.maxLocals = nL) (hown : s.vm.findClass own = some m.cls) (hgw : ∀ w ∈ gw, w.before args s = true) (hK : va_K G.1 classes (nw_T G) s) (hN : ∀ w ∈ nests, va_Nw w s)
    (hf : mfV k2 n) (hl2 : Cond.methodLink own idx k2.1 ∈ lw_tbl) (hL : L[b]? = some (.inl (ci, fl))) (hcls : (classes[ci]?).map (fun q => q.1) = some k2.1.cls) (hM : CJ G L k2 d2 (.ref (G.2.2 b) :: As) M P2) (hR : d2 + 1 ≤ R.frames ∧ 40 * (d2 + 1) ≤ R.locals) (hn' : As.length = n) (hst : st = As.reverse ++ .ref (G.2.2 b) :: rest) (hroom : (rest.map fun v => v.category).sum ≤ 8) (hd : decode cc pc = .ok (.invokevirtual idx, 3)) (hcs : cells ≤ R.cells ∧ slots ≤ R.slots) (hsize : ls.size = nL)
    (hP : va_P G.1 classes (nw_W G L M) H) (hD : va_D A (nw_W G L M)) (hS : va_S A s.heap H locs) (hA : ∀ q, s.heap.size ≤ q → A q)
    (kk : ∀ (v : Option Value) (N : nw_M) (H1 : Heap) (locs1 : List Loc), P2 v N → va_P G.1 classes (nw_W G L N) H1 → va_D A (nw_W G L N) → (∀ q, q < H.size → (∀ i, i < L.length → q ≠ G.2.2 i) → H1[q]? = H[q]?) → H.size ≤ H1.size → va_S A s.heap H1 locs1 → W p l e R s m args below meth c H1 locs1 cells slots Q (F0 m (pc + 3) ls (v.toList ++ rest))) :
    W p l e R s m args below meth c H locs cells slots Q (F0 m pc ls st) := by
  obtain ⟨f1, f2, f3, f4, f5, f6, f7⟩ := hf
  obtain ⟨q, hq, hqc⟩ := Option.map_eq_some_iff.mp hcls
  have hrecv := va_recv hK hP hq (nw_at (G := G) (M := M) hL)
  rw [hqc] at hrecv
  have hpre : ∀ U : State, U.heap = H → s.WarmedH U.vm → va_Pc (.ref (G.2.2 b) :: As) (nw_B G L M H.size) (Value.ref (G.2.2 b) :: As).toArray U := fun U hU hW => ⟨rfl, by rw [hU], by rw [hU]; exact hP, va_K.moved hW.alike hK, hD.weaken (fun _ _ _ _ => trivial), fun w hw => nests_warm hw hW (hN w hw)⟩
  have hrm : (rmD d2).frames + 1 ≤ R.frames ∧ 8 + (k2.2.2.1 + 11) + (rmD d2).locals ≤ R.locals := by
    simp only [rmD]
    exact ⟨hR.1, by omega⟩
  have hrun : va_Run p l e R s m args below meth c H locs cells slots 0 0 (F0 m pc ls st) rest (nw_Q G L P2 H.size (Value.ref (G.2.2 b) :: As).toArray) (nw_A G L H.size) :=
    va_runV (C := k2.1.cls) (As := As) (rest := rest) (bytes := k2.2.1) (maxL := k2.2.2.1) (ret := k2.2.2.2) (n := n) ⟨hx, hb, hml, hown, hgw⟩ (hM l H.size) ⟨callB_of n hgw (gi_gw f4) rfl rfl rfl (hgw _ (gw_of f3 rfl)) (hgw _ (gw_of hl2 rfl)) f5 hrm, hgw _ (gw_of f1 rfl), hgw _ (gw_of f2 rfl)⟩ ⟨nw_blind, hrecv, hpre⟩ rfl hn' hsize hst (lv_room hroom) hd ⟨hcs.1, hcs.2⟩
  have hAin : ∀ y, nw_A G L H.size y → A y := by
    rintro y (⟨i, hi, rfl⟩ | h)
    · obtain ⟨e, he⟩ : ∃ e, L[i]? = some e := ⟨_, List.getElem?_eq_getElem hi⟩
      exact hD.2 i _ (nw_at he)
    · exact hA y (Nat.le_trans hS.1 h)
  intro T hT X
  obtain ⟨v, st₀, t, T', Lc, h0, X', hLc, e1, e2, ⟨⟨v', N, hv, hp, hP1⟩, hz, hk⟩, stp⟩ := hrun T hT X
  cases hv
  rw [h0] at hz hk
  obtain ⟨t2, a1, b1⟩ := kk v N T'.heap (locs ++ Lc) hp (by rw [e1]; exact hP1) (nw_D hD) (fun y h1 h2 => by
      rw [e1]
      refine hk y h1 (fun z => ?_)
      rcases z with ⟨i, hi, rfl⟩ | z
      · exact h2 i hi rfl
      · omega) (by rw [e1]; exact hz)
    ⟨Nat.le_trans hS.1 (by rw [e1]; exact hz), fun y h1 h2 => by
      rw [e1, hk y (Nat.lt_of_lt_of_le h1 hS.1) (fun z => h2 (hAin y z))]
      exact hS.2.1 y h1 h2, fun y hy => by
      rcases List.mem_append.mp hy with h | h
      · exact hS.2.2 y h
      · exact hAin _ (hLc y h)⟩ T' rfl X'
  exact ⟨t2, stp t2 a1, b1⟩
theorem k_callVF {E : kE} {k : nk_T} {d C S : Nat} {ws0 : va_W} {P : va_W → Prop} {pc : Nat} {lv : List (Option Value)} {st : List Value} {cells slots : Nat} {ad : Nat → Nat} {L : nw_L} {M N : nw_M} {k2 : nk_T} {n d2 idx b ci : Nat} {fl : List (Option Nat)} {As rest : List Value} {r : Option Value} (hf : mfV k2 n) (hl2 : Cond.methodLink k.1.cls idx k2.1 ∈ lw_tbl) (hL : L[b]? = some (.inl (ci, fl))) (hcls : (classes[ci]?).map (fun q => q.1) = some k2.1.cls) (hM : CF (E.1, E.2, ad) L k2 d2 (.ref (ad b) :: As) M r N) (hdd : d2 + 1 ≤ d) (hn' : As.length = n) (hst : st = As.reverse ++ .ref (ad b) :: rest) (hroom : (rest.map fun v => v.category).sum ≤ 8) (h1 : cells ≤ C) (h2 : slots ≤ S) (hd : decode k.2.1 pc = .ok (.invokevirtual idx, 3))
    (kk : KJ E k d C S ws0 P (pc + 3) lv (r.toList ++ rest) (nw_W (E.1, E.2, ad) L N) cells slots) : KJ E k d C S ws0 P pc lv st (nw_W (E.1, E.2, ad) L M) cells slots := by
  intro p l e s m args below meth c H locs ls X hn hP hD hS hl
  refine w_callV (G := (E.1, E.2, ad)) X.1 X.2.1 X.2.2.1 X.2.2.2.1 X.2.2.2.2.1 X.2.2.2.2.2.2.2.1 X.2.2.2.2.2.2.2.2.2 hf hl2 hL hcls hM ⟨hdd, by simp only [rmC]; omega⟩ hn' hst hroom hd ⟨h1, h2⟩ (hl.1.trans hn) hP hD hS (fun q hq => Or.inr hq) (fun v N1 H1 locs1 hp hP1 hD1 _ _ hS1 => ?_)
  rw [hp.1]
  have e := hp.2
  subst e
  exact kk p l _ s m args below meth c H1 locs1 ls X hn hP1 hD1 hS1 hl
