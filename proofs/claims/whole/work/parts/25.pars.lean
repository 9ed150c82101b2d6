-- reading a text: a pile of marks, a pile of parts, the NODES so far
abbrev AT : Type := Nat × (Nat → Int32) × (Nat → Int32) × (Nat → Int32) × (Nat → Int32) × (Nat → Nat)
abbrev MK : Type := List (Int32 × Nat)
abbrev AS : Type := Nat × Bool × MK × List Nat × AT
def tpush (T : AT) (a b c d : Int32) (zz : Nat) : AT := (T.1 + 1, upd T.2.1 T.1 a, upd T.2.2.1 T.1 b, upd T.2.2.2.1 T.1 c, upd T.2.2.2.2.1 T.1 d, fun j => if j = T.1 then zz else T.2.2.2.2.2 j)
def adn (pr : List Nat) (T : AT) (a b c d : Int32) (zz p : Nat) : Nat ⊕ (List Nat × AT) := if T.1 = 31 then .inl p else .inr (T.1 :: pr, tpush T a b c d zz)
def doit (c : Int32) (p : Nat) (pr : List Nat) (T : AT) : Nat ⊕ (List Nat × AT) :=
  if c = 126 then (match pr with
    | x :: q => adn q T 126 0 (nI x) (-9) (T.2.2.2.2.2 x + 1) p
    | [] => .inl p)
  else (match pr with
    | x :: y :: q => adn q T c 0 (nI y) (nI x) (T.2.2.2.2.2 x + T.2.2.2.2.2 y + 1) p
    | _ => .inl p)
def stl (g : Int32) : MK → List Nat → AT → Nat ⊕ (MK × List Nat × AT)
  | [], pr, T => .inr ([], pr, T)
  | m :: r, pr, T => if o_grip m.1 < g then .inr (m :: r, pr, T) else match doit m.1 m.2 pr T with
    | .inl f => .inl f
    | .inr w => stl g r w.1 w.2
def isDg (c : Int32) : Bool := decide (¬ c < 48) && decide (¬ 57 < c)
def dgs (tx : Nat → Int32) : Nat → Nat → Nat
  | _, 0 => 0
  | p, f + 1 => if isDg (tx p) then dgs tx (p + 1) f + 1 else 0
def lfS (a : AS) (x y : Int32) (w : Nat) : Nat ⊕ (AT ⊕ AS) := match adn a.2.2.2.1 a.2.2.2.2 x y (-9) (-9) 1 a.1 with
  | .inl f => .inl f
  | .inr v => .inr (.inr (a.1 + w, false, a.2.2.1, v.1, v.2))
def cstD (tx : Nat → Int32) (len : Nat) (a : AS) (c : Int32) : Nat ⊕ (AT ⊕ AS) :=
  if c = 40 ∨ c = 126 then .inr (.inr (a.1 + 1, true, (c, a.1) :: a.2.2.1, a.2.2.2.1, a.2.2.2.2))
  else if ¬ c < 97 ∧ ¬ 104 < c then lfS a c (c - 97) 1
  else if dgs tx a.1 (len - a.1) = 1 then lfS a 48 (c - 48) 1
  else if dgs tx a.1 (len - a.1) = 2 ∧ c ≠ 48 then lfS a 48 ((c - 48) * 10 + tx (a.1 + 1) - 48) 2
  else .inl a.1
def cstO (a : AS) (c : Int32) : Nat ⊕ (AT ⊕ AS) := match stl (if o_bin c then o_grip c else 1) a.2.2.1 a.2.2.2.1 a.2.2.2.2 with
  | .inl f => .inl f
  | .inr w => if o_bin c then .inr (.inr (a.1 + 1, true, (c, a.1) :: w.1, w.2.1, w.2.2))
    else if c = 41 ∧ w.1 ≠ [] then .inr (.inr (a.1 + 1, false, w.1.tail, w.2.1, w.2.2))
    else if c = -1 ∧ w.1 = [] then .inr (.inl w.2.2)
    else .inl a.1
def ltr (tx : Nat → Int32) (len p : Nat) : Int32 := if p < len then tx p else -1
def cst (tx : Nat → Int32) (len : Nat) (a : AS) : Nat ⊕ (AT ⊕ AS) :=
  if ltr tx len a.1 = 32 then .inr (.inr (a.1 + 1, a.2)) else if a.2.1 then cstD tx len a (ltr tx len a.1) else cstO a (ltr tx len a.1)
def runp (tx : Nat → Int32) (len : Nat) : Nat → AS → Nat ⊕ AT
  | 0, _ => .inl 0
  | f + 1, a => match cst tx len a with
    | .inl e => .inl e
    | .inr (.inl T) => .inr T
    | .inr (.inr b) => runp tx len f b
-- what holds all the time
def chn (z : Nat → Nat) : List Nat → Nat → Prop
  | [], n => n = 0
  | x :: r, n => x + 1 = n ∧ z x ≤ n ∧ chn z r (n - z x)
def nb : MK → Nat
  | [] => 0
  | m :: r => nb r + if m.1 = 40 ∨ m.1 = 126 then 0 else 1
def mkOK (m : Int32 × Nat) : Prop := m.1 = 40 ∨ m.1 = 126 ∨ o_bin m.1 = true
def TOK (pr : List Nat) (T : AT) : Prop := WF T.1 T.2.1 T.2.2.1 T.2.2.2.1 T.2.2.2.2.1 T.2.2.2.2.2 ∧ chn T.2.2.2.2.2 pr T.1
def AOK (len : Nat) (a : AS) : Prop := a.1 ≤ len ∧ a.2.2.1.length ≤ a.1 ∧ (∀ m ∈ a.2.2.1, mkOK m ∧ m.2 < len) ∧ a.2.2.2.1.length = nb a.2.2.1 + (if a.2.1 then 0 else 1) ∧ TOK a.2.2.2.1 a.2.2.2.2
theorem chn_cong {z z' : Nat → Nat} : ∀ (pr : List Nat) (n : Nat), (∀ j, j < n → z' j = z j) → chn z pr n → chn z' pr n
  | [], n, _, h => h
  | x :: r, n, hz, h => by
    obtain ⟨h1, h2, h3⟩ := h
    have e := hz x (by omega)
    refine ⟨h1, by rw [e]; exact h2, ?_⟩
    rw [e]
    exact chn_cong r _ (fun j hj => hz j (by omega)) h3
theorem chn_len {z : Nat → Nat} : ∀ (pr : List Nat) (n : Nat), (∀ j, j < n → 1 ≤ z j) → chn z pr n → pr.length ≤ n
  | [], n, _, h => Nat.zero_le _
  | x :: r, n, hz, h => by
    obtain ⟨h1, h2, h3⟩ := h
    have := hz x (by omega)
    have := chn_len r _ (fun j hj => hz j (by omega)) h3
    simp only [List.length_cons]
    omega
/-- one NODE more keeps what was -/
theorem wf_push {T : AT} {a b c d : Int32} {zz : Nat} (hn : T.1 < 31) (h : WF T.1 T.2.1 T.2.2.1 T.2.2.2.1 T.2.2.2.2.1 T.2.2.2.2.2)
    (hk : (c = -9 ∧ d = -9 ∧ zz = 1 ∧ ((a = 48 ∧ ∃ v, v < 100 ∧ b = nI v) ∨ ∃ q, q < 8 ∧ a = nI (97 + q) ∧ b = nI q)) ∨ (a = 126 ∧ b = 0 ∧ 1 ≤ T.1 ∧ c = nI (T.1 - 1) ∧ d = -9 ∧ zz = T.2.2.2.2.2 (T.1 - 1) + 1) ∨ (o_bin a = true ∧ b = 0 ∧ 1 ≤ T.1 ∧ d = nI (T.1 - 1) ∧ T.2.2.2.2.2 (T.1 - 1) < T.1 ∧ c = nI (T.1 - 1 - T.2.2.2.2.2 (T.1 - 1)) ∧ zz = T.2.2.2.2.2 (T.1 - 1) + T.2.2.2.2.2 (T.1 - 1 - T.2.2.2.2.2 (T.1 - 1)) + 1)) :
    WF (tpush T a b c d zz).1 (tpush T a b c d zz).2.1 (tpush T a b c d zz).2.2.1 (tpush T a b c d zz).2.2.2.1 (tpush T a b c d zz).2.2.2.2.1 (tpush T a b c d zz).2.2.2.2.2 := by
  obtain ⟨n, le, nu, lf, rt, z⟩ := T
  simp only [tpush] at *
  have zb := h.zb
  refine ⟨by omega, fun k hk2 => ?_⟩
  by_cases e : k = n
  · subst e
    unfold WFk lfL
    have zne : ∀ j, j < k → (if j = k then zz else z j) = z j := fun j hj => by rw [if_neg (by omega)]
    simp only [upd_at, if_true]
    rcases hk with ⟨h1, h2, h3, h4⟩ | ⟨h1, h2, h3, h4, h5, h6⟩ | ⟨h1, h2, h3, h4, h5, h6, h7⟩
    · exact Or.inl ⟨h1, h2, h3, h4⟩
    · refine Or.inr (Or.inl ⟨h1, h2, h3, h4, h5, ?_⟩)
      rw [zne (k - 1) (by omega)]; exact h6
    · refine Or.inr (Or.inr ⟨h1, h2, h3, h4, ?_⟩)
      rw [zne (k - 1) (by omega)]
      rw [zne (k - 1 - z (k - 1)) (by omega)]
      exact ⟨h5, h6, h7⟩
  · have hk3 : k < n := by omega
    have old := h.2 k hk3
    unfold WFk lfL at *
    have zne : ∀ j, j < n → (if j = n then zz else z j) = z j := fun j hj => by rw [if_neg (by omega)]
    have zk := zb k hk3
    dsimp only
    rw [upd_ne _ _ e, upd_ne _ _ e, upd_ne _ _ e, upd_ne _ _ e, zne k hk3]
    rcases old with o | ⟨h1, h2, h3, h4, h5, h6⟩ | ⟨h1, h2, h3, h4, h5, h6, h7⟩
    · exact Or.inl o
    · refine Or.inr (Or.inl ⟨h1, h2, h3, h4, h5, ?_⟩)
      rw [zne (k - 1) (by omega)]; exact h6
    · refine Or.inr (Or.inr ⟨h1, h2, h3, h4, ?_⟩)
      rw [zne (k - 1) (by omega), zne (k - 1 - z (k - 1)) (by omega)]
      exact ⟨h5, h6, h7⟩
theorem tok_leaf {pr : List Nat} {T : AT} {a b : Int32} (hn : T.1 < 31) (h : TOK pr T) (hl : (a = 48 ∧ ∃ v, v < 100 ∧ b = nI v) ∨ ∃ q, q < 8 ∧ a = nI (97 + q) ∧ b = nI q) : TOK (T.1 :: pr) (tpush T a b (-9) (-9) 1) := by
  refine ⟨wf_push hn h.1 (Or.inl ⟨rfl, rfl, rfl, hl⟩), ?_⟩
  obtain ⟨n, le, nu, lf, rt, z⟩ := T
  simp only [tpush] at *
  refine ⟨rfl, by simp, ?_⟩
  simp only [if_true]
  rw [show n + 1 - 1 = n by omega]
  exact chn_cong pr n (fun j hj => by rw [if_neg (by omega)]) h.2
theorem tok_one {x : Nat} {q : List Nat} {T : AT} (hn : T.1 < 31) (h : TOK (x :: q) T) : TOK (T.1 :: q) (tpush T 126 0 (nI x) (-9) (T.2.2.2.2.2 x + 1)) := by
  obtain ⟨h1, h2, h3⟩ := h.2
  have ex : x = T.1 - 1 := by omega
  subst ex
  refine ⟨wf_push hn h.1 (Or.inr (Or.inl ⟨rfl, rfl, by omega, rfl, rfl, rfl⟩)), ?_⟩
  obtain ⟨n, le, nu, lf, rt, z⟩ := T
  simp only [tpush] at *
  have zb := h.1.zb (n - 1) (by omega)
  refine ⟨rfl, by simp only [if_true]; omega, ?_⟩
  simp only [if_true]
  rw [show n + 1 - (z (n - 1) + 1) = n - z (n - 1) by omega]
  exact chn_cong q _ (fun j hj => by rw [if_neg (by omega)]) h3
theorem tok_two {c : Int32} {x y : Nat} {q : List Nat} {T : AT} (hn : T.1 < 31) (hc : o_bin c = true) (h : TOK (x :: y :: q) T) : TOK (T.1 :: q) (tpush T c 0 (nI y) (nI x) (T.2.2.2.2.2 x + T.2.2.2.2.2 y + 1)) := by
  obtain ⟨h1, h2, h3, h4, h5⟩ := h.2
  have ex : x = T.1 - 1 := by omega
  subst ex
  have zx := h.1.zb (T.1 - 1) (by omega)
  have ey : y = T.1 - 1 - T.2.2.2.2.2 (T.1 - 1) := by omega
  subst ey
  refine ⟨wf_push hn h.1 (Or.inr (Or.inr ⟨hc, rfl, by omega, rfl, by omega, rfl, rfl⟩)), ?_⟩
  obtain ⟨n, le, nu, lf, rt, z⟩ := T
  simp only [tpush] at *
  refine ⟨rfl, by simp only [if_true]; omega, ?_⟩
  simp only [if_true]
  rw [show n + 1 - (z (n - 1) + z (n - 1 - z (n - 1)) + 1) = n - z (n - 1) - z (n - 1 - z (n - 1)) by omega]
  exact chn_cong q _ (fun j hj => by rw [if_neg (by omega)]) h5
theorem tok_len {pr : List Nat} {T : AT} (h : TOK pr T) : pr.length ≤ T.1 := chn_len pr T.1 (fun j hj => (h.1.zb j hj).1) h.2
/-- the waiting operators that are done leave all as it must be -/
theorem stl_ok {len : Nat} {g : Int32} : ∀ (mk : MK) (pr : List Nat) (T : AT), (∀ m ∈ mk, mkOK m ∧ m.2 < len) → (0 < g) → pr.length = nb mk + 1 → TOK pr T → ∀ w, stl g mk pr T = .inr w → (∀ m ∈ w.1, mkOK m ∧ m.2 < len) ∧ w.1.length ≤ mk.length ∧ w.2.1.length = nb w.1 + 1 ∧ TOK w.2.1 w.2.2 ∧ (∀ m r, w.1 = m :: r → o_grip m.1 < g)
  | [], pr, T, hm, hg, hl, hT, w, hw => by
    simp only [stl] at hw
    cases hw
    exact ⟨hm, Nat.le_refl _, hl, hT, fun m r e => by cases e⟩
  | m :: r, pr, T, hm, hg, hl, hT, w, hw => by
    rw [stl] at hw
    by_cases hq : o_grip m.1 < g
    · rw [if_pos hq] at hw
      cases hw
      exact ⟨hm, Nat.le_refl _, hl, hT, fun m' r' e => by cases e; exact hq⟩
    · rw [if_neg hq] at hw
      have hm1 := (hm m List.mem_cons_self).1
      have hmr : ∀ m' ∈ r, mkOK m' ∧ m'.2 < len := fun m' h => hm m' (List.mem_cons_of_mem _ h)
      cases hd : doit m.1 m.2 pr T with
      | inl f => rw [hd] at hw; cases hw
      | inr v =>
        rw [hd] at hw
        have fin : v.1.length = nb r + 1 ∧ TOK v.1 v.2 := by
          unfold doit at hd
          have adn31 : ∀ {q a b c d zz p}, adn q T a b c d zz p = .inr v → T.1 ≠ 31 ∧ v = (T.1 :: q, tpush T a b c d zz) := by
            intro q a b c d zz p h
            unfold adn at h
            by_cases e : T.1 = 31
            · rw [if_pos e] at h; cases h
            · rw [if_neg e] at h; cases h; exact ⟨e, rfl⟩
          have hn31 := hT.1.1
          by_cases e1 : m.1 = 126
          · rw [if_pos e1] at hd
            have en : nb (m :: r) = nb r := by rw [nb, if_pos (Or.inr e1)]; rfl
            rw [en] at hl
            match pr, hd, hl, hT with
            | x :: q, hd, hl, hT =>
              obtain ⟨h1, rfl⟩ := adn31 hd
              exact ⟨hl, tok_one (by omega) hT⟩
          · rw [if_neg e1] at hd
            have e40 : m.1 ≠ 40 := by
              intro e
              rw [e] at hq
              exact hq (by
                have : o_grip 40 = 0 := by decide
                rw [this]; exact hg)
            have en : nb (m :: r) = nb r + 1 := by rw [nb, if_neg (fun e => e.elim e40 e1)]
            rw [en] at hl
            have hb : o_bin m.1 = true := by
              rcases hm1 with e | e | e
              · exact absurd e e40
              · exact absurd e e1
              · exact e
            match pr, hd, hl, hT with
            | x :: y :: q, hd, hl, hT =>
              obtain ⟨h1, rfl⟩ := adn31 hd
              exact ⟨by simp only [List.length_cons] at hl ⊢; omega, tok_two (by omega) hb hT⟩
            | [x], hd, hl, hT => simp at hl
        obtain ⟨a1, a2, a3, a4, a5⟩ := stl_ok r v.1 v.2 hmr hg fin.1 fin.2 w hw
        exact ⟨a1, by simp only [List.length_cons]; omega, a3, a4, a5⟩
