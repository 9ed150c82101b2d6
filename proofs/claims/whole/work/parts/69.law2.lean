-- the law: its loop; by wip/whole/gen/mod_law.py
section LP
variable {E : kE} {ac am : Nat → Nat} {p : Program} {l : Launch} {e : Env} {s : State} {m : MethodId} {below : List Frame} {meth : Method} {c : Code} {b L : Nat} {xs : Nat → Int32} {M M2 : nw_M}
theorem sw22 (x : Int32) (h : isN 22 x = false) : x.toInt < 0 ∨ 21 < x.toInt := by
  have h2 := of_decide_eq_false h
  rcases Decidable.em (x.toInt < 0 ∨ 21 < x.toInt) with q | q
  · exact q
  · refine absurd ⟨?_, ?_⟩ h2
    · rw [Int32.lt_iff_toInt_lt]; show ¬ x.toInt < 0; omega
    · rw [Int32.le_iff_toInt_le, nI_toInt (by omega)]; show ¬ 22 ≤ x.toInt; omega
theorem law_type (X : LCx E p s m meth c b L xs) (hL : L ≤ 3072) {i : Nat} (hi : i + 6 ≤ L) (hJ : JR M M2) (kk : ∀ N N2, JR N N2 → LJ E ac am p l e s m below meth c b 692 [some (.ref b), some (.ref (ac 0)), some (.ref (am 0)), some (.int (nI i))] [] N N2) : LJ E ac am p l e s m below meth c b 136 [some (.ref b), some (.ref (ac 0)), some (.ref (am 0)), some (.int (nI i))] [] M M2 := by
  obtain ⟨d, d2, P, P2, hd, hd2, h1, h2, h3⟩ := j_type (G := (E.1, E.2, ac)) (H := (E.1, E.2, am)) hJ (xs (i + 1))
  refine l_aload X (i := 1) d_law_136 rfl rfl ?_
  refine l_aload X (i := 0) d_law_137 rfl rfl ?_
  refine l_iload X (i := 3) d_law_138 rfl rfl ?_
  refine l_iconst X 1 d_law_139 ic_1 ?_
  refine l_iadd X (a := i) (d := 1) d_law_140 rfl rfl ?_
  refine l_sld X hL (by omega) d_law_141 ?_
  refine l_callc X (ci := 9) (As := [.int (xs (i + 1))]) v_Need_type w_350 h1 hd rfl rfl (cat_opt none) d_law_142 (fun v N hv => ?_)
  refine l_aload X (i := 2) d_law_145 rfl rfl ?_
  refine l_aload X (i := 0) d_law_146 rfl rfl ?_
  refine l_iload X (i := 3) d_law_147 rfl rfl ?_
  refine l_iconst X 1 d_law_148 ic_1 ?_
  refine l_iadd X (a := i) (d := 1) d_law_149 rfl rfl ?_
  refine l_sld X hL (by omega) d_law_150 ?_
  refine l_callm X (ci := 10) (As := [.int (xs (i + 1))]) (rest := v.toList ++ []) v_Model_type w_938 h2 hd2 rfl rfl (by rw [List.append_nil]; exact cat_opt v) d_law_151 (fun v2 N2 hv2 => ?_)
  obtain ⟨x, rfl, rfl, hJ2⟩ := h3 v N v2 N2 hv hv2
  exact l_icmp_eq X 692 d_law_154 (by decide) (kk N N2 hJ2)
theorem law_clear (X : LCx E p s m meth c b L xs) (hL : L ≤ 3072) {i : Nat} (hi : i + 6 ≤ L) (hJ : JR M M2) (kk : ∀ N N2, JR N N2 → LJ E ac am p l e s m below meth c b 692 [some (.ref b), some (.ref (ac 0)), some (.ref (am 0)), some (.int (nI i))] [] N N2) : LJ E ac am p l e s m below meth c b 159 [some (.ref b), some (.ref (ac 0)), some (.ref (am 0)), some (.int (nI i))] [] M M2 := by
  obtain ⟨d, d2, P, P2, hd, hd2, h1, h2, h3⟩ := j_clear (G := (E.1, E.2, ac)) (H := (E.1, E.2, am)) hJ 
  refine l_aload X (i := 1) d_law_159 rfl rfl ?_
  refine l_callc X (ci := 9) (As := []) v_Need_clear w_354 h1 hd rfl rfl (cat_opt none) d_law_160 (fun v N hv => ?_)
  refine l_aload X (i := 2) d_law_163 rfl rfl ?_
  refine l_callm X (ci := 10) (As := []) (rest := v.toList ++ []) v_Model_clear w_945 h2 hd2 rfl rfl (by rw [List.append_nil]; exact cat_opt v) d_law_164 (fun v2 N2 hv2 => ?_)
  obtain ⟨x, rfl, rfl, hJ2⟩ := h3 v N v2 N2 hv hv2
  exact l_icmp_eq X 692 d_law_167 (by decide) (kk N N2 hJ2)
theorem law_tree (X : LCx E p s m meth c b L xs) (hL : L ≤ 3072) {i : Nat} (hi : i + 6 ≤ L) (hJ : JR M M2) (kk : ∀ N N2, JR N N2 → LJ E ac am p l e s m below meth c b 692 [some (.ref b), some (.ref (ac 0)), some (.ref (am 0)), some (.int (nI i))] [] N N2) : LJ E ac am p l e s m below meth c b 172 [some (.ref b), some (.ref (ac 0)), some (.ref (am 0)), some (.int (nI i))] [] M M2 := by
  obtain ⟨d, d2, P, P2, hd, hd2, h1, h2, h3⟩ := j_tree (G := (E.1, E.2, ac)) (H := (E.1, E.2, am)) hJ 
  refine l_aload X (i := 1) d_law_172 rfl rfl ?_
  refine l_callc X (ci := 9) (As := []) v_Need_tree w_358 h1 hd rfl rfl (cat_opt none) d_law_173 (fun v N hv => ?_)
  refine l_aload X (i := 2) d_law_176 rfl rfl ?_
  refine l_callm X (ci := 10) (As := []) (rest := v.toList ++ []) v_Model_tree w_949 h2 hd2 rfl rfl (by rw [List.append_nil]; exact cat_opt v) d_law_177 (fun v2 N2 hv2 => ?_)
  obtain ⟨x, rfl, rfl, hJ2⟩ := h3 v N v2 N2 hv hv2
  exact l_icmp_eq X 692 d_law_180 (by decide) (kk N N2 hJ2)
theorem law_node (X : LCx E p s m meth c b L xs) (hL : L ≤ 3072) {i : Nat} (hi : i + 6 ≤ L) (hJ : JR M M2) (kk : ∀ N N2, JR N N2 → LJ E ac am p l e s m below meth c b 692 [some (.ref b), some (.ref (ac 0)), some (.ref (am 0)), some (.int (nI i))] [] N N2) : LJ E ac am p l e s m below meth c b 185 [some (.ref b), some (.ref (ac 0)), some (.ref (am 0)), some (.int (nI i))] [] M M2 := by
  obtain ⟨d, d2, P, P2, hd, hd2, h1, h2, h3⟩ := j_node (G := (E.1, E.2, ac)) (H := (E.1, E.2, am)) hJ (xs (i + 1)) (xs (i + 2))
  refine l_aload X (i := 1) d_law_185 rfl rfl ?_
  refine l_aload X (i := 0) d_law_186 rfl rfl ?_
  refine l_iload X (i := 3) d_law_187 rfl rfl ?_
  refine l_iconst X 1 d_law_188 ic_1 ?_
  refine l_iadd X (a := i) (d := 1) d_law_189 rfl rfl ?_
  refine l_sld X hL (by omega) d_law_190 ?_
  refine l_aload X (i := 0) d_law_191 rfl rfl ?_
  refine l_iload X (i := 3) d_law_192 rfl rfl ?_
  refine l_iconst X 2 d_law_193 ic_2 ?_
  refine l_iadd X (a := i) (d := 2) d_law_194 rfl rfl ?_
  refine l_sld X hL (by omega) d_law_195 ?_
  refine l_callc X (ci := 9) (As := [.int (xs (i + 1)), .int (xs (i + 2))]) v_Need_node w_572 h1 hd rfl rfl (cat_opt none) d_law_196 (fun v N hv => ?_)
  refine l_aload X (i := 2) d_law_199 rfl rfl ?_
  refine l_aload X (i := 0) d_law_200 rfl rfl ?_
  refine l_iload X (i := 3) d_law_201 rfl rfl ?_
  refine l_iconst X 1 d_law_202 ic_1 ?_
  refine l_iadd X (a := i) (d := 1) d_law_203 rfl rfl ?_
  refine l_sld X hL (by omega) d_law_204 ?_
  refine l_aload X (i := 0) d_law_205 rfl rfl ?_
  refine l_iload X (i := 3) d_law_206 rfl rfl ?_
  refine l_iconst X 2 d_law_207 ic_2 ?_
  refine l_iadd X (a := i) (d := 2) d_law_208 rfl rfl ?_
  refine l_sld X hL (by omega) d_law_209 ?_
  refine l_callm X (ci := 10) (As := [.int (xs (i + 1)), .int (xs (i + 2))]) (rest := v.toList ++ []) v_Model_node w_1003 h2 hd2 rfl rfl (by rw [List.append_nil]; exact cat_opt v) d_law_210 (fun v2 N2 hv2 => ?_)
  obtain ⟨x, rfl, rfl, hJ2⟩ := h3 v N v2 N2 hv hv2
  exact l_icmp_eq X 692 d_law_213 (by decide) (kk N N2 hJ2)
theorem law_value (X : LCx E p s m meth c b L xs) (hL : L ≤ 3072) {i : Nat} (hi : i + 6 ≤ L) (hJ : JR M M2) (kk : ∀ N N2, JR N N2 → LJ E ac am p l e s m below meth c b 692 [some (.ref b), some (.ref (ac 0)), some (.ref (am 0)), some (.int (nI i))] [] N N2) : LJ E ac am p l e s m below meth c b 218 [some (.ref b), some (.ref (ac 0)), some (.ref (am 0)), some (.int (nI i))] [] M M2 := by
  obtain ⟨d, d2, P, P2, hd, hd2, h1, h2, h3⟩ := j_value (G := (E.1, E.2, ac)) (H := (E.1, E.2, am)) hJ (xs (i + 1))
  refine l_aload X (i := 1) d_law_218 rfl rfl ?_
  refine l_aload X (i := 0) d_law_219 rfl rfl ?_
  refine l_iload X (i := 3) d_law_220 rfl rfl ?_
  refine l_iconst X 1 d_law_221 ic_1 ?_
  refine l_iadd X (a := i) (d := 1) d_law_222 rfl rfl ?_
  refine l_sld X hL (by omega) d_law_223 ?_
  refine l_callc X (ci := 9) (As := [.int (xs (i + 1))]) v_Need_value w_581 h1 hd rfl rfl (cat_opt none) d_law_224 (fun v N hv => ?_)
  refine l_aload X (i := 2) d_law_227 rfl rfl ?_
  refine l_aload X (i := 0) d_law_228 rfl rfl ?_
  refine l_iload X (i := 3) d_law_229 rfl rfl ?_
  refine l_iconst X 1 d_law_230 ic_1 ?_
  refine l_iadd X (a := i) (d := 1) d_law_231 rfl rfl ?_
  refine l_sld X hL (by omega) d_law_232 ?_
  refine l_callm X (ci := 10) (As := [.int (xs (i + 1))]) (rest := v.toList ++ []) v_Model_value w_1052 h2 hd2 rfl rfl (by rw [List.append_nil]; exact cat_opt v) d_law_233 (fun v2 N2 hv2 => ?_)
  obtain ⟨x, rfl, rfl, hJ2⟩ := h3 v N v2 N2 hv hv2
  exact l_icmp_eq X 692 d_law_236 (by decide) (kk N N2 hJ2)
theorem law_cost (X : LCx E p s m meth c b L xs) (hL : L ≤ 3072) {i : Nat} (hi : i + 6 ≤ L) (hJ : JR M M2) (kk : ∀ N N2, JR N N2 → LJ E ac am p l e s m below meth c b 692 [some (.ref b), some (.ref (ac 0)), some (.ref (am 0)), some (.int (nI i))] [] N N2) : LJ E ac am p l e s m below meth c b 241 [some (.ref b), some (.ref (ac 0)), some (.ref (am 0)), some (.int (nI i))] [] M M2 := by
  obtain ⟨d, d2, P, P2, hd, hd2, h1, h2, h3⟩ := j_cost (G := (E.1, E.2, ac)) (H := (E.1, E.2, am)) hJ (xs (i + 1)) (xs (i + 2))
  refine l_aload X (i := 1) d_law_241 rfl rfl ?_
  refine l_aload X (i := 0) d_law_242 rfl rfl ?_
  refine l_iload X (i := 3) d_law_243 rfl rfl ?_
  refine l_iconst X 1 d_law_244 ic_1 ?_
  refine l_iadd X (a := i) (d := 1) d_law_245 rfl rfl ?_
  refine l_sld X hL (by omega) d_law_246 ?_
  refine l_aload X (i := 0) d_law_247 rfl rfl ?_
  refine l_iload X (i := 3) d_law_248 rfl rfl ?_
  refine l_iconst X 2 d_law_249 ic_2 ?_
  refine l_iadd X (a := i) (d := 2) d_law_250 rfl rfl ?_
  refine l_sld X hL (by omega) d_law_251 ?_
  refine l_callc X (ci := 9) (As := [.int (xs (i + 1)), .int (xs (i + 2))]) v_Need_cost w_606 h1 hd rfl rfl (cat_opt none) d_law_252 (fun v N hv => ?_)
  refine l_aload X (i := 2) d_law_255 rfl rfl ?_
  refine l_aload X (i := 0) d_law_256 rfl rfl ?_
  refine l_iload X (i := 3) d_law_257 rfl rfl ?_
  refine l_iconst X 1 d_law_258 ic_1 ?_
  refine l_iadd X (a := i) (d := 1) d_law_259 rfl rfl ?_
  refine l_sld X hL (by omega) d_law_260 ?_
  refine l_aload X (i := 0) d_law_261 rfl rfl ?_
  refine l_iload X (i := 3) d_law_262 rfl rfl ?_
  refine l_iconst X 2 d_law_263 ic_2 ?_
  refine l_iadd X (a := i) (d := 2) d_law_264 rfl rfl ?_
  refine l_sld X hL (by omega) d_law_265 ?_
  refine l_callm X (ci := 10) (As := [.int (xs (i + 1)), .int (xs (i + 2))]) (rest := v.toList ++ []) v_Model_cost w_1066 h2 hd2 rfl rfl (by rw [List.append_nil]; exact cat_opt v) d_law_266 (fun v2 N2 hv2 => ?_)
  obtain ⟨x, rfl, rfl, hJ2⟩ := h3 v N v2 N2 hv hv2
  exact l_icmp_eq X 692 d_law_269 (by decide) (kk N N2 hJ2)
theorem law_way (X : LCx E p s m meth c b L xs) (hL : L ≤ 3072) {i : Nat} (hi : i + 6 ≤ L) (hJ : JR M M2) (kk : ∀ N N2, JR N N2 → LJ E ac am p l e s m below meth c b 692 [some (.ref b), some (.ref (ac 0)), some (.ref (am 0)), some (.int (nI i))] [] N N2) : LJ E ac am p l e s m below meth c b 274 [some (.ref b), some (.ref (ac 0)), some (.ref (am 0)), some (.int (nI i))] [] M M2 := by
  obtain ⟨d, d2, P, P2, hd, hd2, h1, h2, h3⟩ := j_way (G := (E.1, E.2, ac)) (H := (E.1, E.2, am)) hJ (xs (i + 1)) (xs (i + 2))
  refine l_aload X (i := 1) d_law_274 rfl rfl ?_
  refine l_aload X (i := 0) d_law_275 rfl rfl ?_
  refine l_iload X (i := 3) d_law_276 rfl rfl ?_
  refine l_iconst X 1 d_law_277 ic_1 ?_
  refine l_iadd X (a := i) (d := 1) d_law_278 rfl rfl ?_
  refine l_sld X hL (by omega) d_law_279 ?_
  refine l_aload X (i := 0) d_law_280 rfl rfl ?_
  refine l_iload X (i := 3) d_law_281 rfl rfl ?_
  refine l_iconst X 2 d_law_282 ic_2 ?_
  refine l_iadd X (a := i) (d := 2) d_law_283 rfl rfl ?_
  refine l_sld X hL (by omega) d_law_284 ?_
  refine l_callc X (ci := 9) (As := [.int (xs (i + 1)), .int (xs (i + 2))]) v_Need_way w_619 h1 hd rfl rfl (cat_opt none) d_law_285 (fun v N hv => ?_)
  refine l_aload X (i := 2) d_law_288 rfl rfl ?_
  refine l_aload X (i := 0) d_law_289 rfl rfl ?_
  refine l_iload X (i := 3) d_law_290 rfl rfl ?_
  refine l_iconst X 1 d_law_291 ic_1 ?_
  refine l_iadd X (a := i) (d := 1) d_law_292 rfl rfl ?_
  refine l_sld X hL (by omega) d_law_293 ?_
  refine l_aload X (i := 0) d_law_294 rfl rfl ?_
  refine l_iload X (i := 3) d_law_295 rfl rfl ?_
  refine l_iconst X 2 d_law_296 ic_2 ?_
  refine l_iadd X (a := i) (d := 2) d_law_297 rfl rfl ?_
  refine l_sld X hL (by omega) d_law_298 ?_
  refine l_callm X (ci := 10) (As := [.int (xs (i + 1)), .int (xs (i + 2))]) (rest := v.toList ++ []) v_Model_way w_1095 h2 hd2 rfl rfl (by rw [List.append_nil]; exact cat_opt v) d_law_299 (fun v2 N2 hv2 => ?_)
  obtain ⟨x, rfl, rfl, hJ2⟩ := h3 v N v2 N2 hv hv2
  exact l_icmp_eq X 692 d_law_302 (by decide) (kk N N2 hJ2)
theorem law_program (X : LCx E p s m meth c b L xs) (hL : L ≤ 3072) {i : Nat} (hi : i + 6 ≤ L) (hJ : JR M M2) (kk : ∀ N N2, JR N N2 → LJ E ac am p l e s m below meth c b 692 [some (.ref b), some (.ref (ac 0)), some (.ref (am 0)), some (.int (nI i))] [] N N2) : LJ E ac am p l e s m below meth c b 307 [some (.ref b), some (.ref (ac 0)), some (.ref (am 0)), some (.int (nI i))] [] M M2 := by
  obtain ⟨d, d2, P, P2, hd, hd2, h1, h2, h3⟩ := j_program (G := (E.1, E.2, ac)) (H := (E.1, E.2, am)) hJ (xs (i + 1)) (xs (i + 2))
  refine l_aload X (i := 1) d_law_307 rfl rfl ?_
  refine l_aload X (i := 0) d_law_308 rfl rfl ?_
  refine l_iload X (i := 3) d_law_309 rfl rfl ?_
  refine l_iconst X 1 d_law_310 ic_1 ?_
  refine l_iadd X (a := i) (d := 1) d_law_311 rfl rfl ?_
  refine l_sld X hL (by omega) d_law_312 ?_
  refine l_aload X (i := 0) d_law_313 rfl rfl ?_
  refine l_iload X (i := 3) d_law_314 rfl rfl ?_
  refine l_iconst X 2 d_law_315 ic_2 ?_
  refine l_iadd X (a := i) (d := 2) d_law_316 rfl rfl ?_
  refine l_sld X hL (by omega) d_law_317 ?_
  refine l_callc X (ci := 9) (As := [.int (xs (i + 1)), .int (xs (i + 2))]) v_Need_program w_627 h1 hd rfl rfl (cat_opt none) d_law_318 (fun v N hv => ?_)
  refine l_aload X (i := 2) d_law_321 rfl rfl ?_
  refine l_aload X (i := 0) d_law_322 rfl rfl ?_
  refine l_iload X (i := 3) d_law_323 rfl rfl ?_
  refine l_iconst X 1 d_law_324 ic_1 ?_
  refine l_iadd X (a := i) (d := 1) d_law_325 rfl rfl ?_
  refine l_sld X hL (by omega) d_law_326 ?_
  refine l_aload X (i := 0) d_law_327 rfl rfl ?_
  refine l_iload X (i := 3) d_law_328 rfl rfl ?_
  refine l_iconst X 2 d_law_329 ic_2 ?_
  refine l_iadd X (a := i) (d := 2) d_law_330 rfl rfl ?_
  refine l_sld X hL (by omega) d_law_331 ?_
  refine l_callm X (ci := 10) (As := [.int (xs (i + 1)), .int (xs (i + 2))]) (rest := v.toList ++ []) v_Model_program w_1099 h2 hd2 rfl rfl (by rw [List.append_nil]; exact cat_opt v) d_law_332 (fun v2 N2 hv2 => ?_)
  obtain ⟨x, rfl, rfl, hJ2⟩ := h3 v N v2 N2 hv hv2
  exact l_icmp_eq X 692 d_law_335 (by decide) (kk N N2 hJ2)
theorem law_line (X : LCx E p s m meth c b L xs) (hL : L ≤ 3072) {i : Nat} (hi : i + 6 ≤ L) (hJ : JR M M2) (kk : ∀ N N2, JR N N2 → LJ E ac am p l e s m below meth c b 692 [some (.ref b), some (.ref (ac 0)), some (.ref (am 0)), some (.int (nI i))] [] N N2) : LJ E ac am p l e s m below meth c b 340 [some (.ref b), some (.ref (ac 0)), some (.ref (am 0)), some (.int (nI i))] [] M M2 := by
  obtain ⟨d, d2, P, P2, hd, hd2, h1, h2, h3⟩ := j_line (G := (E.1, E.2, ac)) (H := (E.1, E.2, am)) hJ (xs (i + 1)) (xs (i + 2))
  refine l_aload X (i := 1) d_law_340 rfl rfl ?_
  refine l_aload X (i := 0) d_law_341 rfl rfl ?_
  refine l_iload X (i := 3) d_law_342 rfl rfl ?_
  refine l_iconst X 1 d_law_343 ic_1 ?_
  refine l_iadd X (a := i) (d := 1) d_law_344 rfl rfl ?_
  refine l_sld X hL (by omega) d_law_345 ?_
  refine l_aload X (i := 0) d_law_346 rfl rfl ?_
  refine l_iload X (i := 3) d_law_347 rfl rfl ?_
  refine l_iconst X 2 d_law_348 ic_2 ?_
  refine l_iadd X (a := i) (d := 2) d_law_349 rfl rfl ?_
  refine l_sld X hL (by omega) d_law_350 ?_
  refine l_callc X (ci := 9) (As := [.int (xs (i + 1)), .int (xs (i + 2))]) v_Need_line w_669 h1 hd rfl rfl (cat_opt none) d_law_351 (fun v N hv => ?_)
  refine l_aload X (i := 2) d_law_354 rfl rfl ?_
  refine l_aload X (i := 0) d_law_355 rfl rfl ?_
  refine l_iload X (i := 3) d_law_356 rfl rfl ?_
  refine l_iconst X 1 d_law_357 ic_1 ?_
  refine l_iadd X (a := i) (d := 1) d_law_358 rfl rfl ?_
  refine l_sld X hL (by omega) d_law_359 ?_
  refine l_aload X (i := 0) d_law_360 rfl rfl ?_
  refine l_iload X (i := 3) d_law_361 rfl rfl ?_
  refine l_iconst X 2 d_law_362 ic_2 ?_
  refine l_iadd X (a := i) (d := 2) d_law_363 rfl rfl ?_
  refine l_sld X hL (by omega) d_law_364 ?_
  refine l_callm X (ci := 10) (As := [.int (xs (i + 1)), .int (xs (i + 2))]) (rest := v.toList ++ []) v_Model_line w_1127 h2 hd2 rfl rfl (by rw [List.append_nil]; exact cat_opt v) d_law_365 (fun v2 N2 hv2 => ?_)
  obtain ⟨x, rfl, rfl, hJ2⟩ := h3 v N v2 N2 hv hv2
  exact l_icmp_eq X 692 d_law_368 (by decide) (kk N N2 hJ2)
theorem law_run (X : LCx E p s m meth c b L xs) (hL : L ≤ 3072) {i : Nat} (hi : i + 6 ≤ L) (hJ : JR M M2) (kk : ∀ N N2, JR N N2 → LJ E ac am p l e s m below meth c b 692 [some (.ref b), some (.ref (ac 0)), some (.ref (am 0)), some (.int (nI i))] [] N N2) : LJ E ac am p l e s m below meth c b 373 [some (.ref b), some (.ref (ac 0)), some (.ref (am 0)), some (.int (nI i))] [] M M2 := by
  obtain ⟨d, d2, P, P2, hd, hd2, h1, h2, h3⟩ := j_run (G := (E.1, E.2, ac)) (H := (E.1, E.2, am)) hJ (xs (i + 1))
  refine l_aload X (i := 1) d_law_373 rfl rfl ?_
  refine l_aload X (i := 0) d_law_374 rfl rfl ?_
  refine l_iload X (i := 3) d_law_375 rfl rfl ?_
  refine l_iconst X 1 d_law_376 ic_1 ?_
  refine l_iadd X (a := i) (d := 1) d_law_377 rfl rfl ?_
  refine l_sld X hL (by omega) d_law_378 ?_
  refine l_callc X (ci := 9) (As := [.int (xs (i + 1))]) v_Need_run w_677 h1 hd rfl rfl (cat_opt none) d_law_379 (fun v N hv => ?_)
  refine l_aload X (i := 2) d_law_382 rfl rfl ?_
  refine l_aload X (i := 0) d_law_383 rfl rfl ?_
  refine l_iload X (i := 3) d_law_384 rfl rfl ?_
  refine l_iconst X 1 d_law_385 ic_1 ?_
  refine l_iadd X (a := i) (d := 1) d_law_386 rfl rfl ?_
  refine l_sld X hL (by omega) d_law_387 ?_
  refine l_callm X (ci := 10) (As := [.int (xs (i + 1))]) (rest := v.toList ++ []) v_Model_run w_1131 h2 hd2 rfl rfl (by rw [List.append_nil]; exact cat_opt v) d_law_388 (fun v2 N2 hv2 => ?_)
  obtain ⟨x, rfl, rfl, hJ2⟩ := h3 v N v2 N2 hv hv2
  exact l_icmp_eq X 692 d_law_391 (by decide) (kk N N2 hJ2)
theorem law_fewest (X : LCx E p s m meth c b L xs) (hL : L ≤ 3072) {i : Nat} (hi : i + 6 ≤ L) (hJ : JR M M2) (kk : ∀ N N2, JR N N2 → LJ E ac am p l e s m below meth c b 692 [some (.ref b), some (.ref (ac 0)), some (.ref (am 0)), some (.int (nI i))] [] N N2) : LJ E ac am p l e s m below meth c b 396 [some (.ref b), some (.ref (ac 0)), some (.ref (am 0)), some (.int (nI i))] [] M M2 := by
  obtain ⟨d, d2, P, P2, hd, hd2, h1, h2, h3⟩ := j_fewest (G := (E.1, E.2, ac)) (H := (E.1, E.2, am)) hJ 
  refine l_aload X (i := 1) d_law_396 rfl rfl ?_
  refine l_callc X (ci := 9) (As := []) v_Need_fewest w_698 h1 hd rfl rfl (cat_opt none) d_law_397 (fun v N hv => ?_)
  refine l_aload X (i := 2) d_law_400 rfl rfl ?_
  refine l_callm X (ci := 10) (As := []) (rest := v.toList ++ []) v_Model_fewest w_1139 h2 hd2 rfl rfl (by rw [List.append_nil]; exact cat_opt v) d_law_401 (fun v2 N2 hv2 => ?_)
  obtain ⟨x, rfl, rfl, hJ2⟩ := h3 v N v2 N2 hv hv2
  exact l_icmp_eq X 692 d_law_404 (by decide) (kk N N2 hJ2)
theorem law_exchange (X : LCx E p s m meth c b L xs) (hL : L ≤ 3072) {i : Nat} (hi : i + 6 ≤ L) (hJ : JR M M2) (kk : ∀ N N2, JR N N2 → LJ E ac am p l e s m below meth c b 692 [some (.ref b), some (.ref (ac 0)), some (.ref (am 0)), some (.int (nI i))] [] N N2) : LJ E ac am p l e s m below meth c b 409 [some (.ref b), some (.ref (ac 0)), some (.ref (am 0)), some (.int (nI i))] [] M M2 := by
  obtain ⟨d, d2, P, P2, hd, hd2, h1, h2, h3⟩ := j_exchange (G := (E.1, E.2, ac)) (H := (E.1, E.2, am)) hJ (xs (i + 1))
  refine l_aload X (i := 1) d_law_409 rfl rfl ?_
  refine l_aload X (i := 0) d_law_410 rfl rfl ?_
  refine l_iload X (i := 3) d_law_411 rfl rfl ?_
  refine l_iconst X 1 d_law_412 ic_1 ?_
  refine l_iadd X (a := i) (d := 1) d_law_413 rfl rfl ?_
  refine l_sld X hL (by omega) d_law_414 ?_
  refine l_callc X (ci := 9) (As := [.int (xs (i + 1))]) v_Need_exchange w_702 h1 hd rfl rfl (cat_opt none) d_law_415 (fun v N hv => ?_)
  refine l_aload X (i := 2) d_law_418 rfl rfl ?_
  refine l_aload X (i := 0) d_law_419 rfl rfl ?_
  refine l_iload X (i := 3) d_law_420 rfl rfl ?_
  refine l_iconst X 1 d_law_421 ic_1 ?_
  refine l_iadd X (a := i) (d := 1) d_law_422 rfl rfl ?_
  refine l_sld X hL (by omega) d_law_423 ?_
  refine l_callm X (ci := 10) (As := [.int (xs (i + 1))]) (rest := v.toList ++ []) v_Model_exchange w_1143 h2 hd2 rfl rfl (by rw [List.append_nil]; exact cat_opt v) d_law_424 (fun v2 N2 hv2 => ?_)
  obtain ⟨x, rfl, rfl, hJ2⟩ := h3 v N v2 N2 hv hv2
  exact l_icmp_eq X 692 d_law_427 (by decide) (kk N N2 hJ2)
theorem law_let (X : LCx E p s m meth c b L xs) (hL : L ≤ 3072) {i : Nat} (hi : i + 6 ≤ L) (hJ : JR M M2) (kk : ∀ N N2, JR N N2 → LJ E ac am p l e s m below meth c b 692 [some (.ref b), some (.ref (ac 0)), some (.ref (am 0)), some (.int (nI i))] [] N N2) : LJ E ac am p l e s m below meth c b 432 [some (.ref b), some (.ref (ac 0)), some (.ref (am 0)), some (.int (nI i))] [] M M2 := by
  obtain ⟨d, d2, P, P2, hd, hd2, h1, h2, h3⟩ := j_let (G := (E.1, E.2, ac)) (H := (E.1, E.2, am)) hJ (xs (i + 1)) (xs (i + 2))
  refine l_aload X (i := 1) d_law_432 rfl rfl ?_
  refine l_aload X (i := 0) d_law_433 rfl rfl ?_
  refine l_iload X (i := 3) d_law_434 rfl rfl ?_
  refine l_iconst X 1 d_law_435 ic_1 ?_
  refine l_iadd X (a := i) (d := 1) d_law_436 rfl rfl ?_
  refine l_sld X hL (by omega) d_law_437 ?_
  refine l_aload X (i := 0) d_law_438 rfl rfl ?_
  refine l_iload X (i := 3) d_law_439 rfl rfl ?_
  refine l_iconst X 2 d_law_440 ic_2 ?_
  refine l_iadd X (a := i) (d := 2) d_law_441 rfl rfl ?_
  refine l_sld X hL (by omega) d_law_442 ?_
  refine l_callc X (ci := 9) (As := [.int (xs (i + 1)), .int (xs (i + 2))]) v_Need_let w_735 h1 hd rfl rfl (cat_opt none) d_law_443 (fun v N hv => ?_)
  refine l_aload X (i := 2) d_law_446 rfl rfl ?_
  refine l_aload X (i := 0) d_law_447 rfl rfl ?_
  refine l_iload X (i := 3) d_law_448 rfl rfl ?_
  refine l_iconst X 1 d_law_449 ic_1 ?_
  refine l_iadd X (a := i) (d := 1) d_law_450 rfl rfl ?_
  refine l_sld X hL (by omega) d_law_451 ?_
  refine l_aload X (i := 0) d_law_452 rfl rfl ?_
  refine l_iload X (i := 3) d_law_453 rfl rfl ?_
  refine l_iconst X 2 d_law_454 ic_2 ?_
  refine l_iadd X (a := i) (d := 2) d_law_455 rfl rfl ?_
  refine l_sld X hL (by omega) d_law_456 ?_
  refine l_callm X (ci := 10) (As := [.int (xs (i + 1)), .int (xs (i + 2))]) (rest := v.toList ++ []) v_Model_let w_1159 h2 hd2 rfl rfl (by rw [List.append_nil]; exact cat_opt v) d_law_457 (fun v2 N2 hv2 => ?_)
  obtain ⟨x, rfl, rfl, hJ2⟩ := h3 v N v2 N2 hv hv2
  exact l_icmp_eq X 692 d_law_460 (by decide) (kk N N2 hJ2)
theorem law_machine (X : LCx E p s m meth c b L xs) (hL : L ≤ 3072) {i : Nat} (hi : i + 6 ≤ L) (hJ : JR M M2) (kk : ∀ N N2, JR N N2 → LJ E ac am p l e s m below meth c b 692 [some (.ref b), some (.ref (ac 0)), some (.ref (am 0)), some (.int (nI i))] [] N N2) : LJ E ac am p l e s m below meth c b 465 [some (.ref b), some (.ref (ac 0)), some (.ref (am 0)), some (.int (nI i))] [] M M2 := by
  obtain ⟨d, d2, P, P2, hd, hd2, h1, h2, h3⟩ := j_machine (G := (E.1, E.2, ac)) (H := (E.1, E.2, am)) hJ (xs (i + 1)) (xs (i + 2)) (xs (i + 3)) (xs (i + 4)) (xs (i + 5))
  refine l_aload X (i := 1) d_law_465 rfl rfl ?_
  refine l_aload X (i := 0) d_law_466 rfl rfl ?_
  refine l_iload X (i := 3) d_law_467 rfl rfl ?_
  refine l_iconst X 1 d_law_468 ic_1 ?_
  refine l_iadd X (a := i) (d := 1) d_law_469 rfl rfl ?_
  refine l_sld X hL (by omega) d_law_470 ?_
  refine l_aload X (i := 0) d_law_471 rfl rfl ?_
  refine l_iload X (i := 3) d_law_472 rfl rfl ?_
  refine l_iconst X 2 d_law_473 ic_2 ?_
  refine l_iadd X (a := i) (d := 2) d_law_474 rfl rfl ?_
  refine l_sld X hL (by omega) d_law_475 ?_
  refine l_aload X (i := 0) d_law_476 rfl rfl ?_
  refine l_iload X (i := 3) d_law_477 rfl rfl ?_
  refine l_iconst X 3 d_law_478 ic_3 ?_
  refine l_iadd X (a := i) (d := 3) d_law_479 rfl rfl ?_
  refine l_sld X hL (by omega) d_law_480 ?_
  refine l_aload X (i := 0) d_law_481 rfl rfl ?_
  refine l_iload X (i := 3) d_law_482 rfl rfl ?_
  refine l_iconst X 4 d_law_483 ic_4 ?_
  refine l_iadd X (a := i) (d := 4) d_law_484 rfl rfl ?_
  refine l_sld X hL (by omega) d_law_485 ?_
  refine l_aload X (i := 0) d_law_486 rfl rfl ?_
  refine l_iload X (i := 3) d_law_487 rfl rfl ?_
  refine l_iconst X 5 d_law_488 ic_5 ?_
  refine l_iadd X (a := i) (d := 5) d_law_489 rfl rfl ?_
  refine l_sld X hL (by omega) d_law_490 ?_
  refine l_callc X (ci := 9) (As := [.int (xs (i + 1)), .int (xs (i + 2)), .int (xs (i + 3)), .int (xs (i + 4)), .int (xs (i + 5))]) v_Need_machine w_743 h1 hd rfl rfl (cat_opt none) d_law_491 (fun v N hv => ?_)
  refine l_aload X (i := 2) d_law_494 rfl rfl ?_
  refine l_aload X (i := 0) d_law_495 rfl rfl ?_
  refine l_iload X (i := 3) d_law_496 rfl rfl ?_
  refine l_iconst X 1 d_law_497 ic_1 ?_
  refine l_iadd X (a := i) (d := 1) d_law_498 rfl rfl ?_
  refine l_sld X hL (by omega) d_law_499 ?_
  refine l_aload X (i := 0) d_law_500 rfl rfl ?_
  refine l_iload X (i := 3) d_law_501 rfl rfl ?_
  refine l_iconst X 2 d_law_502 ic_2 ?_
  refine l_iadd X (a := i) (d := 2) d_law_503 rfl rfl ?_
  refine l_sld X hL (by omega) d_law_504 ?_
  refine l_aload X (i := 0) d_law_505 rfl rfl ?_
  refine l_iload X (i := 3) d_law_506 rfl rfl ?_
  refine l_iconst X 3 d_law_507 ic_3 ?_
  refine l_iadd X (a := i) (d := 3) d_law_508 rfl rfl ?_
  refine l_sld X hL (by omega) d_law_509 ?_
  refine l_aload X (i := 0) d_law_510 rfl rfl ?_
  refine l_iload X (i := 3) d_law_511 rfl rfl ?_
  refine l_iconst X 4 d_law_512 ic_4 ?_
  refine l_iadd X (a := i) (d := 4) d_law_513 rfl rfl ?_
  refine l_sld X hL (by omega) d_law_514 ?_
  refine l_aload X (i := 0) d_law_515 rfl rfl ?_
  refine l_iload X (i := 3) d_law_516 rfl rfl ?_
  refine l_iconst X 5 d_law_517 ic_5 ?_
  refine l_iadd X (a := i) (d := 5) d_law_518 rfl rfl ?_
  refine l_sld X hL (by omega) d_law_519 ?_
  refine l_callm X (ci := 10) (As := [.int (xs (i + 1)), .int (xs (i + 2)), .int (xs (i + 3)), .int (xs (i + 4)), .int (xs (i + 5))]) (rest := v.toList ++ []) v_Model_machine w_1163 h2 hd2 rfl rfl (by rw [List.append_nil]; exact cat_opt v) d_law_520 (fun v2 N2 hv2 => ?_)
  obtain ⟨x, rfl, rfl, hJ2⟩ := h3 v N v2 N2 hv hv2
  exact l_icmp_eq X 692 d_law_523 (by decide) (kk N N2 hJ2)
theorem law_undo (X : LCx E p s m meth c b L xs) (hL : L ≤ 3072) {i : Nat} (hi : i + 6 ≤ L) (hJ : JR M M2) (kk : ∀ N N2, JR N N2 → LJ E ac am p l e s m below meth c b 692 [some (.ref b), some (.ref (ac 0)), some (.ref (am 0)), some (.int (nI i))] [] N N2) : LJ E ac am p l e s m below meth c b 528 [some (.ref b), some (.ref (ac 0)), some (.ref (am 0)), some (.int (nI i))] [] M M2 := by
  obtain ⟨d, d2, P, P2, hd, hd2, h1, h2, h3⟩ := j_undo (G := (E.1, E.2, ac)) (H := (E.1, E.2, am)) hJ 
  refine l_aload X (i := 1) d_law_528 rfl rfl ?_
  refine l_callc X (ci := 9) (As := []) v_Need_undo w_755 h1 hd rfl rfl (cat_opt none) d_law_529 (fun v N hv => ?_)
  refine l_aload X (i := 2) d_law_532 rfl rfl ?_
  refine l_callm X (ci := 10) (As := []) (rest := v.toList ++ []) v_Model_undo w_1167 h2 hd2 rfl rfl (by rw [List.append_nil]; exact cat_opt v) d_law_533 (fun v2 N2 hv2 => ?_)
  obtain ⟨x, rfl, rfl, hJ2⟩ := h3 v N v2 N2 hv hv2
  exact l_icmp_eq X 692 d_law_536 (by decide) (kk N N2 hJ2)
theorem law_shared (X : LCx E p s m meth c b L xs) (hL : L ≤ 3072) {i : Nat} (hi : i + 6 ≤ L) (hJ : JR M M2) (kk : ∀ N N2, JR N N2 → LJ E ac am p l e s m below meth c b 692 [some (.ref b), some (.ref (ac 0)), some (.ref (am 0)), some (.int (nI i))] [] N N2) : LJ E ac am p l e s m below meth c b 541 [some (.ref b), some (.ref (ac 0)), some (.ref (am 0)), some (.int (nI i))] [] M M2 := by
  obtain ⟨d, d2, P, P2, hd, hd2, h1, h2, h3⟩ := j_shared (G := (E.1, E.2, ac)) (H := (E.1, E.2, am)) hJ (xs (i + 1)) (xs (i + 2))
  refine l_aload X (i := 1) d_law_541 rfl rfl ?_
  refine l_aload X (i := 0) d_law_542 rfl rfl ?_
  refine l_iload X (i := 3) d_law_543 rfl rfl ?_
  refine l_iconst X 1 d_law_544 ic_1 ?_
  refine l_iadd X (a := i) (d := 1) d_law_545 rfl rfl ?_
  refine l_sld X hL (by omega) d_law_546 ?_
  refine l_aload X (i := 0) d_law_547 rfl rfl ?_
  refine l_iload X (i := 3) d_law_548 rfl rfl ?_
  refine l_iconst X 2 d_law_549 ic_2 ?_
  refine l_iadd X (a := i) (d := 2) d_law_550 rfl rfl ?_
  refine l_sld X hL (by omega) d_law_551 ?_
  refine l_callc X (ci := 9) (As := [.int (xs (i + 1)), .int (xs (i + 2))]) v_Need_shared w_779 h1 hd rfl rfl (cat_opt none) d_law_552 (fun v N hv => ?_)
  refine l_aload X (i := 2) d_law_555 rfl rfl ?_
  refine l_aload X (i := 0) d_law_556 rfl rfl ?_
  refine l_iload X (i := 3) d_law_557 rfl rfl ?_
  refine l_iconst X 1 d_law_558 ic_1 ?_
  refine l_iadd X (a := i) (d := 1) d_law_559 rfl rfl ?_
  refine l_sld X hL (by omega) d_law_560 ?_
  refine l_aload X (i := 0) d_law_561 rfl rfl ?_
  refine l_iload X (i := 3) d_law_562 rfl rfl ?_
  refine l_iconst X 2 d_law_563 ic_2 ?_
  refine l_iadd X (a := i) (d := 2) d_law_564 rfl rfl ?_
  refine l_sld X hL (by omega) d_law_565 ?_
  refine l_callm X (ci := 10) (As := [.int (xs (i + 1)), .int (xs (i + 2))]) (rest := v.toList ++ []) v_Model_shared w_1171 h2 hd2 rfl rfl (by rw [List.append_nil]; exact cat_opt v) d_law_566 (fun v2 N2 hv2 => ?_)
  obtain ⟨x, rfl, rfl, hJ2⟩ := h3 v N v2 N2 hv hv2
  exact l_icmp_eq X 692 d_law_569 (by decide) (kk N N2 hJ2)
theorem law_cheapest (X : LCx E p s m meth c b L xs) (hL : L ≤ 3072) {i : Nat} (hi : i + 6 ≤ L) (hJ : JR M M2) (kk : ∀ N N2, JR N N2 → LJ E ac am p l e s m below meth c b 692 [some (.ref b), some (.ref (ac 0)), some (.ref (am 0)), some (.int (nI i))] [] N N2) : LJ E ac am p l e s m below meth c b 574 [some (.ref b), some (.ref (ac 0)), some (.ref (am 0)), some (.int (nI i))] [] M M2 := by
  obtain ⟨d, d2, P, P2, hd, hd2, h1, h2, h3⟩ := j_cheapest (G := (E.1, E.2, ac)) (H := (E.1, E.2, am)) hJ (xs (i + 1))
  refine l_aload X (i := 1) d_law_574 rfl rfl ?_
  refine l_aload X (i := 0) d_law_575 rfl rfl ?_
  refine l_iload X (i := 3) d_law_576 rfl rfl ?_
  refine l_iconst X 1 d_law_577 ic_1 ?_
  refine l_iadd X (a := i) (d := 1) d_law_578 rfl rfl ?_
  refine l_sld X hL (by omega) d_law_579 ?_
  refine l_callc X (ci := 9) (As := [.int (xs (i + 1))]) v_Need_cheapest w_783 h1 hd rfl rfl (cat_opt none) d_law_580 (fun v N hv => ?_)
  refine l_aload X (i := 2) d_law_583 rfl rfl ?_
  refine l_aload X (i := 0) d_law_584 rfl rfl ?_
  refine l_iload X (i := 3) d_law_585 rfl rfl ?_
  refine l_iconst X 1 d_law_586 ic_1 ?_
  refine l_iadd X (a := i) (d := 1) d_law_587 rfl rfl ?_
  refine l_sld X hL (by omega) d_law_588 ?_
  refine l_callm X (ci := 10) (As := [.int (xs (i + 1))]) (rest := v.toList ++ []) v_Model_cheapest w_1183 h2 hd2 rfl rfl (by rw [List.append_nil]; exact cat_opt v) d_law_589 (fun v2 N2 hv2 => ?_)
  obtain ⟨x, rfl, rfl, hJ2⟩ := h3 v N v2 N2 hv hv2
  exact l_icmp_eq X 692 d_law_592 (by decide) (kk N N2 hJ2)
theorem law_keep (X : LCx E p s m meth c b L xs) (hL : L ≤ 3072) {i : Nat} (hi : i + 6 ≤ L) (hJ : JR M M2) (kk : ∀ N N2, JR N N2 → LJ E ac am p l e s m below meth c b 692 [some (.ref b), some (.ref (ac 0)), some (.ref (am 0)), some (.int (nI i))] [] N N2) : LJ E ac am p l e s m below meth c b 597 [some (.ref b), some (.ref (ac 0)), some (.ref (am 0)), some (.int (nI i))] [] M M2 := by
  obtain ⟨d, d2, P, P2, hd, hd2, h1, h2, h3⟩ := j_keep (G := (E.1, E.2, ac)) (H := (E.1, E.2, am)) hJ (xs (i + 1))
  refine l_aload X (i := 1) d_law_597 rfl rfl ?_
  refine l_aload X (i := 0) d_law_598 rfl rfl ?_
  refine l_iload X (i := 3) d_law_599 rfl rfl ?_
  refine l_iconst X 1 d_law_600 ic_1 ?_
  refine l_iadd X (a := i) (d := 1) d_law_601 rfl rfl ?_
  refine l_sld X hL (by omega) d_law_602 ?_
  refine l_callc X (ci := 9) (As := [.int (xs (i + 1))]) v_Need_keep w_804 h1 hd rfl rfl (cat_opt none) d_law_603 (fun v N hv => ?_)
  refine l_aload X (i := 2) d_law_606 rfl rfl ?_
  refine l_aload X (i := 0) d_law_607 rfl rfl ?_
  refine l_iload X (i := 3) d_law_608 rfl rfl ?_
  refine l_iconst X 1 d_law_609 ic_1 ?_
  refine l_iadd X (a := i) (d := 1) d_law_610 rfl rfl ?_
  refine l_sld X hL (by omega) d_law_611 ?_
  refine l_callm X (ci := 10) (As := [.int (xs (i + 1))]) (rest := v.toList ++ []) v_Model_keep w_1198 h2 hd2 rfl rfl (by rw [List.append_nil]; exact cat_opt v) d_law_612 (fun v2 N2 hv2 => ?_)
  obtain ⟨x, rfl, rfl, hJ2⟩ := h3 v N v2 N2 hv hv2
  exact l_icmp_eq X 692 d_law_615 (by decide) (kk N N2 hJ2)
theorem law_back (X : LCx E p s m meth c b L xs) (hL : L ≤ 3072) {i : Nat} (hi : i + 6 ≤ L) (hJ : JR M M2) (kk : ∀ N N2, JR N N2 → LJ E ac am p l e s m below meth c b 692 [some (.ref b), some (.ref (ac 0)), some (.ref (am 0)), some (.int (nI i))] [] N N2) : LJ E ac am p l e s m below meth c b 620 [some (.ref b), some (.ref (ac 0)), some (.ref (am 0)), some (.int (nI i))] [] M M2 := by
  obtain ⟨d, d2, P, P2, hd, hd2, h1, h2, h3⟩ := j_back (G := (E.1, E.2, ac)) (H := (E.1, E.2, am)) hJ (xs (i + 1))
  refine l_aload X (i := 1) d_law_620 rfl rfl ?_
  refine l_aload X (i := 0) d_law_621 rfl rfl ?_
  refine l_iload X (i := 3) d_law_622 rfl rfl ?_
  refine l_iconst X 1 d_law_623 ic_1 ?_
  refine l_iadd X (a := i) (d := 1) d_law_624 rfl rfl ?_
  refine l_sld X hL (by omega) d_law_625 ?_
  refine l_callc X (ci := 9) (As := [.int (xs (i + 1))]) v_Need_back w_818 h1 hd rfl rfl (cat_opt none) d_law_626 (fun v N hv => ?_)
  refine l_aload X (i := 2) d_law_629 rfl rfl ?_
  refine l_aload X (i := 0) d_law_630 rfl rfl ?_
  refine l_iload X (i := 3) d_law_631 rfl rfl ?_
  refine l_iconst X 1 d_law_632 ic_1 ?_
  refine l_iadd X (a := i) (d := 1) d_law_633 rfl rfl ?_
  refine l_sld X hL (by omega) d_law_634 ?_
  refine l_callm X (ci := 10) (As := [.int (xs (i + 1))]) (rest := v.toList ++ []) v_Model_back w_1202 h2 hd2 rfl rfl (by rw [List.append_nil]; exact cat_opt v) d_law_635 (fun v2 N2 hv2 => ?_)
  obtain ⟨x, rfl, rfl, hJ2⟩ := h3 v N v2 N2 hv hv2
  exact l_icmp_eq X 692 d_law_638 (by decide) (kk N N2 hJ2)
theorem law_asked (X : LCx E p s m meth c b L xs) (hL : L ≤ 3072) {i : Nat} (hi : i + 6 ≤ L) (hJ : JR M M2) (kk : ∀ N N2, JR N N2 → LJ E ac am p l e s m below meth c b 692 [some (.ref b), some (.ref (ac 0)), some (.ref (am 0)), some (.int (nI i))] [] N N2) : LJ E ac am p l e s m below meth c b 643 [some (.ref b), some (.ref (ac 0)), some (.ref (am 0)), some (.int (nI i))] [] M M2 := by
  obtain ⟨d, d2, P, P2, hd, hd2, h1, h2, h3⟩ := j_asked (G := (E.1, E.2, ac)) (H := (E.1, E.2, am)) hJ 
  refine l_aload X (i := 1) d_law_643 rfl rfl ?_
  refine l_callc X (ci := 9) (As := []) v_Need_asked w_822 h1 hd rfl rfl (cat_opt none) d_law_644 (fun v N hv => ?_)
  refine l_aload X (i := 2) d_law_647 rfl rfl ?_
  refine l_callm X (ci := 10) (As := []) (rest := v.toList ++ []) v_Model_asked w_1206 h2 hd2 rfl rfl (by rw [List.append_nil]; exact cat_opt v) d_law_648 (fun v2 N2 hv2 => ?_)
  obtain ⟨x, rfl, rfl, hJ2⟩ := h3 v N v2 N2 hv hv2
  exact l_icmp_eq X 692 d_law_651 (by decide) (kk N N2 hJ2)
theorem law_trapped (X : LCx E p s m meth c b L xs) (hL : L ≤ 3072) {i : Nat} (hi : i + 6 ≤ L) (hJ : JR M M2) (kk : ∀ N N2, JR N N2 → LJ E ac am p l e s m below meth c b 692 [some (.ref b), some (.ref (ac 0)), some (.ref (am 0)), some (.int (nI i))] [] N N2) : LJ E ac am p l e s m below meth c b 656 [some (.ref b), some (.ref (ac 0)), some (.ref (am 0)), some (.int (nI i))] [] M M2 := by
  obtain ⟨d, d2, P, P2, hd, hd2, h1, h2, h3⟩ := j_trapped (G := (E.1, E.2, ac)) (H := (E.1, E.2, am)) hJ 
  refine l_aload X (i := 1) d_law_656 rfl rfl ?_
  refine l_callc X (ci := 9) (As := []) v_Need_trapped w_826 h1 hd rfl rfl (cat_opt none) d_law_657 (fun v N hv => ?_)
  refine l_aload X (i := 2) d_law_660 rfl rfl ?_
  refine l_callm X (ci := 10) (As := []) (rest := v.toList ++ []) v_Model_trapped w_1210 h2 hd2 rfl rfl (by rw [List.append_nil]; exact cat_opt v) d_law_661 (fun v2 N2 hv2 => ?_)
  obtain ⟨x, rfl, rfl, hJ2⟩ := h3 v N v2 N2 hv hv2
  exact l_icmp_eq X 692 d_law_664 (by decide) (kk N N2 hJ2)
theorem law_count (X : LCx E p s m meth c b L xs) (hL : L ≤ 3072) {i : Nat} (hi : i + 6 ≤ L) (hJ : JR M M2) (kk : ∀ N N2, JR N N2 → LJ E ac am p l e s m below meth c b 692 [some (.ref b), some (.ref (ac 0)), some (.ref (am 0)), some (.int (nI i))] [] N N2) : LJ E ac am p l e s m below meth c b 669 [some (.ref b), some (.ref (ac 0)), some (.ref (am 0)), some (.int (nI i))] [] M M2 := by
  obtain ⟨d, d2, P, P2, hd, hd2, h1, h2, h3⟩ := j_count (G := (E.1, E.2, ac)) (H := (E.1, E.2, am)) hJ (xs (i + 1))
  refine l_aload X (i := 1) d_law_669 rfl rfl ?_
  refine l_aload X (i := 0) d_law_670 rfl rfl ?_
  refine l_iload X (i := 3) d_law_671 rfl rfl ?_
  refine l_iconst X 1 d_law_672 ic_1 ?_
  refine l_iadd X (a := i) (d := 1) d_law_673 rfl rfl ?_
  refine l_sld X hL (by omega) d_law_674 ?_
  refine l_callc X (ci := 9) (As := [.int (xs (i + 1))]) v_Need_count w_830 h1 hd rfl rfl (cat_opt none) d_law_675 (fun v N hv => ?_)
  refine l_aload X (i := 2) d_law_678 rfl rfl ?_
  refine l_aload X (i := 0) d_law_679 rfl rfl ?_
  refine l_iload X (i := 3) d_law_680 rfl rfl ?_
  refine l_iconst X 1 d_law_681 ic_1 ?_
  refine l_iadd X (a := i) (d := 1) d_law_682 rfl rfl ?_
  refine l_sld X hL (by omega) d_law_683 ?_
  refine l_callm X (ci := 10) (As := [.int (xs (i + 1))]) (rest := v.toList ++ []) v_Model_count w_1214 h2 hd2 rfl rfl (by rw [List.append_nil]; exact cat_opt v) d_law_684 (fun v2 N2 hv2 => ?_)
  obtain ⟨x, rfl, rfl, hJ2⟩ := h3 v N v2 N2 hv hv2
  exact l_icmp_eq X 692 d_law_687 (by decide) (kk N N2 hJ2)
theorem law_loop (X : LCx E p s m meth c b L xs) (hL : L ≤ 3072) : ∀ (n i : Nat) (M M2 : nw_M), L ≤ i + n → i ≤ L → JR M M2 → LJ E ac am p l e s m below meth c b 18 [some (.ref b), some (.ref (ac 0)), some (.ref (am 0)), some (.int (nI i))] [] M M2 := by
  intro n
  induction n with
  | zero =>
    intro i M M2 h1 h2 hJ
    refine l_iload X (i := 3) d_law_18 rfl rfl ?_
    refine l_aload X (i := 0) d_law_19 rfl rfl ?_
    refine l_slen X d_law_20 ?_
    refine l_bipush X 6 d_law_21 bp_6 ?_
    refine l_isub X d_law_23 ?_
    have hlt : nI L - 6 < nI i := by
      rw [Int32.lt_iff_toInt_lt, show (6 : Int32) = nI 6 from rfl, pk_sub_toInt (by omega) (by omega), nI_toInt (by omega)]
      omega
    refine l_icmp_gt X 698 d_law_24 (by decide) (fun _ => ?_) (fun h => absurd hlt h)
    refine l_iconst X 1 d_law_698 ic_1 ?_
    exact l_ret X d_law_699
  | succ n ih =>
    intro i M M2 h1 h2 hJ
    refine l_iload X (i := 3) d_law_18 rfl rfl ?_
    refine l_aload X (i := 0) d_law_19 rfl rfl ?_
    refine l_slen X d_law_20 ?_
    refine l_bipush X 6 d_law_21 bp_6 ?_
    refine l_isub X d_law_23 ?_
    refine l_icmp_gt X 698 d_law_24 (by decide) (fun _ => ?_) (fun h => ?_)
    · refine l_iconst X 1 d_law_698 ic_1 ?_
      exact l_ret X d_law_699
    · have hi : i + 6 ≤ L := by
        rw [Int32.lt_iff_toInt_lt, show (6 : Int32) = nI 6 from rfl, pk_sub_toInt (by omega) (by omega), nI_toInt (by omega)] at h
        omega
      have kk : ∀ N N2, JR N N2 → LJ E ac am p l e s m below meth c b 692 [some (.ref b), some (.ref (ac 0)), some (.ref (am 0)), some (.int (nI i))] [] N N2 := by
        intro N N2 hJ2
        refine l_iinc X (i := 3) (y := nI (i + 6)) d_law_692 rfl (by rw [show Int32.ofInt 6 = nI 6 from rfl, nI_add]) (by decide) rfl ?_
        refine l_goto X 18 d_law_695 (by decide) ?_
        exact ih (i + 6) N N2 (by omega) hi hJ2
      refine l_aload X (i := 0) d_law_27 rfl rfl ?_
      refine l_iload X (i := 3) d_law_28 rfl rfl ?_
      refine l_sld X hL (by omega) d_law_29 ?_
      refine l_bipush X 31 d_law_30 bp_31 ?_
      refine l_iand X d_law_32 ?_
      generalize xs i &&& 31 = y
      cases hy : isN 22 y with
      | false => exact l_tableOut X 692 d_law_33 (sw22 y hy) (by decide) (kk M M2 hJ)
      | true =>
        obtain ⟨q, hq, rfl⟩ := isN_ex hy (by omega)
        rcases (show q = 0 ∨ q = 1 ∨ q = 2 ∨ q = 3 ∨ q = 4 ∨ q = 5 ∨ q = 6 ∨ q = 7 ∨ q = 8 ∨ q = 9 ∨ q = 10 ∨ q = 11 ∨ q = 12 ∨ q = 13 ∨ q = 14 ∨ q = 15 ∨ q = 16 ∨ q = 17 ∨ q = 18 ∨ q = 19 ∨ q = 20 ∨ q = 21 by omega) with rfl | rfl | rfl | rfl | rfl | rfl | rfl | rfl | rfl | rfl | rfl | rfl | rfl | rfl | rfl | rfl | rfl | rfl | rfl | rfl | rfl | rfl
        · exact l_tableIn X 136 d_law_33 (by decide) (by decide) (off := 103) rfl (by decide) (law_type X hL hi hJ kk)
        · exact l_tableIn X 159 d_law_33 (by decide) (by decide) (off := 126) rfl (by decide) (law_clear X hL hi hJ kk)
        · exact l_tableIn X 172 d_law_33 (by decide) (by decide) (off := 139) rfl (by decide) (law_tree X hL hi hJ kk)
        · exact l_tableIn X 185 d_law_33 (by decide) (by decide) (off := 152) rfl (by decide) (law_node X hL hi hJ kk)
        · exact l_tableIn X 218 d_law_33 (by decide) (by decide) (off := 185) rfl (by decide) (law_value X hL hi hJ kk)
        · exact l_tableIn X 241 d_law_33 (by decide) (by decide) (off := 208) rfl (by decide) (law_cost X hL hi hJ kk)
        · exact l_tableIn X 274 d_law_33 (by decide) (by decide) (off := 241) rfl (by decide) (law_way X hL hi hJ kk)
        · exact l_tableIn X 307 d_law_33 (by decide) (by decide) (off := 274) rfl (by decide) (law_program X hL hi hJ kk)
        · exact l_tableIn X 340 d_law_33 (by decide) (by decide) (off := 307) rfl (by decide) (law_line X hL hi hJ kk)
        · exact l_tableIn X 373 d_law_33 (by decide) (by decide) (off := 340) rfl (by decide) (law_run X hL hi hJ kk)
        · exact l_tableIn X 396 d_law_33 (by decide) (by decide) (off := 363) rfl (by decide) (law_fewest X hL hi hJ kk)
        · exact l_tableIn X 409 d_law_33 (by decide) (by decide) (off := 376) rfl (by decide) (law_exchange X hL hi hJ kk)
        · exact l_tableIn X 432 d_law_33 (by decide) (by decide) (off := 399) rfl (by decide) (law_let X hL hi hJ kk)
        · exact l_tableIn X 465 d_law_33 (by decide) (by decide) (off := 432) rfl (by decide) (law_machine X hL hi hJ kk)
        · exact l_tableIn X 528 d_law_33 (by decide) (by decide) (off := 495) rfl (by decide) (law_undo X hL hi hJ kk)
        · exact l_tableIn X 541 d_law_33 (by decide) (by decide) (off := 508) rfl (by decide) (law_shared X hL hi hJ kk)
        · exact l_tableIn X 574 d_law_33 (by decide) (by decide) (off := 541) rfl (by decide) (law_cheapest X hL hi hJ kk)
        · exact l_tableIn X 597 d_law_33 (by decide) (by decide) (off := 564) rfl (by decide) (law_keep X hL hi hJ kk)
        · exact l_tableIn X 620 d_law_33 (by decide) (by decide) (off := 587) rfl (by decide) (law_back X hL hi hJ kk)
        · exact l_tableIn X 643 d_law_33 (by decide) (by decide) (off := 610) rfl (by decide) (law_asked X hL hi hJ kk)
        · exact l_tableIn X 656 d_law_33 (by decide) (by decide) (off := 623) rfl (by decide) (law_trapped X hL hi hJ kk)
        · exact l_tableIn X 669 d_law_33 (by decide) (by decide) (off := 636) rfl (by decide) (law_count X hL hi hJ kk)
end LP
