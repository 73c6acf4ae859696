set_option maxHeartbeats 4000000 in
set_option maxRecDepth 100000 in
theorem op_select {p : Program} {l : Launch} {e : Env} {s : State} {m : MethodId} {args : Array Value} {below : List Frame} {meth : Method} {c : Code} {H : Heap} {locs : List Loc} {cells slots : Nat} {Q : State → Prop} {D : va_G} {cI cZ cL : ClassId} {AM : Nat → Prop} {adC adM : Nat → Nat} {o b L i : Nat} {xs : Nat → Int32} {σ τ : Nat → Nat → Nat} {f : Nat → Int64} {ls : Array Slot} {x1 : Int32} {x2 : Int32} {rm : Room} {post : Int32 → (Nat → Nat → Nat) × (Nat → Int64) → Prop} {post5 : Int32 → (Nat → Nat → Nat) → Prop} (C : Lw p l s m args c D cI cZ cL AM o b L xs) (h : Lp s D cI cZ cL AM adC adM o σ τ f H locs) (hl : lv_has ls 7 [(0, .ref b), (1, .ref (adC 0)), (2, .ref (adM 0)), (3, .ref o), (4, .int (nI i))]) (hiL : i + 4 ≤ L) (hL : L ≤ 2048) (hc : cells + 1 ≤ room_1.cells) (hs : slots + 6 ≤ room_1.slots) (hx1 : xs (i + 1) = x1) (hx2 : xs (i + 2) = x2)
    (hM : vx_Met l yL_select wsL_select rL (va_Pc [.ref (adC 0), .int x1, .int x2, .ref o] (Wo D cI cL (AW s.heap.size AM) adC σ o f)) (va_Qi post (Bo D cI cL (AW s.heap.size AM) adC o) (AW s.heap.size AM)) (fun _ _ _ => False) 1 6 (AW s.heap.size AM))
    (hM5 : Met l yX5_select wsX5_select rm (va_Pc [.ref (adM 0), .int x1, .int x2] (Wm D cI cZ AM adM τ)) (va_Qi post5 (fun u t => Wm D cI cZ AM adM u t) AM) 0 0 AM) (hr0 : rm.cells = 0) (hr1 : rm.slots = 0) (hr2 : rm.frames ≤ 20 ∧ rm.locals ≤ 600)
    (hq : ∀ r1 u r2 τ1, post r1 u → post5 r2 τ1 → IR u.1 τ1 ∧ r1 = nI (τ1 0 0) ∧ (r1 = 0 → u.2 0 = r2.toInt64)) (k : Kt p l e s m args below meth c Q D cI cZ cL AM adC adM o b i (cells + 1) (slots + 6)) : W p l e room_1 s m args below meth c H locs cells slots Q (F0 m 116 ls []) := by
  obtain ⟨hx, hb, hml, hown, hts, hK, hN, hZ, hTh, hTw, hNx, hX, hbl, hlt, hAM, hAo⟩ := id C
  obtain ⟨hP, hD, hPm, hDm, hPo, hS⟩ := id h
  have hK1 : va_K D vwCl [(cI, .int)] s := hK.sub [0] rfl
  have hK2 : va_K D vwCl [(cI, .int), (cZ, .boolean)] s := hK.sub [0, 1] rfl
  have hK3 : va_K D vwCl [(cI, .int), (cL, .long)] s := hK.sub [0, 2] rfl
  have hKo : va_K D vwCl [(cL, .long)] s := hK.sub [2] rfl
  refine lv_aload_n hx hb dL_law_116 rfl (lv_at hl 1 rfl) ?_
  refine n_arg (v := x1) hx hb hX hbl hS (lv_at hl 0 rfl) (lv_at hl 4 rfl) (j := 1) (by decide) (by omega) hL hx1 dL_law_117 dL_law_118 dL_law_120 dL_law_121 dL_law_122 ?_
  refine n_arg (v := x2) hx hb hX hbl hS (lv_at hl 0 rfl) (lv_at hl 4 rfl) (j := 2) (by decide) (by omega) hL hx2 dL_law_123 dL_law_124 dL_law_126 dL_law_127 dL_law_128 ?_
  refine lv_aload_n hx hb dL_law_129 rfl (lv_at hl 3 rfl) ?_
  refine vx_calliN (vx_runSX (As := [.ref (adC 0), .int x1, .int x2, .ref o]) (rest := []) ⟨hx, hb, hml, hown, hts⟩ hM (vx_cwSW 4 hts gL_law_L_select rfl rfl rfl (by decide +kernel) ⟨Nat.le_of_ble_eq_true rfl, Nat.le_of_ble_eq_true rfl⟩) ⟨Wo.blind, fun U hU hW => ⟨rfl, Wo.go hP hK1 hD hN hZ hTh hTw (Lp.sc hS _) hPo hK3 hAo hNx hU hW⟩⟩ rfl rfl hl.1 rfl (lv_room (Nat.le_of_ble_eq_true rfl)) dL_law_130 ⟨by omega, by omega⟩) hS (fun q _ h => h.1) (fun q h => h.1) (fun r1 u1 t1 H1 locs1 ht1 hp1 hB1 hk1 hS1 => ?_)
  have h1 := h.wrap hk1 ht1 hB1 hS1
  clear hB1 hk1 hS1 hP hD hPm hDm hPo hS
  obtain ⟨hP1, hD1, hPm1, hDm1, hPo1, hS1⟩ := id h1
  refine lv_istore hx hb dL_law_133 hl (by decide) rfl (fun ls1 hl1 => ?_)
  have hl1 : lv_has ls1 7 [(5, .int r1), (0, .ref b), (1, .ref (adC 0)), (2, .ref (adM 0)), (3, .ref o), (4, .int (nI i))] := hl1
  refine lv_aload_n hx hb dL_law_135 rfl (lv_at hl1 3 rfl) ?_
  refine n_arg (v := x1) hx hb hX hbl hS1 (lv_at hl1 1 rfl) (lv_at hl1 5 rfl) (j := 1) (by decide) (by omega) hL hx1 dL_law_136 dL_law_137 dL_law_139 dL_law_140 dL_law_141 ?_
  refine n_arg (v := x2) hx hb hX hbl hS1 (lv_at hl1 1 rfl) (lv_at hl1 5 rfl) (j := 2) (by decide) (by omega) hL hx2 dL_law_142 dL_law_143 dL_law_145 dL_law_146 dL_law_147 ?_
  refine va_calli (va_runV (As := [.int x1, .int x2]) (rest := []) ⟨hx, hb, hml, hown, hts⟩ hM5 (cwV 2 hts gL_law_X5_select rfl hr0 hr1 (by decide +kernel) ⟨Nat.le_trans (Nat.succ_le_succ hr2.1) (Nat.le_of_ble_eq_true rfl), Nat.le_trans (Nat.add_le_add_left hr2.2 _) (Nat.le_of_ble_eq_true rfl)⟩) ⟨Wm.blind, va_recv hK2 hPm1 (ci := 4) (q0 := 0) rfl rfl, fun U hU hW => ⟨rfl, Wm.go hPm1 hK2 hDm1 hU hW⟩⟩ rfl rfl hl1.1 rfl (lv_room (Nat.le_of_ble_eq_true rfl)) dL_law_148 ⟨by omega, by omega⟩) hS1 (fun q _ h => hAM q h) (fun q h => hAM q h) (fun r2 τ1 t2 H2 locs2 ht2 hvm2 hp2 hB2 hz2 hk2 hS2 => ?_)
  obtain ⟨hPm2, -, hDm2⟩ := hB2
  rw [ht2] at hPm2
  have h2 := h1.model hAo hk2 hPm2 hDm2 hS2
  obtain ⟨hI2, hq1, hq2⟩ := hq r1 u1 r2 τ1 hp1 hp2
  refine lv_istore hx hb dL_law_151 hl1 (by decide) rfl (fun ls2 hl2 => ?_)
  exact t_endi (cells := cells + 1) (slots := slots + 6) C h2 hI2 hl2 hc hs hq1 hq2 dL_law_153 dL_law_154 dL_law_157 dL_law_159 dL_law_164 dL_law_166 dL_law_169 dL_law_170 dL_law_171 dL_law_172 dL_law_174 dL_law_175 dL_law_176 dL_law_181 (by decide) k
set_option maxHeartbeats 4000000 in
set_option maxRecDepth 100000 in
theorem op_store {p : Program} {l : Launch} {e : Env} {s : State} {m : MethodId} {args : Array Value} {below : List Frame} {meth : Method} {c : Code} {H : Heap} {locs : List Loc} {cells slots : Nat} {Q : State → Prop} {D : va_G} {cI cZ cL : ClassId} {AM : Nat → Prop} {adC adM : Nat → Nat} {o b L i : Nat} {xs : Nat → Int32} {σ τ : Nat → Nat → Nat} {f : Nat → Int64} {ls : Array Slot} {x1 : Int32} {x2 : Int32} {x3 : Int32} {rm : Room} {post : Int32 → (Nat → Nat → Nat) × (Nat → Int64) → Prop} {post5 : Int32 → (Nat → Nat → Nat) → Prop} (C : Lw p l s m args c D cI cZ cL AM o b L xs) (h : Lp s D cI cZ cL AM adC adM o σ τ f H locs) (hl : lv_has ls 7 [(0, .ref b), (1, .ref (adC 0)), (2, .ref (adM 0)), (3, .ref o), (4, .int (nI i))]) (hiL : i + 4 ≤ L) (hL : L ≤ 2048) (hc : cells + 1 ≤ room_1.cells) (hs : slots + 6 ≤ room_1.slots) (hx1 : xs (i + 1) = x1) (hx2 : xs (i + 2) = x2) (hx3 : xs (i + 3) = x3)
    (hM : vx_Met l yL_store wsL_store rL (va_Pc [.ref (adC 0), .int x1, .int x2, .int x3, .ref o] (Wo D cI cL (AW s.heap.size AM) adC σ o f)) (va_Qi post (Bo D cI cL (AW s.heap.size AM) adC o) (AW s.heap.size AM)) (fun _ _ _ => False) 1 6 (AW s.heap.size AM))
    (hM5 : Met l yX5_store wsX5_store rm (va_Pc [.ref (adM 0), .int x1, .int x2, .int x3] (Wm D cI cZ AM adM τ)) (va_Qi post5 (fun u t => Wm D cI cZ AM adM u t) AM) 0 0 AM) (hr0 : rm.cells = 0) (hr1 : rm.slots = 0) (hr2 : rm.frames ≤ 20 ∧ rm.locals ≤ 600)
    (hq : ∀ r1 u r2 τ1, post r1 u → post5 r2 τ1 → IR u.1 τ1 ∧ r1 = nI (τ1 0 0) ∧ (r1 = 0 → u.2 0 = r2.toInt64)) (k : Kt p l e s m args below meth c Q D cI cZ cL AM adC adM o b i (cells + 1) (slots + 6)) : W p l e room_1 s m args below meth c H locs cells slots Q (F0 m 184 ls []) := by
  obtain ⟨hx, hb, hml, hown, hts, hK, hN, hZ, hTh, hTw, hNx, hX, hbl, hlt, hAM, hAo⟩ := id C
  obtain ⟨hP, hD, hPm, hDm, hPo, hS⟩ := id h
  have hK1 : va_K D vwCl [(cI, .int)] s := hK.sub [0] rfl
  have hK2 : va_K D vwCl [(cI, .int), (cZ, .boolean)] s := hK.sub [0, 1] rfl
  have hK3 : va_K D vwCl [(cI, .int), (cL, .long)] s := hK.sub [0, 2] rfl
  have hKo : va_K D vwCl [(cL, .long)] s := hK.sub [2] rfl
  refine lv_aload_n hx hb dL_law_184 rfl (lv_at hl 1 rfl) ?_
  refine n_arg (v := x1) hx hb hX hbl hS (lv_at hl 0 rfl) (lv_at hl 4 rfl) (j := 1) (by decide) (by omega) hL hx1 dL_law_185 dL_law_186 dL_law_188 dL_law_189 dL_law_190 ?_
  refine n_arg (v := x2) hx hb hX hbl hS (lv_at hl 0 rfl) (lv_at hl 4 rfl) (j := 2) (by decide) (by omega) hL hx2 dL_law_191 dL_law_192 dL_law_194 dL_law_195 dL_law_196 ?_
  refine n_arg (v := x3) hx hb hX hbl hS (lv_at hl 0 rfl) (lv_at hl 4 rfl) (j := 3) (by decide) (by omega) hL hx3 dL_law_197 dL_law_198 dL_law_200 dL_law_201 dL_law_202 ?_
  refine lv_aload_n hx hb dL_law_203 rfl (lv_at hl 3 rfl) ?_
  refine vx_calliN (vx_runSX (As := [.ref (adC 0), .int x1, .int x2, .int x3, .ref o]) (rest := []) ⟨hx, hb, hml, hown, hts⟩ hM (vx_cwSW 5 hts gL_law_L_store rfl rfl rfl (by decide +kernel) ⟨Nat.le_of_ble_eq_true rfl, Nat.le_of_ble_eq_true rfl⟩) ⟨Wo.blind, fun U hU hW => ⟨rfl, Wo.go hP hK1 hD hN hZ hTh hTw (Lp.sc hS _) hPo hK3 hAo hNx hU hW⟩⟩ rfl rfl hl.1 rfl (lv_room (Nat.le_of_ble_eq_true rfl)) dL_law_204 ⟨by omega, by omega⟩) hS (fun q _ h => h.1) (fun q h => h.1) (fun r1 u1 t1 H1 locs1 ht1 hp1 hB1 hk1 hS1 => ?_)
  have h1 := h.wrap hk1 ht1 hB1 hS1
  clear hB1 hk1 hS1 hP hD hPm hDm hPo hS
  obtain ⟨hP1, hD1, hPm1, hDm1, hPo1, hS1⟩ := id h1
  refine lv_istore hx hb dL_law_207 hl (by decide) rfl (fun ls1 hl1 => ?_)
  have hl1 : lv_has ls1 7 [(5, .int r1), (0, .ref b), (1, .ref (adC 0)), (2, .ref (adM 0)), (3, .ref o), (4, .int (nI i))] := hl1
  refine lv_aload_n hx hb dL_law_209 rfl (lv_at hl1 3 rfl) ?_
  refine n_arg (v := x1) hx hb hX hbl hS1 (lv_at hl1 1 rfl) (lv_at hl1 5 rfl) (j := 1) (by decide) (by omega) hL hx1 dL_law_210 dL_law_211 dL_law_213 dL_law_214 dL_law_215 ?_
  refine n_arg (v := x2) hx hb hX hbl hS1 (lv_at hl1 1 rfl) (lv_at hl1 5 rfl) (j := 2) (by decide) (by omega) hL hx2 dL_law_216 dL_law_217 dL_law_219 dL_law_220 dL_law_221 ?_
  refine n_arg (v := x3) hx hb hX hbl hS1 (lv_at hl1 1 rfl) (lv_at hl1 5 rfl) (j := 3) (by decide) (by omega) hL hx3 dL_law_222 dL_law_223 dL_law_225 dL_law_226 dL_law_227 ?_
  refine va_calli (va_runV (As := [.int x1, .int x2, .int x3]) (rest := []) ⟨hx, hb, hml, hown, hts⟩ hM5 (cwV 3 hts gL_law_X5_store rfl hr0 hr1 (by decide +kernel) ⟨Nat.le_trans (Nat.succ_le_succ hr2.1) (Nat.le_of_ble_eq_true rfl), Nat.le_trans (Nat.add_le_add_left hr2.2 _) (Nat.le_of_ble_eq_true rfl)⟩) ⟨Wm.blind, va_recv hK2 hPm1 (ci := 4) (q0 := 0) rfl rfl, fun U hU hW => ⟨rfl, Wm.go hPm1 hK2 hDm1 hU hW⟩⟩ rfl rfl hl1.1 rfl (lv_room (Nat.le_of_ble_eq_true rfl)) dL_law_228 ⟨by omega, by omega⟩) hS1 (fun q _ h => hAM q h) (fun q h => hAM q h) (fun r2 τ1 t2 H2 locs2 ht2 hvm2 hp2 hB2 hz2 hk2 hS2 => ?_)
  obtain ⟨hPm2, -, hDm2⟩ := hB2
  rw [ht2] at hPm2
  have h2 := h1.model hAo hk2 hPm2 hDm2 hS2
  obtain ⟨hI2, hq1, hq2⟩ := hq r1 u1 r2 τ1 hp1 hp2
  refine lv_istore hx hb dL_law_231 hl1 (by decide) rfl (fun ls2 hl2 => ?_)
  exact t_endi (cells := cells + 1) (slots := slots + 6) C h2 hI2 hl2 hc hs hq1 hq2 dL_law_233 dL_law_234 dL_law_237 dL_law_239 dL_law_244 dL_law_246 dL_law_249 dL_law_250 dL_law_251 dL_law_252 dL_law_254 dL_law_255 dL_law_256 dL_law_261 (by decide) k
set_option maxHeartbeats 4000000 in
set_option maxRecDepth 100000 in
theorem op_literal {p : Program} {l : Launch} {e : Env} {s : State} {m : MethodId} {args : Array Value} {below : List Frame} {meth : Method} {c : Code} {H : Heap} {locs : List Loc} {cells slots : Nat} {Q : State → Prop} {D : va_G} {cI cZ cL : ClassId} {AM : Nat → Prop} {adC adM : Nat → Nat} {o b L i : Nat} {xs : Nat → Int32} {σ τ : Nat → Nat → Nat} {f : Nat → Int64} {ls : Array Slot} {x1 : Int32} {x2 : Int32} {b3 : Bool} {rm : Room} {post : Int32 → (Nat → Nat → Nat) × (Nat → Int64) → Prop} {post5 : Int32 → (Nat → Nat → Nat) → Prop} (C : Lw p l s m args c D cI cZ cL AM o b L xs) (h : Lp s D cI cZ cL AM adC adM o σ τ f H locs) (hl : lv_has ls 7 [(0, .ref b), (1, .ref (adC 0)), (2, .ref (adM 0)), (3, .ref o), (4, .int (nI i))]) (hiL : i + 4 ≤ L) (hL : L ≤ 2048) (hc : cells + 1 ≤ room_1.cells) (hs : slots + 6 ≤ room_1.slots) (hx1 : xs (i + 1) = x1) (hx2 : xs (i + 2) = x2) (hx3 : xs (i + 3) = 0 ↔ b3 = false)
    (hM : vx_Met l yL_literal wsL_literal rL (va_Pc [.ref (adC 0), .int x1, .int x2, .int (bI b3), .ref o] (Wo D cI cL (AW s.heap.size AM) adC σ o f)) (va_Qi post (Bo D cI cL (AW s.heap.size AM) adC o) (AW s.heap.size AM)) (fun _ _ _ => False) 1 6 (AW s.heap.size AM))
    (hM5 : Met l yX5_literal wsX5_literal rm (va_Pc [.ref (adM 0), .int x1, .int x2, .int (bI b3)] (Wm D cI cZ AM adM τ)) (va_Qi post5 (fun u t => Wm D cI cZ AM adM u t) AM) 0 0 AM) (hr0 : rm.cells = 0) (hr1 : rm.slots = 0) (hr2 : rm.frames ≤ 20 ∧ rm.locals ≤ 600)
    (hq : ∀ r1 u r2 τ1, post r1 u → post5 r2 τ1 → IR u.1 τ1 ∧ r1 = nI (τ1 0 0) ∧ (r1 = 0 → u.2 0 = r2.toInt64)) (k : Kt p l e s m args below meth c Q D cI cZ cL AM adC adM o b i (cells + 1) (slots + 6)) : W p l e room_1 s m args below meth c H locs cells slots Q (F0 m 302 ls []) := by
  obtain ⟨hx, hb, hml, hown, hts, hK, hN, hZ, hTh, hTw, hNx, hX, hbl, hlt, hAM, hAo⟩ := id C
  obtain ⟨hP, hD, hPm, hDm, hPo, hS⟩ := id h
  have hK1 : va_K D vwCl [(cI, .int)] s := hK.sub [0] rfl
  have hK2 : va_K D vwCl [(cI, .int), (cZ, .boolean)] s := hK.sub [0, 1] rfl
  have hK3 : va_K D vwCl [(cI, .int), (cL, .long)] s := hK.sub [0, 2] rfl
  have hKo : va_K D vwCl [(cL, .long)] s := hK.sub [2] rfl
  refine lv_aload_n hx hb dL_law_302 rfl (lv_at hl 1 rfl) ?_
  refine n_arg (v := x1) hx hb hX hbl hS (lv_at hl 0 rfl) (lv_at hl 4 rfl) (j := 1) (by decide) (by omega) hL hx1 dL_law_303 dL_law_304 dL_law_306 dL_law_307 dL_law_308 ?_
  refine n_arg (v := x2) hx hb hX hbl hS (lv_at hl 0 rfl) (lv_at hl 4 rfl) (j := 2) (by decide) (by omega) hL hx2 dL_law_309 dL_law_310 dL_law_312 dL_law_313 dL_law_314 ?_
  refine n_arg (v := _) hx hb hX hbl hS (lv_at hl 0 rfl) (lv_at hl 4 rfl) (j := 3) (by decide) (by omega) hL rfl dL_law_315 dL_law_316 dL_law_318 dL_law_319 dL_law_320 ?_
  refine n_flag hx hb hx3 dL_law_321 dL_law_324 dL_law_325 dL_law_328 ?_
  refine lv_aload_n hx hb dL_law_329 rfl (lv_at hl 3 rfl) ?_
  refine vx_calliN (vx_runSX (As := [.ref (adC 0), .int x1, .int x2, .int (bI b3), .ref o]) (rest := []) ⟨hx, hb, hml, hown, hts⟩ hM (vx_cwSW 5 hts gL_law_L_literal rfl rfl rfl (by decide +kernel) ⟨Nat.le_of_ble_eq_true rfl, Nat.le_of_ble_eq_true rfl⟩) ⟨Wo.blind, fun U hU hW => ⟨rfl, Wo.go hP hK1 hD hN hZ hTh hTw (Lp.sc hS _) hPo hK3 hAo hNx hU hW⟩⟩ rfl rfl hl.1 rfl (lv_room (Nat.le_of_ble_eq_true rfl)) dL_law_330 ⟨by omega, by omega⟩) hS (fun q _ h => h.1) (fun q h => h.1) (fun r1 u1 t1 H1 locs1 ht1 hp1 hB1 hk1 hS1 => ?_)
  have h1 := h.wrap hk1 ht1 hB1 hS1
  clear hB1 hk1 hS1 hP hD hPm hDm hPo hS
  obtain ⟨hP1, hD1, hPm1, hDm1, hPo1, hS1⟩ := id h1
  refine lv_istore hx hb dL_law_333 hl (by decide) rfl (fun ls1 hl1 => ?_)
  have hl1 : lv_has ls1 7 [(5, .int r1), (0, .ref b), (1, .ref (adC 0)), (2, .ref (adM 0)), (3, .ref o), (4, .int (nI i))] := hl1
  refine lv_aload_n hx hb dL_law_335 rfl (lv_at hl1 3 rfl) ?_
  refine n_arg (v := x1) hx hb hX hbl hS1 (lv_at hl1 1 rfl) (lv_at hl1 5 rfl) (j := 1) (by decide) (by omega) hL hx1 dL_law_336 dL_law_337 dL_law_339 dL_law_340 dL_law_341 ?_
  refine n_arg (v := x2) hx hb hX hbl hS1 (lv_at hl1 1 rfl) (lv_at hl1 5 rfl) (j := 2) (by decide) (by omega) hL hx2 dL_law_342 dL_law_343 dL_law_345 dL_law_346 dL_law_347 ?_
  refine n_arg (v := _) hx hb hX hbl hS1 (lv_at hl1 1 rfl) (lv_at hl1 5 rfl) (j := 3) (by decide) (by omega) hL rfl dL_law_348 dL_law_349 dL_law_351 dL_law_352 dL_law_353 ?_
  refine n_flag hx hb hx3 dL_law_354 dL_law_357 dL_law_358 dL_law_361 ?_
  refine va_calli (va_runV (As := [.int x1, .int x2, .int (bI b3)]) (rest := []) ⟨hx, hb, hml, hown, hts⟩ hM5 (cwV 3 hts gL_law_X5_literal rfl hr0 hr1 (by decide +kernel) ⟨Nat.le_trans (Nat.succ_le_succ hr2.1) (Nat.le_of_ble_eq_true rfl), Nat.le_trans (Nat.add_le_add_left hr2.2 _) (Nat.le_of_ble_eq_true rfl)⟩) ⟨Wm.blind, va_recv hK2 hPm1 (ci := 4) (q0 := 0) rfl rfl, fun U hU hW => ⟨rfl, Wm.go hPm1 hK2 hDm1 hU hW⟩⟩ rfl rfl hl1.1 rfl (lv_room (Nat.le_of_ble_eq_true rfl)) dL_law_362 ⟨by omega, by omega⟩) hS1 (fun q _ h => hAM q h) (fun q h => hAM q h) (fun r2 τ1 t2 H2 locs2 ht2 hvm2 hp2 hB2 hz2 hk2 hS2 => ?_)
  obtain ⟨hPm2, -, hDm2⟩ := hB2
  rw [ht2] at hPm2
  have h2 := h1.model hAo hk2 hPm2 hDm2 hS2
  obtain ⟨hI2, hq1, hq2⟩ := hq r1 u1 r2 τ1 hp1 hp2
  refine lv_istore hx hb dL_law_365 hl1 (by decide) rfl (fun ls2 hl2 => ?_)
  exact t_endi (cells := cells + 1) (slots := slots + 6) C h2 hI2 hl2 hc hs hq1 hq2 dL_law_367 dL_law_368 dL_law_371 dL_law_373 dL_law_378 dL_law_380 dL_law_383 dL_law_384 dL_law_385 dL_law_386 dL_law_388 dL_law_389 dL_law_390 dL_law_395 (by decide) k
set_option maxHeartbeats 4000000 in
set_option maxRecDepth 100000 in
theorem op_claim {p : Program} {l : Launch} {e : Env} {s : State} {m : MethodId} {args : Array Value} {below : List Frame} {meth : Method} {c : Code} {H : Heap} {locs : List Loc} {cells slots : Nat} {Q : State → Prop} {D : va_G} {cI cZ cL : ClassId} {AM : Nat → Prop} {adC adM : Nat → Nat} {o b L i : Nat} {xs : Nat → Int32} {σ τ : Nat → Nat → Nat} {f : Nat → Int64} {ls : Array Slot} {rm : Room} {post : Int32 → (Nat → Nat → Nat) × (Nat → Int64) → Prop} {post5 : Int32 → (Nat → Nat → Nat) → Prop} (C : Lw p l s m args c D cI cZ cL AM o b L xs) (h : Lp s D cI cZ cL AM adC adM o σ τ f H locs) (hl : lv_has ls 7 [(0, .ref b), (1, .ref (adC 0)), (2, .ref (adM 0)), (3, .ref o), (4, .int (nI i))]) (hiL : i + 4 ≤ L) (hL : L ≤ 2048) (hc : cells + 1 ≤ room_1.cells) (hs : slots + 6 ≤ room_1.slots)
    (hM : vx_Met l yL_claim wsL_claim rL (va_Pc [.ref (adC 0), .ref o] (Wo D cI cL (AW s.heap.size AM) adC σ o f)) (va_Qi post (Bo D cI cL (AW s.heap.size AM) adC o) (AW s.heap.size AM)) (fun _ _ _ => False) 1 6 (AW s.heap.size AM))
    (hM5 : Met l yX5_claim wsX5_claim rm (va_Pc [.ref (adM 0)] (Wm D cI cZ AM adM τ)) (va_Qi post5 (fun u t => Wm D cI cZ AM adM u t) AM) 0 0 AM) (hr0 : rm.cells = 0) (hr1 : rm.slots = 0) (hr2 : rm.frames ≤ 20 ∧ rm.locals ≤ 600)
    (hq : ∀ r1 u r2 τ1, post r1 u → post5 r2 τ1 → IR u.1 τ1 ∧ r1 = nI (τ1 0 0) ∧ (r1 = 0 → u.2 0 = r2.toInt64)) (k : Kt p l e s m args below meth c Q D cI cZ cL AM adC adM o b i (cells + 1) (slots + 6)) : W p l e room_1 s m args below meth c H locs cells slots Q (F0 m 422 ls []) := by
  obtain ⟨hx, hb, hml, hown, hts, hK, hN, hZ, hTh, hTw, hNx, hX, hbl, hlt, hAM, hAo⟩ := id C
  obtain ⟨hP, hD, hPm, hDm, hPo, hS⟩ := id h
  have hK1 : va_K D vwCl [(cI, .int)] s := hK.sub [0] rfl
  have hK2 : va_K D vwCl [(cI, .int), (cZ, .boolean)] s := hK.sub [0, 1] rfl
  have hK3 : va_K D vwCl [(cI, .int), (cL, .long)] s := hK.sub [0, 2] rfl
  have hKo : va_K D vwCl [(cL, .long)] s := hK.sub [2] rfl
  refine lv_aload_n hx hb dL_law_422 rfl (lv_at hl 1 rfl) ?_
  refine lv_aload_n hx hb dL_law_423 rfl (lv_at hl 3 rfl) ?_
  refine vx_calliN (vx_runSX (As := [.ref (adC 0), .ref o]) (rest := []) ⟨hx, hb, hml, hown, hts⟩ hM (vx_cwSW 2 hts gL_law_L_claim rfl rfl rfl (by decide +kernel) ⟨Nat.le_of_ble_eq_true rfl, Nat.le_of_ble_eq_true rfl⟩) ⟨Wo.blind, fun U hU hW => ⟨rfl, Wo.go hP hK1 hD hN hZ hTh hTw (Lp.sc hS _) hPo hK3 hAo hNx hU hW⟩⟩ rfl rfl hl.1 rfl (lv_room (Nat.le_of_ble_eq_true rfl)) dL_law_424 ⟨by omega, by omega⟩) hS (fun q _ h => h.1) (fun q h => h.1) (fun r1 u1 t1 H1 locs1 ht1 hp1 hB1 hk1 hS1 => ?_)
  have h1 := h.wrap hk1 ht1 hB1 hS1
  clear hB1 hk1 hS1 hP hD hPm hDm hPo hS
  obtain ⟨hP1, hD1, hPm1, hDm1, hPo1, hS1⟩ := id h1
  refine lv_istore hx hb dL_law_427 hl (by decide) rfl (fun ls1 hl1 => ?_)
  have hl1 : lv_has ls1 7 [(5, .int r1), (0, .ref b), (1, .ref (adC 0)), (2, .ref (adM 0)), (3, .ref o), (4, .int (nI i))] := hl1
  refine lv_aload_n hx hb dL_law_429 rfl (lv_at hl1 3 rfl) ?_
  refine va_calli (va_runV (As := []) (rest := []) ⟨hx, hb, hml, hown, hts⟩ hM5 (cwV 0 hts gL_law_X5_claim rfl hr0 hr1 (by decide +kernel) ⟨Nat.le_trans (Nat.succ_le_succ hr2.1) (Nat.le_of_ble_eq_true rfl), Nat.le_trans (Nat.add_le_add_left hr2.2 _) (Nat.le_of_ble_eq_true rfl)⟩) ⟨Wm.blind, va_recv hK2 hPm1 (ci := 4) (q0 := 0) rfl rfl, fun U hU hW => ⟨rfl, Wm.go hPm1 hK2 hDm1 hU hW⟩⟩ rfl rfl hl1.1 rfl (lv_room (Nat.le_of_ble_eq_true rfl)) dL_law_430 ⟨by omega, by omega⟩) hS1 (fun q _ h => hAM q h) (fun q h => hAM q h) (fun r2 τ1 t2 H2 locs2 ht2 hvm2 hp2 hB2 hz2 hk2 hS2 => ?_)
  obtain ⟨hPm2, -, hDm2⟩ := hB2
  rw [ht2] at hPm2
  have h2 := h1.model hAo hk2 hPm2 hDm2 hS2
  obtain ⟨hI2, hq1, hq2⟩ := hq r1 u1 r2 τ1 hp1 hp2
  refine lv_istore hx hb dL_law_433 hl1 (by decide) rfl (fun ls2 hl2 => ?_)
  exact t_endi (cells := cells + 1) (slots := slots + 6) C h2 hI2 hl2 hc hs hq1 hq2 dL_law_435 dL_law_436 dL_law_439 dL_law_441 dL_law_446 dL_law_448 dL_law_451 dL_law_452 dL_law_453 dL_law_454 dL_law_456 dL_law_457 dL_law_458 dL_law_463 (by decide) k
set_option maxHeartbeats 4000000 in
set_option maxRecDepth 100000 in
theorem op_without {p : Program} {l : Launch} {e : Env} {s : State} {m : MethodId} {args : Array Value} {below : List Frame} {meth : Method} {c : Code} {H : Heap} {locs : List Loc} {cells slots : Nat} {Q : State → Prop} {D : va_G} {cI cZ cL : ClassId} {AM : Nat → Prop} {adC adM : Nat → Nat} {o b L i : Nat} {xs : Nat → Int32} {σ τ : Nat → Nat → Nat} {f : Nat → Int64} {ls : Array Slot} {x1 : Int32} {rm : Room} {post : Int32 → (Nat → Nat → Nat) × (Nat → Int64) → Prop} {post5 : Int32 → (Nat → Nat → Nat) → Prop} (C : Lw p l s m args c D cI cZ cL AM o b L xs) (h : Lp s D cI cZ cL AM adC adM o σ τ f H locs) (hl : lv_has ls 7 [(0, .ref b), (1, .ref (adC 0)), (2, .ref (adM 0)), (3, .ref o), (4, .int (nI i))]) (hiL : i + 4 ≤ L) (hL : L ≤ 2048) (hc : cells + 1 ≤ room_1.cells) (hs : slots + 6 ≤ room_1.slots) (hx1 : xs (i + 1) = x1)
    (hM : vx_Met l yL_without wsL_without rL (va_Pc [.ref (adC 0), .int x1, .ref o] (Wo D cI cL (AW s.heap.size AM) adC σ o f)) (va_Qi post (Bo D cI cL (AW s.heap.size AM) adC o) (AW s.heap.size AM)) (fun _ _ _ => False) 1 6 (AW s.heap.size AM))
    (hM5 : Met l yX5_without wsX5_without rm (va_Pc [.ref (adM 0), .int x1] (Wm D cI cZ AM adM τ)) (va_Qi post5 (fun u t => Wm D cI cZ AM adM u t) AM) 0 0 AM) (hr0 : rm.cells = 0) (hr1 : rm.slots = 0) (hr2 : rm.frames ≤ 20 ∧ rm.locals ≤ 600)
    (hq : ∀ r1 u r2 τ1, post r1 u → post5 r2 τ1 → IR u.1 τ1 ∧ r1 = nI (τ1 0 0) ∧ (r1 = 0 → u.2 0 = r2.toInt64) ∧ ∃ b2, r2 = bI b2) (k : Kt p l e s m args below meth c Q D cI cZ cL AM adC adM o b i (cells + 1) (slots + 6)) : W p l e room_1 s m args below meth c H locs cells slots Q (F0 m 530 ls []) := by
  obtain ⟨hx, hb, hml, hown, hts, hK, hN, hZ, hTh, hTw, hNx, hX, hbl, hlt, hAM, hAo⟩ := id C
  obtain ⟨hP, hD, hPm, hDm, hPo, hS⟩ := id h
  have hK1 : va_K D vwCl [(cI, .int)] s := hK.sub [0] rfl
  have hK2 : va_K D vwCl [(cI, .int), (cZ, .boolean)] s := hK.sub [0, 1] rfl
  have hK3 : va_K D vwCl [(cI, .int), (cL, .long)] s := hK.sub [0, 2] rfl
  have hKo : va_K D vwCl [(cL, .long)] s := hK.sub [2] rfl
  refine lv_aload_n hx hb dL_law_530 rfl (lv_at hl 1 rfl) ?_
  refine n_arg (v := x1) hx hb hX hbl hS (lv_at hl 0 rfl) (lv_at hl 4 rfl) (j := 1) (by decide) (by omega) hL hx1 dL_law_531 dL_law_532 dL_law_534 dL_law_535 dL_law_536 ?_
  refine lv_aload_n hx hb dL_law_537 rfl (lv_at hl 3 rfl) ?_
  refine vx_calliN (vx_runSX (As := [.ref (adC 0), .int x1, .ref o]) (rest := []) ⟨hx, hb, hml, hown, hts⟩ hM (vx_cwSW 3 hts gL_law_L_without rfl rfl rfl (by decide +kernel) ⟨Nat.le_of_ble_eq_true rfl, Nat.le_of_ble_eq_true rfl⟩) ⟨Wo.blind, fun U hU hW => ⟨rfl, Wo.go hP hK1 hD hN hZ hTh hTw (Lp.sc hS _) hPo hK3 hAo hNx hU hW⟩⟩ rfl rfl hl.1 rfl (lv_room (Nat.le_of_ble_eq_true rfl)) dL_law_538 ⟨by omega, by omega⟩) hS (fun q _ h => h.1) (fun q h => h.1) (fun r1 u1 t1 H1 locs1 ht1 hp1 hB1 hk1 hS1 => ?_)
  have h1 := h.wrap hk1 ht1 hB1 hS1
  clear hB1 hk1 hS1 hP hD hPm hDm hPo hS
  obtain ⟨hP1, hD1, hPm1, hDm1, hPo1, hS1⟩ := id h1
  refine lv_istore hx hb dL_law_541 hl (by decide) rfl (fun ls1 hl1 => ?_)
  have hl1 : lv_has ls1 7 [(5, .int r1), (0, .ref b), (1, .ref (adC 0)), (2, .ref (adM 0)), (3, .ref o), (4, .int (nI i))] := hl1
  refine lv_aload_n hx hb dL_law_543 rfl (lv_at hl1 3 rfl) ?_
  refine n_arg (v := x1) hx hb hX hbl hS1 (lv_at hl1 1 rfl) (lv_at hl1 5 rfl) (j := 1) (by decide) (by omega) hL hx1 dL_law_544 dL_law_545 dL_law_547 dL_law_548 dL_law_549 ?_
  refine va_calli (va_runV (As := [.int x1]) (rest := []) ⟨hx, hb, hml, hown, hts⟩ hM5 (cwV 1 hts gL_law_X5_without rfl hr0 hr1 (by decide +kernel) ⟨Nat.le_trans (Nat.succ_le_succ hr2.1) (Nat.le_of_ble_eq_true rfl), Nat.le_trans (Nat.add_le_add_left hr2.2 _) (Nat.le_of_ble_eq_true rfl)⟩) ⟨Wm.blind, va_recv hK2 hPm1 (ci := 4) (q0 := 0) rfl rfl, fun U hU hW => ⟨rfl, Wm.go hPm1 hK2 hDm1 hU hW⟩⟩ rfl rfl hl1.1 rfl (lv_room (Nat.le_of_ble_eq_true rfl)) dL_law_550 ⟨by omega, by omega⟩) hS1 (fun q _ h => hAM q h) (fun q h => hAM q h) (fun r2 τ1 t2 H2 locs2 ht2 hvm2 hp2 hB2 hz2 hk2 hS2 => ?_)
  obtain ⟨hPm2, -, hDm2⟩ := hB2
  rw [ht2] at hPm2
  have h2 := h1.model hAo hk2 hPm2 hDm2 hS2
  obtain ⟨hI2, hq1, hq2, b2, rfl⟩ := hq r1 u1 r2 τ1 hp1 hp2
  refine lv_istore hx hb dL_law_553 hl1 (by decide) rfl (fun ls2 hl2 => ?_)
  exact t_endz (cells := cells + 1) (slots := slots + 6) C h2 hI2 hl2 hc hs hq1 hq2 dL_law_555 dL_law_556 dL_law_559 dL_law_561 dL_law_566 dL_law_568 dL_law_571 dL_law_572 dL_law_573 dL_law_574 dL_law_576 dL_law_579 dL_law_580 dL_law_583 dL_law_584 dL_law_585 dL_law_590 (by decide) k
set_option maxHeartbeats 4000000 in
set_option maxRecDepth 100000 in
theorem op_same {p : Program} {l : Launch} {e : Env} {s : State} {m : MethodId} {args : Array Value} {below : List Frame} {meth : Method} {c : Code} {H : Heap} {locs : List Loc} {cells slots : Nat} {Q : State → Prop} {D : va_G} {cI cZ cL : ClassId} {AM : Nat → Prop} {adC adM : Nat → Nat} {o b L i : Nat} {xs : Nat → Int32} {σ τ : Nat → Nat → Nat} {f : Nat → Int64} {ls : Array Slot} {x1 : Int32} {x2 : Int32} {rm : Room} {post : Int32 → (Nat → Nat → Nat) × (Nat → Int64) → Prop} {post5 : Int32 → (Nat → Nat → Nat) → Prop} (C : Lw p l s m args c D cI cZ cL AM o b L xs) (h : Lp s D cI cZ cL AM adC adM o σ τ f H locs) (hl : lv_has ls 7 [(0, .ref b), (1, .ref (adC 0)), (2, .ref (adM 0)), (3, .ref o), (4, .int (nI i))]) (hiL : i + 4 ≤ L) (hL : L ≤ 2048) (hc : cells + 1 ≤ room_1.cells) (hs : slots + 6 ≤ room_1.slots) (hx1 : xs (i + 1) = x1) (hx2 : xs (i + 2) = x2)
    (hM : vx_Met l yL_same wsL_same rL (va_Pc [.ref (adC 0), .int x1, .int x2, .ref o] (Wo D cI cL (AW s.heap.size AM) adC σ o f)) (va_Qi post (Bo D cI cL (AW s.heap.size AM) adC o) (AW s.heap.size AM)) (fun _ _ _ => False) 1 6 (AW s.heap.size AM))
    (hM5 : Met l yX5_same wsX5_same rm (va_Pc [.ref (adM 0), .int x1, .int x2] (Wm D cI cZ AM adM τ)) (va_Qi post5 (fun u t => Wm D cI cZ AM adM u t) AM) 0 0 AM) (hr0 : rm.cells = 0) (hr1 : rm.slots = 0) (hr2 : rm.frames ≤ 20 ∧ rm.locals ≤ 600)
    (hq : ∀ r1 u r2 τ1, post r1 u → post5 r2 τ1 → IR u.1 τ1 ∧ r1 = nI (τ1 0 0) ∧ (r1 = 0 → u.2 0 = r2.toInt64)) (k : Kt p l e s m args below meth c Q D cI cZ cL AM adC adM o b i (cells + 1) (slots + 6)) : W p l e room_1 s m args below meth c H locs cells slots Q (F0 m 593 ls []) := by
  obtain ⟨hx, hb, hml, hown, hts, hK, hN, hZ, hTh, hTw, hNx, hX, hbl, hlt, hAM, hAo⟩ := id C
  obtain ⟨hP, hD, hPm, hDm, hPo, hS⟩ := id h
  have hK1 : va_K D vwCl [(cI, .int)] s := hK.sub [0] rfl
  have hK2 : va_K D vwCl [(cI, .int), (cZ, .boolean)] s := hK.sub [0, 1] rfl
  have hK3 : va_K D vwCl [(cI, .int), (cL, .long)] s := hK.sub [0, 2] rfl
  have hKo : va_K D vwCl [(cL, .long)] s := hK.sub [2] rfl
  refine lv_aload_n hx hb dL_law_593 rfl (lv_at hl 1 rfl) ?_
  refine n_arg (v := x1) hx hb hX hbl hS (lv_at hl 0 rfl) (lv_at hl 4 rfl) (j := 1) (by decide) (by omega) hL hx1 dL_law_594 dL_law_595 dL_law_597 dL_law_598 dL_law_599 ?_
  refine n_arg (v := x2) hx hb hX hbl hS (lv_at hl 0 rfl) (lv_at hl 4 rfl) (j := 2) (by decide) (by omega) hL hx2 dL_law_600 dL_law_601 dL_law_603 dL_law_604 dL_law_605 ?_
  refine lv_aload_n hx hb dL_law_606 rfl (lv_at hl 3 rfl) ?_
  refine vx_calliN (vx_runSX (As := [.ref (adC 0), .int x1, .int x2, .ref o]) (rest := []) ⟨hx, hb, hml, hown, hts⟩ hM (vx_cwSW 4 hts gL_law_L_same rfl rfl rfl (by decide +kernel) ⟨Nat.le_of_ble_eq_true rfl, Nat.le_of_ble_eq_true rfl⟩) ⟨Wo.blind, fun U hU hW => ⟨rfl, Wo.go hP hK1 hD hN hZ hTh hTw (Lp.sc hS _) hPo hK3 hAo hNx hU hW⟩⟩ rfl rfl hl.1 rfl (lv_room (Nat.le_of_ble_eq_true rfl)) dL_law_607 ⟨by omega, by omega⟩) hS (fun q _ h => h.1) (fun q h => h.1) (fun r1 u1 t1 H1 locs1 ht1 hp1 hB1 hk1 hS1 => ?_)
  have h1 := h.wrap hk1 ht1 hB1 hS1
  clear hB1 hk1 hS1 hP hD hPm hDm hPo hS
  obtain ⟨hP1, hD1, hPm1, hDm1, hPo1, hS1⟩ := id h1
  refine lv_istore hx hb dL_law_610 hl (by decide) rfl (fun ls1 hl1 => ?_)
  have hl1 : lv_has ls1 7 [(5, .int r1), (0, .ref b), (1, .ref (adC 0)), (2, .ref (adM 0)), (3, .ref o), (4, .int (nI i))] := hl1
  refine lv_aload_n hx hb dL_law_612 rfl (lv_at hl1 3 rfl) ?_
  refine n_arg (v := x1) hx hb hX hbl hS1 (lv_at hl1 1 rfl) (lv_at hl1 5 rfl) (j := 1) (by decide) (by omega) hL hx1 dL_law_613 dL_law_614 dL_law_616 dL_law_617 dL_law_618 ?_
  refine n_arg (v := x2) hx hb hX hbl hS1 (lv_at hl1 1 rfl) (lv_at hl1 5 rfl) (j := 2) (by decide) (by omega) hL hx2 dL_law_619 dL_law_620 dL_law_622 dL_law_623 dL_law_624 ?_
  refine va_calli (va_runV (As := [.int x1, .int x2]) (rest := []) ⟨hx, hb, hml, hown, hts⟩ hM5 (cwV 2 hts gL_law_X5_same rfl hr0 hr1 (by decide +kernel) ⟨Nat.le_trans (Nat.succ_le_succ hr2.1) (Nat.le_of_ble_eq_true rfl), Nat.le_trans (Nat.add_le_add_left hr2.2 _) (Nat.le_of_ble_eq_true rfl)⟩) ⟨Wm.blind, va_recv hK2 hPm1 (ci := 4) (q0 := 0) rfl rfl, fun U hU hW => ⟨rfl, Wm.go hPm1 hK2 hDm1 hU hW⟩⟩ rfl rfl hl1.1 rfl (lv_room (Nat.le_of_ble_eq_true rfl)) dL_law_625 ⟨by omega, by omega⟩) hS1 (fun q _ h => hAM q h) (fun q h => hAM q h) (fun r2 τ1 t2 H2 locs2 ht2 hvm2 hp2 hB2 hz2 hk2 hS2 => ?_)
  obtain ⟨hPm2, -, hDm2⟩ := hB2
  rw [ht2] at hPm2
  have h2 := h1.model hAo hk2 hPm2 hDm2 hS2
  obtain ⟨hI2, hq1, hq2⟩ := hq r1 u1 r2 τ1 hp1 hp2
  refine lv_istore hx hb dL_law_628 hl1 (by decide) rfl (fun ls2 hl2 => ?_)
  exact t_endi (cells := cells + 1) (slots := slots + 6) C h2 hI2 hl2 hc hs hq1 hq2 dL_law_630 dL_law_631 dL_law_634 dL_law_636 dL_law_641 dL_law_643 dL_law_646 dL_law_647 dL_law_648 dL_law_649 dL_law_651 dL_law_652 dL_law_653 dL_law_658 (by decide) k
set_option maxHeartbeats 4000000 in
set_option maxRecDepth 100000 in
theorem op_follows {p : Program} {l : Launch} {e : Env} {s : State} {m : MethodId} {args : Array Value} {below : List Frame} {meth : Method} {c : Code} {H : Heap} {locs : List Loc} {cells slots : Nat} {Q : State → Prop} {D : va_G} {cI cZ cL : ClassId} {AM : Nat → Prop} {adC adM : Nat → Nat} {o b L i : Nat} {xs : Nat → Int32} {σ τ : Nat → Nat → Nat} {f : Nat → Int64} {ls : Array Slot} {rm : Room} {post : Int32 → (Nat → Nat → Nat) × (Nat → Int64) → Prop} {post5 : Int32 → (Nat → Nat → Nat) → Prop} (C : Lw p l s m args c D cI cZ cL AM o b L xs) (h : Lp s D cI cZ cL AM adC adM o σ τ f H locs) (hl : lv_has ls 7 [(0, .ref b), (1, .ref (adC 0)), (2, .ref (adM 0)), (3, .ref o), (4, .int (nI i))]) (hiL : i + 4 ≤ L) (hL : L ≤ 2048) (hc : cells + 1 ≤ room_1.cells) (hs : slots + 6 ≤ room_1.slots)
    (hM : vx_Met l yL_follows wsL_follows rL (va_Pc [.ref (adC 0), .ref o] (Wo D cI cL (AW s.heap.size AM) adC σ o f)) (va_Qi post (Bo D cI cL (AW s.heap.size AM) adC o) (AW s.heap.size AM)) (fun _ _ _ => False) 1 6 (AW s.heap.size AM))
    (hM5 : Met l yX5_follows wsX5_follows rm (va_Pc [.ref (adM 0)] (Wm D cI cZ AM adM τ)) (va_Qi post5 (fun u t => Wm D cI cZ AM adM u t) AM) 0 0 AM) (hr0 : rm.cells = 0) (hr1 : rm.slots = 0) (hr2 : rm.frames ≤ 20 ∧ rm.locals ≤ 600)
    (hq : ∀ r1 u r2 τ1, post r1 u → post5 r2 τ1 → IR u.1 τ1 ∧ r1 = nI (τ1 0 0) ∧ (r1 = 0 → u.2 0 = r2.toInt64) ∧ ∃ b2, r2 = bI b2) (k : Kt p l e s m args below meth c Q D cI cZ cL AM adC adM o b i (cells + 1) (slots + 6)) : W p l e room_1 s m args below meth c H locs cells slots Q (F0 m 661 ls []) := by
  obtain ⟨hx, hb, hml, hown, hts, hK, hN, hZ, hTh, hTw, hNx, hX, hbl, hlt, hAM, hAo⟩ := id C
  obtain ⟨hP, hD, hPm, hDm, hPo, hS⟩ := id h
  have hK1 : va_K D vwCl [(cI, .int)] s := hK.sub [0] rfl
  have hK2 : va_K D vwCl [(cI, .int), (cZ, .boolean)] s := hK.sub [0, 1] rfl
  have hK3 : va_K D vwCl [(cI, .int), (cL, .long)] s := hK.sub [0, 2] rfl
  have hKo : va_K D vwCl [(cL, .long)] s := hK.sub [2] rfl
  refine lv_aload_n hx hb dL_law_661 rfl (lv_at hl 1 rfl) ?_
  refine lv_aload_n hx hb dL_law_662 rfl (lv_at hl 3 rfl) ?_
  refine vx_calliN (vx_runSX (As := [.ref (adC 0), .ref o]) (rest := []) ⟨hx, hb, hml, hown, hts⟩ hM (vx_cwSW 2 hts gL_law_L_follows rfl rfl rfl (by decide +kernel) ⟨Nat.le_of_ble_eq_true rfl, Nat.le_of_ble_eq_true rfl⟩) ⟨Wo.blind, fun U hU hW => ⟨rfl, Wo.go hP hK1 hD hN hZ hTh hTw (Lp.sc hS _) hPo hK3 hAo hNx hU hW⟩⟩ rfl rfl hl.1 rfl (lv_room (Nat.le_of_ble_eq_true rfl)) dL_law_663 ⟨by omega, by omega⟩) hS (fun q _ h => h.1) (fun q h => h.1) (fun r1 u1 t1 H1 locs1 ht1 hp1 hB1 hk1 hS1 => ?_)
  have h1 := h.wrap hk1 ht1 hB1 hS1
  clear hB1 hk1 hS1 hP hD hPm hDm hPo hS
  obtain ⟨hP1, hD1, hPm1, hDm1, hPo1, hS1⟩ := id h1
  refine lv_istore hx hb dL_law_666 hl (by decide) rfl (fun ls1 hl1 => ?_)
  have hl1 : lv_has ls1 7 [(5, .int r1), (0, .ref b), (1, .ref (adC 0)), (2, .ref (adM 0)), (3, .ref o), (4, .int (nI i))] := hl1
  refine lv_aload_n hx hb dL_law_668 rfl (lv_at hl1 3 rfl) ?_
  refine va_calli (va_runV (As := []) (rest := []) ⟨hx, hb, hml, hown, hts⟩ hM5 (cwV 0 hts gL_law_X5_follows rfl hr0 hr1 (by decide +kernel) ⟨Nat.le_trans (Nat.succ_le_succ hr2.1) (Nat.le_of_ble_eq_true rfl), Nat.le_trans (Nat.add_le_add_left hr2.2 _) (Nat.le_of_ble_eq_true rfl)⟩) ⟨Wm.blind, va_recv hK2 hPm1 (ci := 4) (q0 := 0) rfl rfl, fun U hU hW => ⟨rfl, Wm.go hPm1 hK2 hDm1 hU hW⟩⟩ rfl rfl hl1.1 rfl (lv_room (Nat.le_of_ble_eq_true rfl)) dL_law_669 ⟨by omega, by omega⟩) hS1 (fun q _ h => hAM q h) (fun q h => hAM q h) (fun r2 τ1 t2 H2 locs2 ht2 hvm2 hp2 hB2 hz2 hk2 hS2 => ?_)
  obtain ⟨hPm2, -, hDm2⟩ := hB2
  rw [ht2] at hPm2
  have h2 := h1.model hAo hk2 hPm2 hDm2 hS2
  obtain ⟨hI2, hq1, hq2, b2, rfl⟩ := hq r1 u1 r2 τ1 hp1 hp2
  refine lv_istore hx hb dL_law_672 hl1 (by decide) rfl (fun ls2 hl2 => ?_)
  exact t_endz (cells := cells + 1) (slots := slots + 6) C h2 hI2 hl2 hc hs hq1 hq2 dL_law_674 dL_law_675 dL_law_678 dL_law_680 dL_law_685 dL_law_687 dL_law_690 dL_law_691 dL_law_692 dL_law_693 dL_law_695 dL_law_698 dL_law_699 dL_law_702 dL_law_703 dL_law_704 dL_law_709 (by decide) k
set_option maxHeartbeats 4000000 in
set_option maxRecDepth 100000 in
theorem op_apart {p : Program} {l : Launch} {e : Env} {s : State} {m : MethodId} {args : Array Value} {below : List Frame} {meth : Method} {c : Code} {H : Heap} {locs : List Loc} {cells slots : Nat} {Q : State → Prop} {D : va_G} {cI cZ cL : ClassId} {AM : Nat → Prop} {adC adM : Nat → Nat} {o b L i : Nat} {xs : Nat → Int32} {σ τ : Nat → Nat → Nat} {f : Nat → Int64} {ls : Array Slot} {b1 : Bool} {rm : Room} {post : Int32 → (Nat → Nat → Nat) × (Nat → Int64) → Prop} {post5 : Int32 → (Nat → Nat → Nat) → Prop} (C : Lw p l s m args c D cI cZ cL AM o b L xs) (h : Lp s D cI cZ cL AM adC adM o σ τ f H locs) (hl : lv_has ls 7 [(0, .ref b), (1, .ref (adC 0)), (2, .ref (adM 0)), (3, .ref o), (4, .int (nI i))]) (hiL : i + 4 ≤ L) (hL : L ≤ 2048) (hc : cells + 1 ≤ room_1.cells) (hs : slots + 6 ≤ room_1.slots) (hx1 : xs (i + 1) = 0 ↔ b1 = false)
    (hM : vx_Met l yL_apart wsL_apart rL (va_Pc [.ref (adC 0), .int (bI b1), .ref o] (Wo D cI cL (AW s.heap.size AM) adC σ o f)) (va_Qi post (Bo D cI cL (AW s.heap.size AM) adC o) (AW s.heap.size AM)) (fun _ _ _ => False) 1 6 (AW s.heap.size AM))
    (hM5 : Met l yX5_apart wsX5_apart rm (va_Pc [.ref (adM 0), .int (bI b1)] (Wm D cI cZ AM adM τ)) (va_Qi post5 (fun u t => Wm D cI cZ AM adM u t) AM) 0 0 AM) (hr0 : rm.cells = 0) (hr1 : rm.slots = 0) (hr2 : rm.frames ≤ 20 ∧ rm.locals ≤ 600)
    (hq : ∀ r1 u r2 τ1, post r1 u → post5 r2 τ1 → IR u.1 τ1 ∧ r1 = nI (τ1 0 0) ∧ (r1 = 0 → u.2 0 = r2.toInt64)) (k : Kt p l e s m args below meth c Q D cI cZ cL AM adC adM o b i (cells + 1) (slots + 6)) : W p l e room_1 s m args below meth c H locs cells slots Q (F0 m 712 ls []) := by
  obtain ⟨hx, hb, hml, hown, hts, hK, hN, hZ, hTh, hTw, hNx, hX, hbl, hlt, hAM, hAo⟩ := id C
  obtain ⟨hP, hD, hPm, hDm, hPo, hS⟩ := id h
  have hK1 : va_K D vwCl [(cI, .int)] s := hK.sub [0] rfl
  have hK2 : va_K D vwCl [(cI, .int), (cZ, .boolean)] s := hK.sub [0, 1] rfl
  have hK3 : va_K D vwCl [(cI, .int), (cL, .long)] s := hK.sub [0, 2] rfl
  have hKo : va_K D vwCl [(cL, .long)] s := hK.sub [2] rfl
  refine lv_aload_n hx hb dL_law_712 rfl (lv_at hl 1 rfl) ?_
  refine n_arg (v := _) hx hb hX hbl hS (lv_at hl 0 rfl) (lv_at hl 4 rfl) (j := 1) (by decide) (by omega) hL rfl dL_law_713 dL_law_714 dL_law_716 dL_law_717 dL_law_718 ?_
  refine n_flag hx hb hx1 dL_law_719 dL_law_722 dL_law_723 dL_law_726 ?_
  refine lv_aload_n hx hb dL_law_727 rfl (lv_at hl 3 rfl) ?_
  refine vx_calliN (vx_runSX (As := [.ref (adC 0), .int (bI b1), .ref o]) (rest := []) ⟨hx, hb, hml, hown, hts⟩ hM (vx_cwSW 3 hts gL_law_L_apart rfl rfl rfl (by decide +kernel) ⟨Nat.le_of_ble_eq_true rfl, Nat.le_of_ble_eq_true rfl⟩) ⟨Wo.blind, fun U hU hW => ⟨rfl, Wo.go hP hK1 hD hN hZ hTh hTw (Lp.sc hS _) hPo hK3 hAo hNx hU hW⟩⟩ rfl rfl hl.1 rfl (lv_room (Nat.le_of_ble_eq_true rfl)) dL_law_728 ⟨by omega, by omega⟩) hS (fun q _ h => h.1) (fun q h => h.1) (fun r1 u1 t1 H1 locs1 ht1 hp1 hB1 hk1 hS1 => ?_)
  have h1 := h.wrap hk1 ht1 hB1 hS1
  clear hB1 hk1 hS1 hP hD hPm hDm hPo hS
  obtain ⟨hP1, hD1, hPm1, hDm1, hPo1, hS1⟩ := id h1
  refine lv_istore hx hb dL_law_731 hl (by decide) rfl (fun ls1 hl1 => ?_)
  have hl1 : lv_has ls1 7 [(5, .int r1), (0, .ref b), (1, .ref (adC 0)), (2, .ref (adM 0)), (3, .ref o), (4, .int (nI i))] := hl1
  refine lv_aload_n hx hb dL_law_733 rfl (lv_at hl1 3 rfl) ?_
  refine n_arg (v := _) hx hb hX hbl hS1 (lv_at hl1 1 rfl) (lv_at hl1 5 rfl) (j := 1) (by decide) (by omega) hL rfl dL_law_734 dL_law_735 dL_law_737 dL_law_738 dL_law_739 ?_
  refine n_flag hx hb hx1 dL_law_740 dL_law_743 dL_law_744 dL_law_747 ?_
  refine va_calli (va_runV (As := [.int (bI b1)]) (rest := []) ⟨hx, hb, hml, hown, hts⟩ hM5 (cwV 1 hts gL_law_X5_apart rfl hr0 hr1 (by decide +kernel) ⟨Nat.le_trans (Nat.succ_le_succ hr2.1) (Nat.le_of_ble_eq_true rfl), Nat.le_trans (Nat.add_le_add_left hr2.2 _) (Nat.le_of_ble_eq_true rfl)⟩) ⟨Wm.blind, va_recv hK2 hPm1 (ci := 4) (q0 := 0) rfl rfl, fun U hU hW => ⟨rfl, Wm.go hPm1 hK2 hDm1 hU hW⟩⟩ rfl rfl hl1.1 rfl (lv_room (Nat.le_of_ble_eq_true rfl)) dL_law_748 ⟨by omega, by omega⟩) hS1 (fun q _ h => hAM q h) (fun q h => hAM q h) (fun r2 τ1 t2 H2 locs2 ht2 hvm2 hp2 hB2 hz2 hk2 hS2 => ?_)
  obtain ⟨hPm2, -, hDm2⟩ := hB2
  rw [ht2] at hPm2
  have h2 := h1.model hAo hk2 hPm2 hDm2 hS2
  obtain ⟨hI2, hq1, hq2⟩ := hq r1 u1 r2 τ1 hp1 hp2
  refine lv_istore hx hb dL_law_751 hl1 (by decide) rfl (fun ls2 hl2 => ?_)
  exact t_endi (cells := cells + 1) (slots := slots + 6) C h2 hI2 hl2 hc hs hq1 hq2 dL_law_753 dL_law_754 dL_law_757 dL_law_759 dL_law_764 dL_law_766 dL_law_769 dL_law_770 dL_law_771 dL_law_772 dL_law_774 dL_law_775 dL_law_776 dL_law_781 (by decide) k
