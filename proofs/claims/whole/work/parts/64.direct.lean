set_option maxHeartbeats 4000000 in
set_option maxRecDepth 100000 in
theorem st_terms {p : Program} {l : Launch} {e : Env} {s : State} {m : MethodId} {args : Array Value} {below : List Frame} {meth : Method} {c : Code} {H : Heap} {locs : List Loc} {cells slots : Nat} {Q : State → Prop} {D : va_G} {cI cZ cL : ClassId} {AM : Nat → Prop} {adC adM : Nat → Nat} {o b L i : Nat} {xs : Nat → Int32} {σ τ : Nat → Nat → Nat} {f : Nat → Int64} {ls : Array Slot}  (C : Lw p l s m args c D cI cZ cL AM o b L xs) (h : Lp s D cI cZ cL AM adC adM o σ τ f H locs) (hI : IR σ τ) (hl : lv_has ls 7 [(0, .ref b), (1, .ref (adC 0)), (2, .ref (adM 0)), (3, .ref o), (4, .int (nI i))]) (hiL : i + 4 ≤ L) (hL : L ≤ 2048) (hc : cells + 1 ≤ room_1.cells) (hs : slots + 6 ≤ room_1.slots)  (k : Kt p l e s m args below meth c Q D cI cZ cL AM adC adM o b i (cells + 1) (slots + 6)) : W p l e room_1 s m args below meth c H locs cells slots Q (F0 m 264 ls []) := by
  obtain ⟨hx, hb, hml, hown, hts, hK, hN, hZ, hTh, hTw, hNx, hX, hbl, hlt, hAM, hAo⟩ := id C
  obtain ⟨hP, hD, hPm, hDm, hPo, hS⟩ := id h
  have hK1 : va_K D vwCl [(cI, .int)] s := hK.sub [0] rfl
  have hK2 : va_K D vwCl [(cI, .int), (cZ, .boolean)] s := hK.sub [0, 1] rfl
  have hK3 : va_K D vwCl [(cI, .int), (cL, .long)] s := hK.sub [0, 2] rfl
  have hKo : va_K D vwCl [(cL, .long)] s := hK.sub [2] rfl
  refine lv_aload_n hx hb dL_law_264 rfl (lv_at hl 1 rfl) ?_
  refine vp_callSi (va_Run.run (va_runV (As := []) (rest := []) ⟨hx, hb, hml, hown, hts⟩ (c_X4_terms l D cI (Ao (AW s.heap.size AM) o) adC σ ) (cwV 0 hts gL_law_X4_terms rfl rfl rfl (by decide +kernel) ⟨Nat.le_of_ble_eq_true rfl, Nat.le_of_ble_eq_true rfl⟩) ⟨Wc.blind, va_recv hK1 hP (ci := 3) (q0 := 0) rfl rfl, fun U hU hW => ⟨rfl, Wc.go hP hK1 hD hN hZ (Lp.sc hS _) hU hW⟩⟩ rfl rfl hl.1 rfl (lv_room (Nat.le_of_ble_eq_true rfl)) dL_law_265 ⟨by omega, by omega⟩)) (fun r1 hr1 => ?_)
  have h1 := h
  refine lv_aload_n hx hb dL_law_268 rfl (lv_at hl 2 rfl) ?_
  refine va_calli (va_runV (As := []) (rest := [.int r1]) ⟨hx, hb, hml, hown, hts⟩ (c_X5_terms l D cI cZ AM adM τ ) (cwV 0 hts gL_law_X5_terms rfl rfl rfl (by decide +kernel) ⟨Nat.le_of_ble_eq_true rfl, Nat.le_of_ble_eq_true rfl⟩) ⟨Wm.blind, va_recv hK2 hPm (ci := 4) (q0 := 0) rfl rfl, fun U hU hW => ⟨rfl, Wm.go hPm hK2 hDm hU hW⟩⟩ rfl rfl hl.1 rfl (lv_room (Nat.le_of_ble_eq_true rfl)) dL_law_269 ⟨by omega, by omega⟩) hS (fun q _ h => hAM q h) (fun q h => hAM q h) (fun r2 τ1 t2 H2 locs2 ht2 hvm2 hr2 hB2 hz2 hk2 hS2 => ?_)
  obtain ⟨hPm2, -, hDm2⟩ := hB2
  rw [ht2] at hPm2
  have h2 := h1.model hAo hk2 hPm2 hDm2 hS2
  refine q_icmp_eq hx hb (tgt := 784) Iff.rfl dL_law_272 (by decide) (fun _ => ?_) (fun z => absurd (hr1.trans (by rw [hr2.1, hI.tt.1])) z)
  exact w_widen (by omega) (by omega) (k H2 locs2 _ _ _ _ h2 (by rw [hr2.2]; exact hI.thr 0) hl)
set_option maxHeartbeats 4000000 in
set_option maxRecDepth 100000 in
theorem st_draft {p : Program} {l : Launch} {e : Env} {s : State} {m : MethodId} {args : Array Value} {below : List Frame} {meth : Method} {c : Code} {H : Heap} {locs : List Loc} {cells slots : Nat} {Q : State → Prop} {D : va_G} {cI cZ cL : ClassId} {AM : Nat → Prop} {adC adM : Nat → Nat} {o b L i : Nat} {xs : Nat → Int32} {σ τ : Nat → Nat → Nat} {f : Nat → Int64} {ls : Array Slot}  (C : Lw p l s m args c D cI cZ cL AM o b L xs) (h : Lp s D cI cZ cL AM adC adM o σ τ f H locs) (hI : IR σ τ) (hl : lv_has ls 7 [(0, .ref b), (1, .ref (adC 0)), (2, .ref (adM 0)), (3, .ref o), (4, .int (nI i))]) (hiL : i + 4 ≤ L) (hL : L ≤ 2048) (hc : cells + 1 ≤ room_1.cells) (hs : slots + 6 ≤ room_1.slots)  (k : Kt p l e s m args below meth c Q D cI cZ cL AM adC adM o b i (cells + 1) (slots + 6)) : W p l e room_1 s m args below meth c H locs cells slots Q (F0 m 398 ls []) := by
  obtain ⟨hx, hb, hml, hown, hts, hK, hN, hZ, hTh, hTw, hNx, hX, hbl, hlt, hAM, hAo⟩ := id C
  obtain ⟨hP, hD, hPm, hDm, hPo, hS⟩ := id h
  have hK1 : va_K D vwCl [(cI, .int)] s := hK.sub [0] rfl
  have hK2 : va_K D vwCl [(cI, .int), (cZ, .boolean)] s := hK.sub [0, 1] rfl
  have hK3 : va_K D vwCl [(cI, .int), (cL, .long)] s := hK.sub [0, 2] rfl
  have hKo : va_K D vwCl [(cL, .long)] s := hK.sub [2] rfl
  refine lv_aload_n hx hb dL_law_398 rfl (lv_at hl 1 rfl) ?_
  refine vp_callSi (va_Run.run (va_runV (As := []) (rest := []) ⟨hx, hb, hml, hown, hts⟩ (c_X4_draft l D cI (Ao (AW s.heap.size AM) o) adC σ ) (cwV 0 hts gL_law_X4_draft rfl rfl rfl (by decide +kernel) ⟨Nat.le_of_ble_eq_true rfl, Nat.le_of_ble_eq_true rfl⟩) ⟨Wc.blind, va_recv hK1 hP (ci := 3) (q0 := 0) rfl rfl, fun U hU hW => ⟨rfl, Wc.go hP hK1 hD hN hZ (Lp.sc hS _) hU hW⟩⟩ rfl rfl hl.1 rfl (lv_room (Nat.le_of_ble_eq_true rfl)) dL_law_399 ⟨by omega, by omega⟩)) (fun r1 hr1 => ?_)
  have h1 := h
  refine lv_aload_n hx hb dL_law_402 rfl (lv_at hl 2 rfl) ?_
  refine va_calli (va_runV (As := []) (rest := [.int r1]) ⟨hx, hb, hml, hown, hts⟩ (c_X5_draft l D cI cZ AM adM τ ) (cwV 0 hts gL_law_X5_draft rfl rfl rfl (by decide +kernel) ⟨Nat.le_of_ble_eq_true rfl, Nat.le_of_ble_eq_true rfl⟩) ⟨Wm.blind, va_recv hK2 hPm (ci := 4) (q0 := 0) rfl rfl, fun U hU hW => ⟨rfl, Wm.go hPm hK2 hDm hU hW⟩⟩ rfl rfl hl.1 rfl (lv_room (Nat.le_of_ble_eq_true rfl)) dL_law_403 ⟨by omega, by omega⟩) hS (fun q _ h => hAM q h) (fun q h => hAM q h) (fun r2 τ1 t2 H2 locs2 ht2 hvm2 hr2 hB2 hz2 hk2 hS2 => ?_)
  obtain ⟨hPm2, -, hDm2⟩ := hB2
  rw [ht2] at hPm2
  have h2 := h1.model hAo hk2 hPm2 hDm2 hS2
  refine q_icmp_eq hx hb (tgt := 784) Iff.rfl dL_law_406 (by decide) (fun _ => ?_) (fun z => absurd (hr1.trans (by rw [hr2.1, hI.dt.1])) z)
  exact w_widen (by omega) (by omega) (k H2 locs2 _ _ _ _ h2 (by rw [hr2.2]; exact hI.thr 0) hl)
set_option maxHeartbeats 4000000 in
set_option maxRecDepth 100000 in
theorem st_claims {p : Program} {l : Launch} {e : Env} {s : State} {m : MethodId} {args : Array Value} {below : List Frame} {meth : Method} {c : Code} {H : Heap} {locs : List Loc} {cells slots : Nat} {Q : State → Prop} {D : va_G} {cI cZ cL : ClassId} {AM : Nat → Prop} {adC adM : Nat → Nat} {o b L i : Nat} {xs : Nat → Int32} {σ τ : Nat → Nat → Nat} {f : Nat → Int64} {ls : Array Slot}  (C : Lw p l s m args c D cI cZ cL AM o b L xs) (h : Lp s D cI cZ cL AM adC adM o σ τ f H locs) (hI : IR σ τ) (hl : lv_has ls 7 [(0, .ref b), (1, .ref (adC 0)), (2, .ref (adM 0)), (3, .ref o), (4, .int (nI i))]) (hiL : i + 4 ≤ L) (hL : L ≤ 2048) (hc : cells + 1 ≤ room_1.cells) (hs : slots + 6 ≤ room_1.slots)  (k : Kt p l e s m args below meth c Q D cI cZ cL AM adC adM o b i (cells + 1) (slots + 6)) : W p l e room_1 s m args below meth c H locs cells slots Q (F0 m 491 ls []) := by
  obtain ⟨hx, hb, hml, hown, hts, hK, hN, hZ, hTh, hTw, hNx, hX, hbl, hlt, hAM, hAo⟩ := id C
  obtain ⟨hP, hD, hPm, hDm, hPo, hS⟩ := id h
  have hK1 : va_K D vwCl [(cI, .int)] s := hK.sub [0] rfl
  have hK2 : va_K D vwCl [(cI, .int), (cZ, .boolean)] s := hK.sub [0, 1] rfl
  have hK3 : va_K D vwCl [(cI, .int), (cL, .long)] s := hK.sub [0, 2] rfl
  have hKo : va_K D vwCl [(cL, .long)] s := hK.sub [2] rfl
  refine lv_aload_n hx hb dL_law_491 rfl (lv_at hl 1 rfl) ?_
  refine vp_callSi (va_Run.run (va_runV (As := []) (rest := []) ⟨hx, hb, hml, hown, hts⟩ (c_X4_claims l D cI (Ao (AW s.heap.size AM) o) adC σ ) (cwV 0 hts gL_law_X4_claims rfl rfl rfl (by decide +kernel) ⟨Nat.le_of_ble_eq_true rfl, Nat.le_of_ble_eq_true rfl⟩) ⟨Wc.blind, va_recv hK1 hP (ci := 3) (q0 := 0) rfl rfl, fun U hU hW => ⟨rfl, Wc.go hP hK1 hD hN hZ (Lp.sc hS _) hU hW⟩⟩ rfl rfl hl.1 rfl (lv_room (Nat.le_of_ble_eq_true rfl)) dL_law_492 ⟨by omega, by omega⟩)) (fun r1 hr1 => ?_)
  have h1 := h
  refine lv_aload_n hx hb dL_law_495 rfl (lv_at hl 2 rfl) ?_
  refine va_calli (va_runV (As := []) (rest := [.int r1]) ⟨hx, hb, hml, hown, hts⟩ (c_X5_claims l D cI cZ AM adM τ ) (cwV 0 hts gL_law_X5_claims rfl rfl rfl (by decide +kernel) ⟨Nat.le_of_ble_eq_true rfl, Nat.le_of_ble_eq_true rfl⟩) ⟨Wm.blind, va_recv hK2 hPm (ci := 4) (q0 := 0) rfl rfl, fun U hU hW => ⟨rfl, Wm.go hPm hK2 hDm hU hW⟩⟩ rfl rfl hl.1 rfl (lv_room (Nat.le_of_ble_eq_true rfl)) dL_law_496 ⟨by omega, by omega⟩) hS (fun q _ h => hAM q h) (fun q h => hAM q h) (fun r2 τ1 t2 H2 locs2 ht2 hvm2 hr2 hB2 hz2 hk2 hS2 => ?_)
  obtain ⟨hPm2, -, hDm2⟩ := hB2
  rw [ht2] at hPm2
  have h2 := h1.model hAo hk2 hPm2 hDm2 hS2
  refine q_icmp_eq hx hb (tgt := 784) Iff.rfl dL_law_499 (by decide) (fun _ => ?_) (fun z => absurd (hr1.trans (by rw [hr2.1, hI.cn])) z)
  exact w_widen (by omega) (by omega) (k H2 locs2 _ _ _ _ h2 (by rw [hr2.2]; exact hI.thr 0) hl)
set_option maxHeartbeats 4000000 in
set_option maxRecDepth 100000 in
theorem st_sort_in {p : Program} {l : Launch} {e : Env} {s : State} {m : MethodId} {args : Array Value} {below : List Frame} {meth : Method} {c : Code} {H : Heap} {locs : List Loc} {cells slots : Nat} {Q : State → Prop} {D : va_G} {cI cZ cL : ClassId} {AM : Nat → Prop} {adC adM : Nat → Nat} {o b L i : Nat} {xs : Nat → Int32} {σ τ : Nat → Nat → Nat} {f : Nat → Int64} {ls : Array Slot} {j : Nat} (C : Lw p l s m args c D cI cZ cL AM o b L xs) (h : Lp s D cI cZ cL AM adC adM o σ τ f H locs) (hI : IR σ τ) (hl : lv_has ls 7 [(0, .ref b), (1, .ref (adC 0)), (2, .ref (adM 0)), (3, .ref o), (4, .int (nI i))]) (hiL : i + 4 ≤ L) (hL : L ≤ 2048) (hc : cells + 1 ≤ room_1.cells) (hs : slots + 6 ≤ room_1.slots) (hx1 : xs (i + 1) = nI j) (hj : j < σ 0 1) (k : Kt p l e s m args below meth c Q D cI cZ cL AM adC adM o b i (cells + 1) (slots + 6)) : W p l e room_1 s m args below meth c H locs cells slots Q (F0 m 277 ls []) := by
  obtain ⟨hx, hb, hml, hown, hts, hK, hN, hZ, hTh, hTw, hNx, hX, hbl, hlt, hAM, hAo⟩ := id C
  obtain ⟨hP, hD, hPm, hDm, hPo, hS⟩ := id h
  have hK1 : va_K D vwCl [(cI, .int)] s := hK.sub [0] rfl
  have hK2 : va_K D vwCl [(cI, .int), (cZ, .boolean)] s := hK.sub [0, 1] rfl
  have hK3 : va_K D vwCl [(cI, .int), (cL, .long)] s := hK.sub [0, 2] rfl
  have hKo : va_K D vwCl [(cL, .long)] s := hK.sub [2] rfl
  refine lv_aload_n hx hb dL_law_277 rfl (lv_at hl 1 rfl) ?_
  refine n_arg (v := nI j) hx hb hX hbl hS (lv_at hl 0 rfl) (lv_at hl 4 rfl) (j := 1) (by decide) (by omega) hL hx1 dL_law_278 dL_law_279 dL_law_281 dL_law_282 dL_law_283 ?_
  refine vp_callSi (va_Run.run (va_runV (As := [.int (nI j)]) (rest := []) ⟨hx, hb, hml, hown, hts⟩ (c_X4_sort_in l D cI (Ao (AW s.heap.size AM) o) adC σ j hj hI.ic.terms.2) (cwV 1 hts gL_law_X4_sort rfl rfl rfl (by decide +kernel) ⟨Nat.le_of_ble_eq_true rfl, Nat.le_of_ble_eq_true rfl⟩) ⟨Wc.blind, va_recv hK1 hP (ci := 3) (q0 := 0) rfl rfl, fun U hU hW => ⟨rfl, Wc.go hP hK1 hD hN hZ (Lp.sc hS _) hU hW⟩⟩ rfl rfl hl.1 rfl (lv_room (Nat.le_of_ble_eq_true rfl)) dL_law_284 ⟨by omega, by omega⟩)) (fun r1 hr1 => ?_)
  have h1 := h
  refine lv_aload_n hx hb dL_law_287 rfl (lv_at hl 2 rfl) ?_
  refine n_arg (v := nI j) hx hb hX hbl hS (lv_at hl 0 rfl) (lv_at hl 4 rfl) (j := 1) (by decide) (by omega) hL hx1 dL_law_288 dL_law_289 dL_law_291 dL_law_292 dL_law_293 ?_
  refine va_calli (va_runV (As := [.int (nI j)]) (rest := [.int r1]) ⟨hx, hb, hml, hown, hts⟩ (c_X5_sort_in l D cI cZ AM adM τ j (by rw [← hI.tt.1]; exact hj) hI.im.terms.2) (cwV 1 hts gL_law_X5_sort rfl rfl rfl (by decide +kernel) ⟨Nat.le_of_ble_eq_true rfl, Nat.le_of_ble_eq_true rfl⟩) ⟨Wm.blind, va_recv hK2 hPm (ci := 4) (q0 := 0) rfl rfl, fun U hU hW => ⟨rfl, Wm.go hPm hK2 hDm hU hW⟩⟩ rfl rfl hl.1 rfl (lv_room (Nat.le_of_ble_eq_true rfl)) dL_law_294 ⟨by omega, by omega⟩) hS (fun q _ h => hAM q h) (fun q h => hAM q h) (fun r2 τ1 t2 H2 locs2 ht2 hvm2 hr2 hB2 hz2 hk2 hS2 => ?_)
  obtain ⟨hPm2, -, hDm2⟩ := hB2
  rw [ht2] at hPm2
  have h2 := h1.model hAo hk2 hPm2 hDm2 hS2
  refine q_icmp_eq hx hb (tgt := 784) Iff.rfl dL_law_297 (by decide) (fun _ => ?_) (fun z => absurd (hr1.trans (by rw [hr2.1, hI.tt.2.1 j hj])) z)
  exact w_widen (by omega) (by omega) (k H2 locs2 _ _ _ _ h2 (by rw [hr2.2]; exact hI.thr 0) hl)
set_option maxHeartbeats 4000000 in
set_option maxRecDepth 100000 in
theorem st_sort_out {p : Program} {l : Launch} {e : Env} {s : State} {m : MethodId} {args : Array Value} {below : List Frame} {meth : Method} {c : Code} {H : Heap} {locs : List Loc} {cells slots : Nat} {Q : State → Prop} {D : va_G} {cI cZ cL : ClassId} {AM : Nat → Prop} {adC adM : Nat → Nat} {o b L i : Nat} {xs : Nat → Int32} {σ τ : Nat → Nat → Nat} {f : Nat → Int64} {ls : Array Slot} {x : Int32} (C : Lw p l s m args c D cI cZ cL AM o b L xs) (h : Lp s D cI cZ cL AM adC adM o σ τ f H locs) (hI : IR σ τ) (hl : lv_has ls 7 [(0, .ref b), (1, .ref (adC 0)), (2, .ref (adM 0)), (3, .ref o), (4, .int (nI i))]) (hiL : i + 4 ≤ L) (hL : L ≤ 2048) (hc : cells + 1 ≤ room_1.cells) (hs : slots + 6 ≤ room_1.slots) (hx1 : xs (i + 1) = x) (hxo : x < 0 ∨ nI (σ 0 1) ≤ x) (k : Kt p l e s m args below meth c Q D cI cZ cL AM adC adM o b i (cells + 1) (slots + 6)) : W p l e room_1 s m args below meth c H locs cells slots Q (F0 m 277 ls []) := by
  obtain ⟨hx, hb, hml, hown, hts, hK, hN, hZ, hTh, hTw, hNx, hX, hbl, hlt, hAM, hAo⟩ := id C
  obtain ⟨hP, hD, hPm, hDm, hPo, hS⟩ := id h
  have hK1 : va_K D vwCl [(cI, .int)] s := hK.sub [0] rfl
  have hK2 : va_K D vwCl [(cI, .int), (cZ, .boolean)] s := hK.sub [0, 1] rfl
  have hK3 : va_K D vwCl [(cI, .int), (cL, .long)] s := hK.sub [0, 2] rfl
  have hKo : va_K D vwCl [(cL, .long)] s := hK.sub [2] rfl
  refine lv_aload_n hx hb dL_law_277 rfl (lv_at hl 1 rfl) ?_
  refine n_arg (v := x) hx hb hX hbl hS (lv_at hl 0 rfl) (lv_at hl 4 rfl) (j := 1) (by decide) (by omega) hL hx1 dL_law_278 dL_law_279 dL_law_281 dL_law_282 dL_law_283 ?_
  refine vp_callSi (va_Run.run (va_runV (As := [.int (x)]) (rest := []) ⟨hx, hb, hml, hown, hts⟩ (c_X4_sort_out l D cI (Ao (AW s.heap.size AM) o) adC σ x hxo) (cwV 1 hts gL_law_X4_sort rfl rfl rfl (by decide +kernel) ⟨Nat.le_of_ble_eq_true rfl, Nat.le_of_ble_eq_true rfl⟩) ⟨Wc.blind, va_recv hK1 hP (ci := 3) (q0 := 0) rfl rfl, fun U hU hW => ⟨rfl, Wc.go hP hK1 hD hN hZ (Lp.sc hS _) hU hW⟩⟩ rfl rfl hl.1 rfl (lv_room (Nat.le_of_ble_eq_true rfl)) dL_law_284 ⟨by omega, by omega⟩)) (fun r1 hr1 => ?_)
  have h1 := h
  refine lv_aload_n hx hb dL_law_287 rfl (lv_at hl 2 rfl) ?_
  refine n_arg (v := x) hx hb hX hbl hS (lv_at hl 0 rfl) (lv_at hl 4 rfl) (j := 1) (by decide) (by omega) hL hx1 dL_law_288 dL_law_289 dL_law_291 dL_law_292 dL_law_293 ?_
  refine va_calli (va_runV (As := [.int (x)]) (rest := [.int r1]) ⟨hx, hb, hml, hown, hts⟩ (c_X5_sort_out l D cI cZ AM adM τ x (by rw [← hI.tt.1]; exact hxo)) (cwV 1 hts gL_law_X5_sort rfl rfl rfl (by decide +kernel) ⟨Nat.le_of_ble_eq_true rfl, Nat.le_of_ble_eq_true rfl⟩) ⟨Wm.blind, va_recv hK2 hPm (ci := 4) (q0 := 0) rfl rfl, fun U hU hW => ⟨rfl, Wm.go hPm hK2 hDm hU hW⟩⟩ rfl rfl hl.1 rfl (lv_room (Nat.le_of_ble_eq_true rfl)) dL_law_294 ⟨by omega, by omega⟩) hS (fun q _ h => hAM q h) (fun q h => hAM q h) (fun r2 τ1 t2 H2 locs2 ht2 hvm2 hr2 hB2 hz2 hk2 hS2 => ?_)
  obtain ⟨hPm2, -, hDm2⟩ := hB2
  rw [ht2] at hPm2
  have h2 := h1.model hAo hk2 hPm2 hDm2 hS2
  refine q_icmp_eq hx hb (tgt := 784) Iff.rfl dL_law_297 (by decide) (fun _ => ?_) (fun z => absurd (hr1.trans hr2.1.symm) z)
  exact w_widen (by omega) (by omega) (k H2 locs2 _ _ _ _ h2 (by rw [hr2.2]; exact hI.thr 0) hl)
set_option maxHeartbeats 4000000 in
set_option maxRecDepth 100000 in
theorem st_keep_out {p : Program} {l : Launch} {e : Env} {s : State} {m : MethodId} {args : Array Value} {below : List Frame} {meth : Method} {c : Code} {H : Heap} {locs : List Loc} {cells slots : Nat} {Q : State → Prop} {D : va_G} {cI cZ cL : ClassId} {AM : Nat → Prop} {adC adM : Nat → Nat} {o b L i : Nat} {xs : Nat → Int32} {σ τ : Nat → Nat → Nat} {f : Nat → Int64} {ls : Array Slot} {x : Int32} (C : Lw p l s m args c D cI cZ cL AM o b L xs) (h : Lp s D cI cZ cL AM adC adM o σ τ f H locs) (hI : IR σ τ) (hl : lv_has ls 7 [(0, .ref b), (1, .ref (adC 0)), (2, .ref (adM 0)), (3, .ref o), (4, .int (nI i))]) (hiL : i + 4 ≤ L) (hL : L ≤ 2048) (hc : cells + 1 ≤ room_1.cells) (hs : slots + 6 ≤ room_1.slots) (hx1 : xs (i + 1) = x) (hxo : x < 0 ∨ ¬ x ≤ nI (σ 0 2)) (k : Kt p l e s m args below meth c Q D cI cZ cL AM adC adM o b i (cells + 1) (slots + 6)) : W p l e room_1 s m args below meth c H locs cells slots Q (F0 m 466 ls []) := by
  obtain ⟨hx, hb, hml, hown, hts, hK, hN, hZ, hTh, hTw, hNx, hX, hbl, hlt, hAM, hAo⟩ := id C
  obtain ⟨hP, hD, hPm, hDm, hPo, hS⟩ := id h
  have hK1 : va_K D vwCl [(cI, .int)] s := hK.sub [0] rfl
  have hK2 : va_K D vwCl [(cI, .int), (cZ, .boolean)] s := hK.sub [0, 1] rfl
  have hK3 : va_K D vwCl [(cI, .int), (cL, .long)] s := hK.sub [0, 2] rfl
  have hKo : va_K D vwCl [(cL, .long)] s := hK.sub [2] rfl
  refine lv_aload_n hx hb dL_law_466 rfl (lv_at hl 1 rfl) ?_
  refine n_arg (v := x) hx hb hX hbl hS (lv_at hl 0 rfl) (lv_at hl 4 rfl) (j := 1) (by decide) (by omega) hL hx1 dL_law_467 dL_law_468 dL_law_470 dL_law_471 dL_law_472 ?_
  refine vp_callSi (va_Run.run (va_runV (As := [.int (x)]) (rest := []) ⟨hx, hb, hml, hown, hts⟩ (c_X4_keep_out l D cI (Ao (AW s.heap.size AM) o) adC σ x hxo) (cwV 1 hts gL_law_X4_keep rfl rfl rfl (by decide +kernel) ⟨Nat.le_of_ble_eq_true rfl, Nat.le_of_ble_eq_true rfl⟩) ⟨Wc.blind, va_recv hK1 hP (ci := 3) (q0 := 0) rfl rfl, fun U hU hW => ⟨rfl, Wc.go hP hK1 hD hN hZ (Lp.sc hS _) hU hW⟩⟩ rfl rfl hl.1 rfl (lv_room (Nat.le_of_ble_eq_true rfl)) dL_law_473 ⟨by omega, by omega⟩)) (fun r1 hr1 => ?_)
  have h1 := h
  refine lv_aload_n hx hb dL_law_476 rfl (lv_at hl 2 rfl) ?_
  refine n_arg (v := x) hx hb hX hbl hS (lv_at hl 0 rfl) (lv_at hl 4 rfl) (j := 1) (by decide) (by omega) hL hx1 dL_law_477 dL_law_478 dL_law_480 dL_law_481 dL_law_482 ?_
  refine va_calli (va_runV (As := [.int (x)]) (rest := [.int r1]) ⟨hx, hb, hml, hown, hts⟩ (c_X5_keep_out l D cI cZ AM adM τ x (by rw [← hI.cn]; exact hxo)) (cwV 1 hts gL_law_X5_keep rfl rfl rfl (by decide +kernel) ⟨Nat.le_of_ble_eq_true rfl, Nat.le_of_ble_eq_true rfl⟩) ⟨Wm.blind, va_recv hK2 hPm (ci := 4) (q0 := 0) rfl rfl, fun U hU hW => ⟨rfl, Wm.go hPm hK2 hDm hU hW⟩⟩ rfl rfl hl.1 rfl (lv_room (Nat.le_of_ble_eq_true rfl)) dL_law_483 ⟨by omega, by omega⟩) hS (fun q _ h => hAM q h) (fun q h => hAM q h) (fun r2 τ1 t2 H2 locs2 ht2 hvm2 hr2 hB2 hz2 hk2 hS2 => ?_)
  obtain ⟨hPm2, -, hDm2⟩ := hB2
  rw [ht2] at hPm2
  have h2 := h1.model hAo hk2 hPm2 hDm2 hS2
  refine q_icmp_eq hx hb (tgt := 784) Iff.rfl dL_law_486 (by decide) (fun _ => ?_) (fun z => absurd (hr1.trans hr2.1.symm) z)
  exact w_widen (by omega) (by omega) (k H2 locs2 _ _ _ _ h2 (by rw [hr2.2]; exact hI.thr 0) hl)
set_option maxHeartbeats 4000000 in
set_option maxRecDepth 100000 in
theorem st_keep_in {p : Program} {l : Launch} {e : Env} {s : State} {m : MethodId} {args : Array Value} {below : List Frame} {meth : Method} {c : Code} {H : Heap} {locs : List Loc} {cells slots : Nat} {Q : State → Prop} {D : va_G} {cI cZ cL : ClassId} {AM : Nat → Prop} {adC adM : Nat → Nat} {o b L i : Nat} {xs : Nat → Int32} {σ τ : Nat → Nat → Nat} {f : Nat → Int64} {ls : Array Slot} {j : Nat} (C : Lw p l s m args c D cI cZ cL AM o b L xs) (h : Lp s D cI cZ cL AM adC adM o σ τ f H locs) (hI : IR σ τ) (hl : lv_has ls 7 [(0, .ref b), (1, .ref (adC 0)), (2, .ref (adM 0)), (3, .ref o), (4, .int (nI i))]) (hiL : i + 4 ≤ L) (hL : L ≤ 2048) (hc : cells + 1 ≤ room_1.cells) (hs : slots + 6 ≤ room_1.slots) (hx1 : xs (i + 1) = nI j) (hj : j ≤ σ 0 2) (k : Kt p l e s m args below meth c Q D cI cZ cL AM adC adM o b i (cells + 1) (slots + 6)) : W p l e room_1 s m args below meth c H locs cells slots Q (F0 m 466 ls []) := by
  obtain ⟨hx, hb, hml, hown, hts, hK, hN, hZ, hTh, hTw, hNx, hX, hbl, hlt, hAM, hAo⟩ := id C
  obtain ⟨hP, hD, hPm, hDm, hPo, hS⟩ := id h
  have hK1 : va_K D vwCl [(cI, .int)] s := hK.sub [0] rfl
  have hK2 : va_K D vwCl [(cI, .int), (cZ, .boolean)] s := hK.sub [0, 1] rfl
  have hK3 : va_K D vwCl [(cI, .int), (cL, .long)] s := hK.sub [0, 2] rfl
  have hKo : va_K D vwCl [(cL, .long)] s := hK.sub [2] rfl
  refine lv_aload_n hx hb dL_law_466 rfl (lv_at hl 1 rfl) ?_
  refine n_arg (v := nI j) hx hb hX hbl hS (lv_at hl 0 rfl) (lv_at hl 4 rfl) (j := 1) (by decide) (by omega) hL hx1 dL_law_467 dL_law_468 dL_law_470 dL_law_471 dL_law_472 ?_
  refine va_calli (va_runV (As := [.int (nI j)]) (rest := []) ⟨hx, hb, hml, hown, hts⟩ (c_X4_keep_in l D cI (Ao (AW s.heap.size AM) o) adC σ j hI.ic hj) (cwV 1 hts gL_law_X4_keep rfl rfl rfl (by decide +kernel) ⟨Nat.le_of_ble_eq_true rfl, Nat.le_of_ble_eq_true rfl⟩) ⟨Wc.blind, va_recv hK1 hP (ci := 3) (q0 := 0) rfl rfl, fun U hU hW => ⟨rfl, Wc.go hP hK1 hD hN hZ (Lp.sc hS _) hU hW⟩⟩ rfl rfl hl.1 rfl (lv_room (Nat.le_of_ble_eq_true rfl)) dL_law_473 ⟨by omega, by omega⟩) hS (fun q _ h => h.1.1) (fun q h => h.1.1) (fun r1 σ1 t H1 locs1 ht hvm hr1 hB hz hk hS1 => ?_)
  obtain ⟨hP1, -, hD1, -, -⟩ := hB
  rw [ht] at hP1
  have h1 := h.cls hk hP1 hD1 hS1
  clear hk hS hP hD hPm hDm hPo h
  obtain ⟨hP, hD, hPm, hDm, hPo, hS⟩ := id h1
  refine lv_aload_n hx hb dL_law_476 rfl (lv_at hl 2 rfl) ?_
  refine n_arg (v := nI j) hx hb hX hbl hS (lv_at hl 0 rfl) (lv_at hl 4 rfl) (j := 1) (by decide) (by omega) hL hx1 dL_law_477 dL_law_478 dL_law_480 dL_law_481 dL_law_482 ?_
  refine va_calli (va_runV (As := [.int (nI j)]) (rest := [.int r1]) ⟨hx, hb, hml, hown, hts⟩ (c_X5_keep_in l D cI cZ AM adM τ j (by rw [← hI.cn]; exact hj) hI.im.claims) (cwV 1 hts gL_law_X5_keep rfl rfl rfl (by decide +kernel) ⟨Nat.le_of_ble_eq_true rfl, Nat.le_of_ble_eq_true rfl⟩) ⟨Wm.blind, va_recv hK2 hPm (ci := 4) (q0 := 0) rfl rfl, fun U hU hW => ⟨rfl, Wm.go hPm hK2 hDm hU hW⟩⟩ rfl rfl hl.1 rfl (lv_room (Nat.le_of_ble_eq_true rfl)) dL_law_483 ⟨by omega, by omega⟩) hS (fun q _ h => hAM q h) (fun q h => hAM q h) (fun r2 τ1 t2 H2 locs2 ht2 hvm2 hr2 hB2 hz2 hk2 hS2 => ?_)
  obtain ⟨hPm2, -, hDm2⟩ := hB2
  rw [ht2] at hPm2
  have h2 := h1.model hAo hk2 hPm2 hDm2 hS2
  refine q_icmp_eq hx hb (tgt := 784) Iff.rfl dL_law_486 (by decide) (fun _ => ?_) (fun z => absurd (hr1.1.trans hr2.1.symm) z)
  exact w_widen (by omega) (by omega) (k H2 locs2 _ _ _ _ h2 (by rw [hr1.2, hr2.2]; exact hI.keep hj) hl)
set_option maxHeartbeats 4000000 in
set_option maxRecDepth 100000 in
theorem st_clear {p : Program} {l : Launch} {e : Env} {s : State} {m : MethodId} {args : Array Value} {below : List Frame} {meth : Method} {c : Code} {H : Heap} {locs : List Loc} {cells slots : Nat} {Q : State → Prop} {D : va_G} {cI cZ cL : ClassId} {AM : Nat → Prop} {adC adM : Nat → Nat} {o b L i : Nat} {xs : Nat → Int32} {σ τ : Nat → Nat → Nat} {f : Nat → Int64} {ls : Array Slot}  (C : Lw p l s m args c D cI cZ cL AM o b L xs) (h : Lp s D cI cZ cL AM adC adM o σ τ f H locs) (hI : IR σ τ) (hl : lv_has ls 7 [(0, .ref b), (1, .ref (adC 0)), (2, .ref (adM 0)), (3, .ref o), (4, .int (nI i))]) (hiL : i + 4 ≤ L) (hL : L ≤ 2048) (hc : cells + 1 ≤ room_1.cells) (hs : slots + 6 ≤ room_1.slots)  (k : Kt p l e s m args below meth c Q D cI cZ cL AM adC adM o b i (cells + 1) (slots + 6)) : W p l e room_1 s m args below meth c H locs cells slots Q (F0 m 411 ls []) := by
  obtain ⟨hx, hb, hml, hown, hts, hK, hN, hZ, hTh, hTw, hNx, hX, hbl, hlt, hAM, hAo⟩ := id C
  obtain ⟨hP, hD, hPm, hDm, hPo, hS⟩ := id h
  have hK1 : va_K D vwCl [(cI, .int)] s := hK.sub [0] rfl
  have hK2 : va_K D vwCl [(cI, .int), (cZ, .boolean)] s := hK.sub [0, 1] rfl
  have hK3 : va_K D vwCl [(cI, .int), (cL, .long)] s := hK.sub [0, 2] rfl
  have hKo : va_K D vwCl [(cL, .long)] s := hK.sub [2] rfl
  refine lv_aload_n hx hb dL_law_411 rfl (lv_at hl 1 rfl) ?_
  refine va_callv (va_runV (As := []) (rest := []) ⟨hx, hb, hml, hown, hts⟩ (c_X4_clear l D cI (Ao (AW s.heap.size AM) o) adC σ ) (cwV 0 hts gL_law_X4_clear rfl rfl rfl (by decide +kernel) ⟨Nat.le_of_ble_eq_true rfl, Nat.le_of_ble_eq_true rfl⟩) ⟨Wc.blind, va_recv hK1 hP (ci := 3) (q0 := 0) rfl rfl, fun U hU hW => ⟨rfl, Wc.go hP hK1 hD hN hZ (Lp.sc hS _) hU hW⟩⟩ rfl rfl hl.1 rfl (lv_room (Nat.le_of_ble_eq_true rfl)) dL_law_412 ⟨by omega, by omega⟩) hS (fun q _ h => h.1.1) (fun q h => h.1.1) (fun  σ1 t H1 locs1 ht hvm hr1 hB hz hk hS1 => ?_)
  obtain ⟨hP1, -, hD1, -, -⟩ := hB
  rw [ht] at hP1
  have h1 := h.cls hk hP1 hD1 hS1
  clear hk hS hP hD hPm hDm hPo h
  obtain ⟨hP, hD, hPm, hDm, hPo, hS⟩ := id h1
  refine lv_aload_n hx hb dL_law_415 rfl (lv_at hl 2 rfl) ?_
  refine va_callv (va_runV (As := []) (rest := []) ⟨hx, hb, hml, hown, hts⟩ (c_X5_clear l D cI cZ AM adM τ ) (cwV 0 hts gL_law_X5_clear rfl rfl rfl (by decide +kernel) ⟨Nat.le_of_ble_eq_true rfl, Nat.le_of_ble_eq_true rfl⟩) ⟨Wm.blind, va_recv hK2 hPm (ci := 4) (q0 := 0) rfl rfl, fun U hU hW => ⟨rfl, Wm.go hPm hK2 hDm hU hW⟩⟩ rfl rfl hl.1 rfl (lv_room (Nat.le_of_ble_eq_true rfl)) dL_law_416 ⟨by omega, by omega⟩) hS (fun q _ h => hAM q h) (fun q h => hAM q h) (fun  τ1 t2 H2 locs2 ht2 hvm2 hr2 hB2 hz2 hk2 hS2 => ?_)
  obtain ⟨hPm2, -, hDm2⟩ := hB2
  rw [ht2] at hPm2
  have h2 := h1.model hAo hk2 hPm2 hDm2 hS2
  refine lv_goto (tgt := 784) hx hb dL_law_419 (by decide) ?_
  exact w_widen (by omega) (by omega) (k H2 locs2 _ _ _ _ h2 (by rw [hr1, hr2]; exact hI.clear) hl)
set_option maxHeartbeats 4000000 in
set_option maxRecDepth 100000 in
theorem st_can {p : Program} {l : Launch} {e : Env} {s : State} {m : MethodId} {args : Array Value} {below : List Frame} {meth : Method} {c : Code} {H : Heap} {locs : List Loc} {cells slots : Nat} {Q : State → Prop} {D : va_G} {cI cZ cL : ClassId} {AM : Nat → Prop} {adC adM : Nat → Nat} {o b L i : Nat} {xs : Nat → Int32} {σ τ : Nat → Nat → Nat} {f : Nat → Int64} {ls : Array Slot}  (C : Lw p l s m args c D cI cZ cL AM o b L xs) (h : Lp s D cI cZ cL AM adC adM o σ τ f H locs) (hI : IR σ τ) (hl : lv_has ls 7 [(0, .ref b), (1, .ref (adC 0)), (2, .ref (adM 0)), (3, .ref o), (4, .int (nI i))]) (hiL : i + 4 ≤ L) (hL : L ≤ 2048) (hc : cells + 1 ≤ room_1.cells) (hs : slots + 6 ≤ room_1.slots)  (k : Kt p l e s m args below meth c Q D cI cZ cL AM adC adM o b i (cells + 1) (slots + 6)) : W p l e room_1 s m args below meth c H locs cells slots Q (F0 m 504 ls []) := by
  obtain ⟨hx, hb, hml, hown, hts, hK, hN, hZ, hTh, hTw, hNx, hX, hbl, hlt, hAM, hAo⟩ := id C
  obtain ⟨hP, hD, hPm, hDm, hPo, hS⟩ := id h
  have hK1 : va_K D vwCl [(cI, .int)] s := hK.sub [0] rfl
  have hK2 : va_K D vwCl [(cI, .int), (cZ, .boolean)] s := hK.sub [0, 1] rfl
  have hK3 : va_K D vwCl [(cI, .int), (cL, .long)] s := hK.sub [0, 2] rfl
  have hKo : va_K D vwCl [(cL, .long)] s := hK.sub [2] rfl
  refine lv_aload_n hx hb dL_law_504 rfl (lv_at hl 1 rfl) ?_
  refine va_calli (va_runV (As := []) (rest := []) ⟨hx, hb, hml, hown, hts⟩ (c_X4_can l D cI (Ao (AW s.heap.size AM) o) adC σ hI.ic hI.wf hI.mw) (cwV 0 hts gL_law_X4_can rfl rfl rfl (by decide +kernel) ⟨Nat.le_of_ble_eq_true rfl, Nat.le_of_ble_eq_true rfl⟩) ⟨Wc.blind, va_recv hK1 hP (ci := 3) (q0 := 0) rfl rfl, fun U hU hW => ⟨rfl, Wc.go hP hK1 hD hN hZ (Lp.sc hS _) hU hW⟩⟩ rfl rfl hl.1 rfl (lv_room (Nat.le_of_ble_eq_true rfl)) dL_law_505 ⟨by omega, by omega⟩) hS (fun q _ h => h.1.1) (fun q h => h.1.1) (fun r1 σ1 t H1 locs1 ht hvm hr1 hB hz hk hS1 => ?_)
  obtain ⟨hP1, -, hD1, -, -⟩ := hB
  rw [ht] at hP1
  have h1 := h.cls hk hP1 hD1 hS1
  clear hk hS hP hD hPm hDm hPo h
  obtain ⟨hP, hD, hPm, hDm, hPo, hS⟩ := id h1
  refine lv_aload_n hx hb dL_law_508 rfl (lv_at hl 2 rfl) ?_
  refine va_calli (va_runV (As := []) (rest := [.int r1]) ⟨hx, hb, hml, hown, hts⟩ (c_X5_can l D cI cZ AM adM τ hI.im) (cwV 0 hts gL_law_X5_can rfl rfl rfl (by decide +kernel) ⟨Nat.le_of_ble_eq_true rfl, Nat.le_of_ble_eq_true rfl⟩) ⟨Wm.blind, va_recv hK2 hPm (ci := 4) (q0 := 0) rfl rfl, fun U hU hW => ⟨rfl, Wm.go hPm hK2 hDm hU hW⟩⟩ rfl rfl hl.1 rfl (lv_room (Nat.le_of_ble_eq_true rfl)) dL_law_509 ⟨by omega, by omega⟩) hS (fun q _ h => hAM q h) (fun q h => hAM q h) (fun r2 τ1 t2 H2 locs2 ht2 hvm2 hr2 hB2 hz2 hk2 hS2 => ?_)
  obtain ⟨hPm2, -, hDm2⟩ := hB2
  rw [ht2] at hPm2
  have h2 := h1.model hAo hk2 hPm2 hDm2 hS2
  refine q_icmp_eq hx hb (tgt := 784) Iff.rfl dL_law_512 (by decide) (fun _ => ?_) (fun z => absurd (hr1.1.trans (by rw [hr2.1, hI.a_can])) z)
  exact w_widen (by omega) (by omega) (k H2 locs2 _ _ _ _ h2 (by rw [hr2.2]; exact (hI.ks hr1.2).thr 0) hl)
set_option maxHeartbeats 4000000 in
set_option maxRecDepth 100000 in
theorem st_first {p : Program} {l : Launch} {e : Env} {s : State} {m : MethodId} {args : Array Value} {below : List Frame} {meth : Method} {c : Code} {H : Heap} {locs : List Loc} {cells slots : Nat} {Q : State → Prop} {D : va_G} {cI cZ cL : ClassId} {AM : Nat → Prop} {adC adM : Nat → Nat} {o b L i : Nat} {xs : Nat → Int32} {σ τ : Nat → Nat → Nat} {f : Nat → Int64} {ls : Array Slot}  (C : Lw p l s m args c D cI cZ cL AM o b L xs) (h : Lp s D cI cZ cL AM adC adM o σ τ f H locs) (hI : IR σ τ) (hl : lv_has ls 7 [(0, .ref b), (1, .ref (adC 0)), (2, .ref (adM 0)), (3, .ref o), (4, .int (nI i))]) (hiL : i + 4 ≤ L) (hL : L ≤ 2048) (hc : cells + 1 ≤ room_1.cells) (hs : slots + 6 ≤ room_1.slots)  (k : Kt p l e s m args below meth c Q D cI cZ cL AM adC adM o b i (cells + 1) (slots + 6)) : W p l e room_1 s m args below meth c H locs cells slots Q (F0 m 517 ls []) := by
  obtain ⟨hx, hb, hml, hown, hts, hK, hN, hZ, hTh, hTw, hNx, hX, hbl, hlt, hAM, hAo⟩ := id C
  obtain ⟨hP, hD, hPm, hDm, hPo, hS⟩ := id h
  have hK1 : va_K D vwCl [(cI, .int)] s := hK.sub [0] rfl
  have hK2 : va_K D vwCl [(cI, .int), (cZ, .boolean)] s := hK.sub [0, 1] rfl
  have hK3 : va_K D vwCl [(cI, .int), (cL, .long)] s := hK.sub [0, 2] rfl
  have hKo : va_K D vwCl [(cL, .long)] s := hK.sub [2] rfl
  refine lv_aload_n hx hb dL_law_517 rfl (lv_at hl 1 rfl) ?_
  refine va_calli (va_runV (As := []) (rest := []) ⟨hx, hb, hml, hown, hts⟩ (c_X4_first l D cI (Ao (AW s.heap.size AM) o) adC σ hI.ic hI.wf hI.mw) (cwV 0 hts gL_law_X4_first rfl rfl rfl (by decide +kernel) ⟨Nat.le_of_ble_eq_true rfl, Nat.le_of_ble_eq_true rfl⟩) ⟨Wc.blind, va_recv hK1 hP (ci := 3) (q0 := 0) rfl rfl, fun U hU hW => ⟨rfl, Wc.go hP hK1 hD hN hZ (Lp.sc hS _) hU hW⟩⟩ rfl rfl hl.1 rfl (lv_room (Nat.le_of_ble_eq_true rfl)) dL_law_518 ⟨by omega, by omega⟩) hS (fun q _ h => h.1.1) (fun q h => h.1.1) (fun r1 σ1 t H1 locs1 ht hvm hr1 hB hz hk hS1 => ?_)
  obtain ⟨hP1, -, hD1, -, -⟩ := hB
  rw [ht] at hP1
  have h1 := h.cls hk hP1 hD1 hS1
  clear hk hS hP hD hPm hDm hPo h
  obtain ⟨hP, hD, hPm, hDm, hPo, hS⟩ := id h1
  refine lv_aload_n hx hb dL_law_521 rfl (lv_at hl 2 rfl) ?_
  refine va_calli (va_runV (As := []) (rest := [.int r1]) ⟨hx, hb, hml, hown, hts⟩ (c_X5_first l D cI cZ AM adM τ hI.im) (cwV 0 hts gL_law_X5_first rfl rfl rfl (by decide +kernel) ⟨Nat.le_of_ble_eq_true rfl, Nat.le_of_ble_eq_true rfl⟩) ⟨Wm.blind, va_recv hK2 hPm (ci := 4) (q0 := 0) rfl rfl, fun U hU hW => ⟨rfl, Wm.go hPm hK2 hDm hU hW⟩⟩ rfl rfl hl.1 rfl (lv_room (Nat.le_of_ble_eq_true rfl)) dL_law_522 ⟨by omega, by omega⟩) hS (fun q _ h => hAM q h) (fun q h => hAM q h) (fun r2 τ1 t2 H2 locs2 ht2 hvm2 hr2 hB2 hz2 hk2 hS2 => ?_)
  obtain ⟨hPm2, -, hDm2⟩ := hB2
  rw [ht2] at hPm2
  have h2 := h1.model hAo hk2 hPm2 hDm2 hS2
  refine q_icmp_eq hx hb (tgt := 784) Iff.rfl dL_law_525 (by decide) (fun _ => ?_) (fun z => absurd ((hI.a_first hr1.1).trans hr2.1.symm) z)
  exact w_widen (by omega) (by omega) (k H2 locs2 _ _ _ _ h2 (by rw [hr2.2]; exact (hI.ks hr1.2).thr 0) hl)
