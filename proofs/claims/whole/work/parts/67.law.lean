/-! THE CLAIM OUT OF ONE WALK OF THE LAW'S BODY. Your part is whole_start (and what it stands on); all else here is the same for every law, but numbers. -/
def R_law : String := "ArrayClaimsLaw"
def lw_P (b : Addr) (xs : List Int32) (args : Array Value) (s : State) : Prop := args = #[.ref b] ∧ s.IntsAt b xs ∧ xs.length ≤ 2048 ∧ (Jvm.Cond.and given_1 narrow_1).before args s = true
def lw_Q (_ : Array Value) (s : State) (o : Outcome) (t : State) : Prop := o = .returned (some (.int 1)) ∧ Framed s o t [] 601024 7293034
def lw_Z (below : List Frame) (a : Array Value) (s : State) : State → Prop := fun t => ∃ o, t.status = .running ∧ Ended t below o ∧ lw_Q a s o t
/-- the law's own end, with 1 on the stack, nothing written that was there before, its room as the claim has it -/
theorem lw_ret {p : Program} {l : Launch} {e : Env} {s : State} {m : MethodId} {below : List Frame} {meth : Method} {c : Code} {b : Nat} (hx : p.tables.exec = Jvm.exec) (hb : c.code = code) (hr : meth.sig.returnType = ret) (hlocks : meth.locks = false) {pc : Nat} {H : Heap} {ls : Array Slot} (hdg : decode code pc = .ok (.ireturn, 1)) : W p l e room_1 s m #[Value.ref b] below meth c H [] 601024 7293034 (lw_Z below #[Value.ref b] s) (F0 m pc ls [.int 1]) := by
  intro T hT X
  obtain ⟨fs, hret, hrun, hended, hW, hframe⟩ := X.leave (v := some (.int 1)) (hlocks := hlocks) (fun h => by rw [hr] at h; cases h)
  have hmeth' : T.vm.method? m = some meth := X.method'
  refine ⟨T.setFrames fs, ?_, .returned (some (.int 1)), hrun, hended, rfl, ⟨_, rfl⟩, hW, hframe⟩
  jvm_step X.here [X.here.top, hx, hb, hdg, hmeth', hr, ret, narrow_b1]
  (try refine ⟨rfl, ?_⟩); (try refine ⟨rfl, ?_⟩)
  first | (intro acts; rw [hret _ acts rfl rfl rfl]) | rw [hret _ _ rfl rfl rfl]
  exact Steps.refl _
/-- what holds at the law's entry: the machine, the code, the tables' words (any of lw_tbl by 'hts w (by decide +kernel)'), the script of L ints xs at the cell b, what the Statement gives of the start (any of its parts by flat_of_before) -/
def lw_At (p : Program) (s : State) (m : MethodId) (meth : Method) (c : Code) (b L : Nat) (xs : Nat → Int32) : Prop :=
  p.tables.exec = Jvm.exec ∧ c.code = code ∧ meth.sig.returnType = ret ∧ c.maxLocals = 7 ∧ s.vm.findClass R_law = some m.cls ∧ (∀ w ∈ lw_tbl, w.before #[Value.ref b] s = true) ∧ va_X b L xs s s.heap ∧ b < s.heap.size ∧ meth.locks = false ∧ (Jvm.Cond.and given_1 narrow_1).before #[Value.ref b] s = true
theorem and15 (x : Int32) : ∃ v : Nat, v < 16 ∧ x &&& 15 = nI v := by
  refine ⟨x.toBitVec.toNat % 16, Nat.mod_lt _ (by decide), ?_⟩
  apply Int32.toBitVec_inj.mp
  rw [Int32.toBitVec_and]
  apply BitVec.eq_of_toNat_eq
  rw [BitVec.toNat_and, show (15 : Int32).toBitVec.toNat = 2 ^ 4 - 1 from by decide +kernel, Nat.and_two_pow_sub_one_eq_mod]
  show _ = (BitVec.ofNat 32 (x.toBitVec.toNat % 16)).toNat
  rw [BitVec.toNat_ofNat, Nat.mod_eq_of_lt (a := x.toBitVec.toNat % 16) (by omega)]
theorem gtI {L i : Nat} (hL : L ≤ 2048) (hi : i ≤ 2048) : (nI L - nI 4 < nI i) ↔ L < i + 4 := by
  rw [Int32.lt_iff_toInt_lt, pk_sub_toInt (by omega) (by omega), nI_toInt (by omega)]
  omega
set_option maxHeartbeats 4000000 in
set_option maxRecDepth 100000 in
theorem st_all {p : Program} {l : Launch} {e : Env} {s : State} {m : MethodId} {args : Array Value} {below : List Frame} {meth : Method} {c : Code} {H : Heap} {locs : List Loc} {cells slots : Nat} {Q : State → Prop} {D : va_G} {cI cZ cL : ClassId} {AM : Nat → Prop} {adC adM : Nat → Nat} {o b L i : Nat} {xs : Nat → Int32} {σ τ : Nat → Nat → Nat} {f : Nat → Int64} {ls : Array Slot} (C : Lw p l s m args c D cI cZ cL AM o b L xs) (h : Lp s D cI cZ cL AM adC adM o σ τ f H locs) (hI : IR σ τ) (hl : lv_has ls 7 [(0, .ref b), (1, .ref (adC 0)), (2, .ref (adM 0)), (3, .ref o), (4, .int (nI i))]) (hiL : i + 4 ≤ L) (hL : L ≤ 2048) (hc : cells + 1 ≤ room_1.cells) (hs : slots + 6 ≤ room_1.slots) (k : Kt p l e s m args below meth c Q D cI cZ cL AM adC adM o b i (cells + 1) (slots + 6)) : W p l e room_1 s m args below meth c H locs cells slots Q (F0 m 32 ls []) := by
  obtain ⟨hx, hb, hml, hown, hts, hK, hN, hZ, hTh, hTw, hNx, hX, hbl, hlt, hAM, hAo⟩ := id C
  obtain ⟨hP, hD, hPm, hDm, hPo, hS⟩ := id h
  refine lv_aload_n hx hb dL_law_32 rfl (lv_at hl 0 rfl) ?_
  refine lv_iload hx hb dL_law_33 (lv_at hl 4 rfl) ?_
  refine n_sld hx hb hX hbl hS (show i < L by omega) hL rfl dL_law_35 ?_
  refine lv_bipush (v := 15) hx hb dL_law_36 (by decide) ?_
  refine lv_iand hx hb dL_law_38 ?_
  obtain ⟨v, hv, ev⟩ := and15 (xs i)
  rw [ev]
  rcases (show v = 0 ∨ v = 1 ∨ v = 2 ∨ v = 3 ∨ v = 4 ∨ v = 5 ∨ v = 6 ∨ v = 7 ∨ v = 8 ∨ v = 9 ∨ v = 10 ∨ v = 11 ∨ v = 12 ∨ v = 13 ∨ v = 14 ∨ v = 15 by omega) with rfl | rfl | rfl | rfl | rfl | rfl | rfl | rfl | rfl | rfl | rfl | rfl | rfl | rfl | rfl | rfl
  · exact lv_tableIn (tgt := 116) (off := 77) hx hb dL_law_39 (by decide +kernel) (by decide +kernel) (by decide +kernel) (by decide) (st_select C h hI hl hiL hL hc hs k)
  · exact lv_tableIn (tgt := 184) (off := 145) hx hb dL_law_39 (by decide +kernel) (by decide +kernel) (by decide +kernel) (by decide) (st_store C h hI hl hiL hL hc hs k)
  · exact lv_tableIn (tgt := 264) (off := 225) hx hb dL_law_39 (by decide +kernel) (by decide +kernel) (by decide +kernel) (by decide) (st_terms C h hI hl hiL hL hc hs k)
  · exact lv_tableIn (tgt := 277) (off := 238) hx hb dL_law_39 (by decide +kernel) (by decide +kernel) (by decide +kernel) (by decide) (st_sort C h hI hl hiL hL hc hs k)
  · exact lv_tableIn (tgt := 302) (off := 263) hx hb dL_law_39 (by decide +kernel) (by decide +kernel) (by decide +kernel) (by decide) (st_literal C h hI hl hiL hL hc hs k)
  · exact lv_tableIn (tgt := 398) (off := 359) hx hb dL_law_39 (by decide +kernel) (by decide +kernel) (by decide +kernel) (by decide) (st_draft C h hI hl hiL hL hc hs k)
  · exact lv_tableIn (tgt := 411) (off := 372) hx hb dL_law_39 (by decide +kernel) (by decide +kernel) (by decide +kernel) (by decide) (st_clear C h hI hl hiL hL hc hs k)
  · exact lv_tableIn (tgt := 422) (off := 383) hx hb dL_law_39 (by decide +kernel) (by decide +kernel) (by decide +kernel) (by decide) (st_claim C h hI hl hiL hL hc hs k)
  · exact lv_tableIn (tgt := 466) (off := 427) hx hb dL_law_39 (by decide +kernel) (by decide +kernel) (by decide +kernel) (by decide) (st_keep C h hI hl hiL hL hc hs k)
  · exact lv_tableIn (tgt := 491) (off := 452) hx hb dL_law_39 (by decide +kernel) (by decide +kernel) (by decide +kernel) (by decide) (st_claims C h hI hl hiL hL hc hs k)
  · exact lv_tableIn (tgt := 504) (off := 465) hx hb dL_law_39 (by decide +kernel) (by decide +kernel) (by decide +kernel) (by decide) (st_can C h hI hl hiL hL hc hs k)
  · exact lv_tableIn (tgt := 517) (off := 478) hx hb dL_law_39 (by decide +kernel) (by decide +kernel) (by decide +kernel) (by decide) (st_first C h hI hl hiL hL hc hs k)
  · exact lv_tableIn (tgt := 530) (off := 491) hx hb dL_law_39 (by decide +kernel) (by decide +kernel) (by decide +kernel) (by decide) (st_without C h hI hl hiL hL hc hs k)
  · exact lv_tableIn (tgt := 593) (off := 554) hx hb dL_law_39 (by decide +kernel) (by decide +kernel) (by decide +kernel) (by decide) (st_same C h hI hl hiL hL hc hs k)
  · exact lv_tableIn (tgt := 661) (off := 622) hx hb dL_law_39 (by decide +kernel) (by decide +kernel) (by decide +kernel) (by decide) (st_follows C h hI hl hiL hL hc hs k)
  · exact lv_tableIn (tgt := 712) (off := 673) hx hb dL_law_39 (by decide +kernel) (by decide +kernel) (by decide +kernel) (by decide) (st_apart C h hI hl hiL hL hc hs k)
set_option maxHeartbeats 4000000 in
set_option maxRecDepth 100000 in
theorem lw_loop {p : Program} {l : Launch} {e : Env} {s : State} {m : MethodId} {args : Array Value} {below : List Frame} {meth : Method} {c : Code} {Q : State → Prop} {D : va_G} {cI cZ cL : ClassId} {AM : Nat → Prop} {adC adM : Nat → Nat} {o b L : Nat} {xs : Nat → Int32} {Ce Se : Nat} (C : Lw p l s m args c D cI cZ cL AM o b L xs) (hL : L ≤ 2048) (hCe : Ce ≤ room_1.cells) (hSe : Se ≤ room_1.slots)
    (kf : ∀ (H1 : Heap) (locs1 : List Loc) (ls1 : Array Slot), va_S (fun q => s.heap.size ≤ q) s.heap H1 locs1 → W p l e room_1 s m args below meth c H1 locs1 Ce Se Q (F0 m 790 ls1 [])) :
    ∀ (n i cells slots : Nat) (H : Heap) (locs : List Loc) (σ τ : Nat → Nat → Nat) (f : Nat → Int64) (ls : Array Slot), L < i + 4 * n + 4 → i ≤ L → cells + n ≤ Ce → slots + 6 * n ≤ Se → Lp s D cI cZ cL AM adC adM o σ τ f H locs → IR σ τ → lv_has ls 7 [(0, .ref b), (1, .ref (adC 0)), (2, .ref (adM 0)), (3, .ref o), (4, .int (nI i))] → W p l e room_1 s m args below meth c H locs cells slots Q (F0 m 23 ls []) := by
  intro n
  induction n with
  | zero =>
    intro i cells slots H locs σ τ f ls hn hi hc hs h hI hl
    obtain ⟨hx, hb, hml, hown, hts, hK, hN, hZ, hTh, hTw, hNx, hX, hbl, hlt, hAM, hAo⟩ := id C
    obtain ⟨hP, hD, hPm, hDm, hPo, hS⟩ := id h
    refine lv_iload hx hb dL_law_23 (lv_at hl 4 rfl) ?_
    refine lv_aload_n hx hb dL_law_25 rfl (lv_at hl 0 rfl) ?_
    refine va_slen (A := fun q => s.heap.size ≤ q) hx hb hX hbl (Nat.not_le.mpr hbl) hS dL_law_26 ?_
    refine lv_iconst (v := nI 4) hx hb dL_law_27 (by decide) ?_
    refine lv_isub hx hb dL_law_28 ?_
    refine lv_icmp_gt (tgt := 790) hx hb dL_law_29 (by decide) (fun _ => w_widen (by omega) (by omega) (kf H locs ls hS)) (fun z => absurd ((gtI (L := L) (i := i) (by omega) (by omega)).mpr (by omega)) z)
  | succ n ih =>
    intro i cells slots H locs σ τ f ls hn hi hc hs h hI hl
    obtain ⟨hx, hb, hml, hown, hts, hK, hN, hZ, hTh, hTw, hNx, hX, hbl, hlt, hAM, hAo⟩ := id C
    obtain ⟨hP, hD, hPm, hDm, hPo, hS⟩ := id h
    refine lv_iload hx hb dL_law_23 (lv_at hl 4 rfl) ?_
    refine lv_aload_n hx hb dL_law_25 rfl (lv_at hl 0 rfl) ?_
    refine va_slen (A := fun q => s.heap.size ≤ q) hx hb hX hbl (Nat.not_le.mpr hbl) hS dL_law_26 ?_
    refine lv_iconst (v := nI 4) hx hb dL_law_27 (by decide) ?_
    refine lv_isub hx hb dL_law_28 ?_
    refine lv_icmp_gt (tgt := 790) hx hb dL_law_29 (by decide) (fun _ => w_widen (by omega) (by omega) (kf H locs ls hS)) (fun z => ?_)
    have hiL : i + 4 ≤ L := by
      have hz : ¬ L < i + 4 := fun y => z ((gtI (L := L) (i := i) (by omega) (by omega)).mpr y)
      omega
    refine st_all C h hI hl hiL hL (by omega) (by omega) (fun H1 locs1 σ1 τ1 f1 ls1 h1 hI1 hl1 => ?_)
    refine lv_iinc (v := nI (i + 4)) (k := 4) hx hb dL_law_784 hl1 rfl (nI_add i 4) (by decide) rfl (fun ls2 hl2 => ?_)
    refine lv_goto (tgt := 23) hx hb dL_law_787 (by decide) ?_
    exact ih (i + 4) (cells + 1) (slots + 6) H1 locs1 σ1 τ1 f1 ls2 (by omega) hiL (by omega) (by omega) h1 hI1 (lv_sub hl2 [1, 2, 3, 4, 0] rfl)
theorem en_arr {args : Array Value} {s : State} {t : FieldType} (h : (Cond.arrayClass t).before args s = true) : ∃ cA : ClassId, ArrOfT s cA t ∧ s.vm.findClass ("[" ++ t.toString) = some cA := by
  obtain ⟨cB, kB, comp, h1, h2, h3⟩ := Cond.arrayClass_spec h
  exact ⟨cB, fun n z => ⟨fun k h => (by cases h), kB, h2, comp, h3⟩, h1⟩
theorem en_K {args : Array Value} {s : State} (hts : ∀ w ∈ lw_tbl, w.before args s = true) : ∃ (D : va_G) (cI cZ : ClassId), va_K D vwCl [(cI, .int), (cZ, .boolean)] s := by
  obtain ⟨c0, i0, k0⟩ := u_known (C := RX0) (T := TX0) (N := 3) hts inX0 (hts (.instantiable RX0 3) (by decide +kernel))
  obtain ⟨c2, i2, k2⟩ := u_known (C := RX2) (T := TX2) (N := 2) hts inX2 (hts (.instantiable RX2 2) (by decide +kernel))
  obtain ⟨c3, i3, k3⟩ := u_known (C := RX3) (T := TX3) (N := 5) hts inX3 (hts (.instantiable RX3 5) (by decide +kernel))
  obtain ⟨c4, i4, k4⟩ := u_known (C := RX4) (T := TX4) (N := 6) hts inX4 (hts (.instantiable RX4 6) (by decide +kernel))
  obtain ⟨c5, i5, k5⟩ := u_known (C := RX5) (T := TX5) (N := 20) hts inX5 (hts (.instantiable RX5 20) (by decide +kernel))
  obtain ⟨cI, a1, a2⟩ := en_arr (hts (.arrayClass .int) (by decide +kernel))
  obtain ⟨cZ, b1, b2⟩ := en_arr (hts (.arrayClass .boolean) (by decide +kernel))
  refine ⟨(fun k => match k with | 0 => c0 | 1 => c2 | 2 => c3 | 3 => c4 | _ => c5, fun k => match k with | 0 => i0 | 1 => i2 | 2 => i3 | 3 => i4 | _ => i5), cI, cZ, fun k q hq => ?_, fun k q hq => ?_⟩
  · match k, hq with
    | 0, hq => cases hq; exact k0
    | 1, hq => cases hq; exact k2
    | 2, hq => cases hq; exact k3
    | 3, hq => cases hq; exact k4
    | 4, hq => cases hq; exact k5
    | n + 5, hq => cases hq
  · match k, hq with
    | 0, hq => cases hq; exact ⟨a1, a2⟩
    | 1, hq => cases hq; exact ⟨b1, b2⟩
    | n + 2, hq => cases hq
theorem w_g1 {w1 w2 : va_W} {i : Nat} {p : Nat × va_E} (hi : w1[i]? = some p) : (w1 ++ w2)[i]? = some p := by rw [List.getElem?_append_left (List.getElem?_eq_some_iff.mp hi).1]; exact hi
theorem w_g2 {w1 w2 : va_W} {j : Nat} {q : Nat × va_E} (hj : w2[j]? = some q) : (w1 ++ w2)[w1.length + j]? = some q := by rw [List.getElem?_append_right (Nat.le_add_right _ _), Nat.add_sub_cancel_left]; exact hj
theorem d_spl {A : Nat → Prop} {w1 w2 : va_W} (h : va_D A (w1 ++ w2)) : va_D A w1 ∧ va_D A w2 ∧ ∀ (i j : Nat) (p q : Nat × va_E), w1[i]? = some p → w2[j]? = some q → p.1 ≠ q.1 := by
  refine ⟨⟨fun i j p q hi hj e => h.1 i j p q (w_g1 hi) (w_g1 hj) e, fun k q hk => h.2 k q (w_g1 hk)⟩, ⟨fun i j p q hi hj e => ?_, fun k q hk => h.2 _ q (w_g2 hk)⟩, fun i j p q hi hj e => ?_⟩
  · have := h.1 _ _ p q (w_g2 (w1 := w1) hi) (w_g2 (w1 := w1) hj) e
    omega
  · have h1 := h.1 _ _ p q (w_g1 (w2 := w2) hi) (w_g2 (w1 := w1) hj) e
    have h2 := (List.getElem?_eq_some_iff.mp hi).1
    omega
theorem p_spl {D : va_G} {cl : List vw_C} {w1 w2 : va_W} {H : Heap} (h : va_P D cl (w1 ++ w2) H) : va_P D cl w1 H ∧ va_P D cl w2 H := ⟨fun k q hk => h k q (w_g1 hk), fun k q hk => h _ q (w_g2 hk)⟩
/-- the model's cells -/
def mcells (ws : va_W) : Nat → Prop := fun q => ∃ (k : Nat) (x : Nat × va_E), ws[k]? = some x ∧ x.1 = q
set_option maxHeartbeats 4000000 in
set_option maxRecDepth 100000 in
theorem whole_start {p : Program} {e : Env} {s : State} {m : MethodId} {below : List Frame} {meth : Method} {c : Code} (l : Launch) (hl9 : l.stackTraces = false) {b L : Nat} {xs : Nat → Int32} (hL : L ≤ 2048) (C0 : lw_At p s m meth c b L xs) : W p l e room_1 s m #[Value.ref b] below meth c s.heap [] 0 0 (lw_Z below #[Value.ref b] s) (entryFrame m ([Value.ref b] : List Value).toArray 7) := by
  obtain ⟨hx, hb, hr, hml, hown, htb, hX, hbl, hlocks, hgv⟩ := C0
  have hts : ∀ w ∈ wsL_law, w.before #[Value.ref b] s = true := fun w h => htb w (wsL_law_in w h)
  have hown : s.vm.findClass RL = some m.cls := hown
  obtain ⟨D, cI, cZ, hK⟩ := en_K htb
  have hK1 : va_K D vwCl [(cI, .int)] s := hK.sub [0] rfl
  have hA : ∀ q : Nat, s.heap.size ≤ q → (fun q => s.heap.size ≤ q) q := fun q h => h
  have hS : va_S (fun q => s.heap.size ≤ q) s.heap s.heap [] := va_S.rf
  have hP : va_P D vwCl [] s.heap := fun k q hq => by simp at hq
  have hD : va_D (fun q => s.heap.size ≤ q) [] := ⟨fun i j p q hi => by simp at hi, fun k q hq => by simp at hq⟩
  have hl := lv_entry ([.ref b]) (n := 7) (Nat.le_of_ble_eq_true rfl)
  rw [lg_entry_eq]
  generalize (lg_sl ([.ref b]) ++ List.replicate (7 - (lg_sl ([.ref b])).length) Slot.unset).toArray = ls at hl ⊢
  have hl : lv_has ls 7 [(0, .ref b)] := hl
  refine va_new (ci := 3) (fs := [.null, .null, .null, .int (nI 0), .null, .null]) (C := RX4) (T := TX4) (N := 6) hx hb hts inlX4 tyX4 tyX4_ok hown (htb (.classLink RL 8 RX4) (by decide +kernel)) (htb (.instantiable RX4 6) (by decide +kernel)) (htb (.initialized RX4) (by decide +kernel)) hK hP hD hS hA rfl (fun j hj => by rcases (show j = 0 ∨ j = 1 ∨ j = 2 ∨ j = 3 ∨ j = 4 ∨ j = 5 by omega) with rfl | rfl | rfl | rfl | rfl | rfl <;> rfl) (Nat.le_of_ble_eq_true rfl) (Nat.le_of_ble_eq_true rfl) dL_law_0 (fun q1 H1 hP hD hS => ?_)
  have hP : va_P D vwCl [(q1, .inr (3, [.null, .null, .null, .int (nI 0), .null, .null]))] H1 := hP
  have hD : va_D (fun q => s.heap.size ≤ q) [(q1, .inr (3, [.null, .null, .null, .int (nI 0), .null, .null]))] := hD
  refine lv_dup hx hb dL_law_3 rfl ?_
  have hFc := va_free (wc := [(q1, .inr (3, [.null, .null, .null, .int (nI 0), .null, .null]))]) hD hS hA [0] rfl
  have hNm : va_Nw (.methodLinkNest RX4 38 yX2_init "ArrayClaims") s := va_Nw.of rfl (htb _ (by decide +kernel))
  refine va_callv (va_runI (As := []) (rest := [.ref q1]) ⟨hx, hb, hml, hown, hts⟩ (c_X4_init l D cI q1 H1.size) (cwI 0 hts gL_law_X4_init rfl rfl rfl (htb (.initialized RX4) (by decide +kernel)) (htb (.methodLink RL 48 yX4_init) (by decide +kernel)) (htb (.instanceMethod yX4_init) (by decide +kernel)) rfl (by decide +kernel) ⟨Nat.le_of_ble_eq_true rfl, Nat.le_of_ble_eq_true rfl⟩) ⟨fun a U g mk q => by obtain ⟨q0, q1, qP, qK, qD, qN⟩ := q; exact ⟨q0, q1, qP, va_K.moved (u := U) (U := U.calling g mk a) (Vm.Alike.refl U.vm) qK, qD, va_Nw.same rfl (u := U) (U := U.calling g mk a) rfl qN⟩, fun U hU hW => ⟨rfl, by rw [hU], by rw [hU]; exact hP, va_K.moved hW.alike hK1, hD.weaken (fun _ _ _ _ => trivial), va_Nw.warmM hW hNm⟩⟩ rfl rfl hl.1 rfl (lv_room (Nat.le_of_ble_eq_true rfl)) dL_law_4 ⟨Nat.le_of_ble_eq_true rfl, Nat.le_of_ble_eq_true rfl⟩) hS (fun q _ h => hFc q h) hFc (fun adC t1 H2 locs2 ht1 hvm1 hadC hB1 hz1 hk1 hS2 => ?_)
  obtain ⟨hP2, hD2⟩ := hB1
  rw [ht1] at hP2
  have hD2 : va_D (fun q => s.heap.size ≤ q) (WC adC cI sg0) := hD2.weaken (fun _ _ _ h => hFc _ h)
  refine lv_astore_n hx hb dL_law_7 rfl hl (by decide) rfl (fun ls1 hl1 => ?_)
  rw [← hadC] at hl1
  have hl1 : lv_has ls1 7 [(1, .ref (adC 0)), (0, .ref b)] := hl1
  refine va_new (ci := 4) (fs := [.int (nI 0), .int (nI 0), .null, .null, .null, .null, .null, .null, .null, .null, .null, .null, .null, .null, .null, .int (nI 0), .int (nI 0), .null, .null, .null]) (C := RX5) (T := TX5) (N := 20) hx hb hts inlX5 tyX5 tyX5_ok hown (htb (.classLink RL 49 RX5) (by decide +kernel)) (htb (.instantiable RX5 20) (by decide +kernel)) (htb (.initialized RX5) (by decide +kernel)) hK hP2 hD2 hS2 hA rfl (fun j hj => by rcases (show j = 0 ∨ j = 1 ∨ j = 2 ∨ j = 3 ∨ j = 4 ∨ j = 5 ∨ j = 6 ∨ j = 7 ∨ j = 8 ∨ j = 9 ∨ j = 10 ∨ j = 11 ∨ j = 12 ∨ j = 13 ∨ j = 14 ∨ j = 15 ∨ j = 16 ∨ j = 17 ∨ j = 18 ∨ j = 19 by omega) with rfl | rfl | rfl | rfl | rfl | rfl | rfl | rfl | rfl | rfl | rfl | rfl | rfl | rfl | rfl | rfl | rfl | rfl | rfl | rfl <;> rfl) (Nat.le_of_ble_eq_true rfl) (Nat.le_of_ble_eq_true rfl) dL_law_8 (fun q2 H3 hP3 hD3 hS3 => ?_)
  refine lv_dup hx hb dL_law_11 rfl ?_
  have hFc := va_free (wc := [(q2, .inr (4, [.int (nI 0), .int (nI 0), .null, .null, .null, .null, .null, .null, .null, .null, .null, .null, .null, .null, .null, .int (nI 0), .int (nI 0), .null, .null, .null]))]) hD3 hS3 hA [16] rfl
  have hP3m := (p_spl hP3).2
  have hD3m := (d_spl hD3).2.1
  refine va_callv (va_runI (As := []) (rest := [.ref q2]) ⟨hx, hb, hml, hown, hts⟩ (c_X5_init l D cI cZ q2 H3.size) (cwI 0 hts gL_law_X5_init rfl rfl rfl (htb (.initialized RX5) (by decide +kernel)) (htb (.methodLink RL 51 yX5_init) (by decide +kernel)) (htb (.instanceMethod yX5_init) (by decide +kernel)) rfl (by decide +kernel) ⟨Nat.le_of_ble_eq_true rfl, Nat.le_of_ble_eq_true rfl⟩) ⟨fun a U g mk q => by obtain ⟨q0, q1, qP, qK, qD⟩ := q; exact ⟨q0, q1, qP, va_K.moved (u := U) (U := U.calling g mk a) (Vm.Alike.refl U.vm) qK, qD⟩, fun U hU hW => ⟨rfl, by rw [hU], by rw [hU]; exact hP3m, va_K.moved hW.alike hK, hD3m.weaken (fun _ _ _ _ => trivial)⟩⟩ rfl rfl hl1.1 rfl (lv_room (Nat.le_of_ble_eq_true rfl)) dL_law_12 ⟨Nat.le_of_ble_eq_true rfl, Nat.le_of_ble_eq_true rfl⟩) hS3 (fun q _ h => hFc q h) hFc (fun u2 t2 H4 locs4 ht2 hvm2 hu2 hB2 hz2 hk2 hS4 => ?_)
  obtain ⟨adM, τ0⟩ := u2
  obtain ⟨hadM, hTI⟩ := hu2
  obtain ⟨hP4, hD4⟩ := hB2
  rw [ht2] at hP4
  dsimp only at hadM hTI hP4 hD4
  obtain ⟨hPW, hDW⟩ := va_join (wc := [(q2, .inr (4, [.int (nI 0), .int (nI 0), .null, .null, .null, .null, .null, .null, .null, .null, .null, .null, .null, .null, .null, .int (nI 0), .int (nI 0), .null, .null, .null]))]) (wr := WC adC cI sg0) (w1 := WM adM cI cZ τ0) hP3 hD3 [16] [0, 1, 2, 3, 4, 5, 6, 7, 8, 9, 10, 11, 12, 13, 14, 15] rfl rfl (by decide) (by decide) hk2 hFc hP4 hD4
  refine lv_astore_n hx hb dL_law_15 rfl hl1 (by decide) rfl (fun ls2 hl2 => ?_)
  rw [← hadM] at hl2
  have hl2 : lv_has ls2 7 [(2, .ref (adM 0)), (1, .ref (adC 0)), (0, .ref b)] := hl2
  refine lv_iconst (v := nI 1) hx hb dL_law_16 (by decide) ?_
  refine va_newa hx hb (atype := .long) (ty := .long) (htb (.arrayClass .long) (by decide +kernel)) rfl hK hPW hDW hS4 hA (a0 := (1, .inr (.inl (fun _ => 0)))) (fun cA => rfl) (by decide +kernel) (by decide +kernel) (by decide) (Nat.le_of_ble_eq_true rfl) (Nat.le_of_ble_eq_true rfl) dL_law_17 (fun q3 cL H5 hK5 hP5 hD5 hS5 => ?_)
  refine lv_astore_n hx hb dL_law_19 rfl hl2 (by decide) rfl (fun ls3 hl3 => ?_)
  refine lv_iconst (v := nI 0) hx hb dL_law_20 (by decide) ?_
  refine lv_istore hx hb dL_law_21 hl3 (by decide) rfl (fun ls4 hl4 => ?_)
  have hl4 : lv_has ls4 7 [(4, .int (nI 0)), (3, .ref q3), (2, .ref (adM 0)), (1, .ref (adC 0)), (0, .ref b)] := hl4
  obtain ⟨hPW5, hPo⟩ := p_spl hP5
  obtain ⟨hPc, hPm⟩ := p_spl hPW5
  obtain ⟨hDW5, hDo, hxo⟩ := d_spl hD5
  obtain ⟨hDc, hDm, hxm⟩ := d_spl hDW5
  have ho : AW s.heap.size (mcells (WM adM cI cZ τ0)) q3 := ⟨hDo.2 0 _ rfl, fun ⟨k, x, hk, hx1⟩ => hxo _ 0 x _ (w_g2 hk) rfl hx1⟩
  have hno : ∀ a : Nat, a < s.heap.size → ¬ Ao (AW s.heap.size (mcells (WM adM cI cZ τ0))) q3 a := fun a ha h => Nat.not_le.mpr ha h.1.1
  have C : Lw p l s m #[Value.ref b] c D cI cZ cL (mcells (WM adM cI cZ τ0)) q3 b L xs := ⟨hx, hb, hml, hown, hts, hK5, en_nst htb, en_stt hgv htb hno, en_thr hgv htb hno, en_tw htb en_tl, en_nx hgv, hX, hbl, hl9, fun q ⟨k, x, hk, hx1⟩ => hx1 ▸ hDm.2 k x hk, ho⟩
  have h : Lp s D cI cZ cL (mcells (WM adM cI cZ τ0)) adC adM q3 sg0 τ0 (fun _ => 0) H5 _ := ⟨hPc, ⟨hDc.1, fun k q hq => ⟨⟨hDc.2 k q hq, fun ⟨k2, x, hk2, hx1⟩ => hxm k k2 q x hq hk2 hx1.symm⟩, fun z => hxo k 0 q _ (w_g1 hq) rfl z⟩⟩, hPm, ⟨hDm.1, fun k q hq => ⟨k, q, hq, rfl⟩⟩, hPo, hS5⟩
  refine lw_loop (Ce := 601024) (Se := 7293034) C hL (Nat.le_of_ble_eq_true rfl) (Nat.le_of_ble_eq_true rfl) (fun H1 locs1 ls1 hS1 => va_forget (fun q hq => hS1.2.2 q hq) (lv_iconst (v := 1) hx hb dL_law_790 (by decide) (lw_ret hx hb hr hlocks dL_law_791))) (L / 4) 0 _ _ H5 _ sg0 τ0 (fun _ => 0) ls4 (by omega) (Nat.zero_le _) (by omega) (by omega) h (IR.init hTI) (lv_sub hl4 [4, 3, 2, 1, 0] rfl)
