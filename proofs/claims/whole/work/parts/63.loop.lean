/-! THE LAW's LOOP: what it carries, and its steps -/
def AW (h0 : Nat) (AM : Nat → Prop) : Nat → Prop := fun q => h0 ≤ q ∧ ¬ AM q
/-- what stands through the whole law -/
def Lw (p : Program) (l : Launch) (s : State) (m : MethodId) (args : Array Value) (c : Code) (D : va_G) (cI cZ cL : ClassId) (AM : Nat → Prop) (o b L : Nat) (xs : Nat → Int32) : Prop :=
  p.tables.exec = Jvm.exec ∧ c.code = cL_law ∧ c.maxLocals = 7 ∧ s.vm.findClass RL = some m.cls ∧ (∀ w ∈ wsL_law, w.before args s = true) ∧ va_K D vwCl [(cI, .int), (cZ, .boolean), (cL, .long)] s ∧ Nst s ∧
  Stt (Ao (AW s.heap.size AM) o) s s.heap ∧ Thr (Ao (AW s.heap.size AM) o) s s.heap ∧ Tw s ∧ Nx s ∧ va_X b L xs s s.heap ∧ b < s.heap.size ∧ l.stackTraces = false ∧ (∀ q, AM q → s.heap.size ≤ q) ∧ AW s.heap.size AM o
/-- what the loop carries, but for the tie of the two states -/
def Lp (s : State) (D : va_G) (cI cZ cL : ClassId) (AM : Nat → Prop) (adC adM : Nat → Nat) (o : Nat) (σ τ : Nat → Nat → Nat) (f : Nat → Int64) (H : Heap) (locs : List Loc) : Prop :=
  va_P D vwCl (WC adC cI σ) H ∧ va_D (Ao (AW s.heap.size AM) o) (WC adC cI σ) ∧ va_P D vwCl (WM adM cI cZ τ) H ∧ va_D AM (WM adM cI cZ τ) ∧ va_P D vwCl (WO o cL f) H ∧ va_S (fun q => s.heap.size ≤ q) s.heap H locs
/-- a call of the model keeps the class and the out array -/
theorem Lp.model {s : State} {D : va_G} {cI cZ cL : ClassId} {AM : Nat → Prop} {adC adM : Nat → Nat} {o : Nat} {σ τ τ' : Nat → Nat → Nat} {f : Nat → Int64} {H H1 : Heap} {locs locs1 : List Loc} (h : Lp s D cI cZ cL AM adC adM o σ τ f H locs) (ho : AW s.heap.size AM o)
    (hk : ∀ q : Nat, q < H.size → ¬ AM q → H1[q]? = H[q]?) (hP : va_P D vwCl (WM adM cI cZ τ') H1) (hD : va_D AM (WM adM cI cZ τ')) (hS : va_S (fun q => s.heap.size ≤ q) s.heap H1 locs1) : Lp s D cI cZ cL AM adC adM o σ τ' f H1 locs1 := by
  obtain ⟨a, b, -, -, e, -⟩ := h
  refine ⟨a.kept (fun k q hq => hk q.1 (a k q hq).lt (b.2 k q hq).1.2), b, hP, hD, e.kept (fun k q hq => hk q.1 (e k q hq).lt ?_), hS⟩
  cases k with
  | zero => cases hq; exact ho.2
  | succ k => cases hq
/-- a call of a wrapper keeps the model -/
theorem Lp.wrap {s : State} {D : va_G} {cI cZ cL : ClassId} {AM : Nat → Prop} {adC adM : Nat → Nat} {o : Nat} {σ τ : Nat → Nat → Nat} {f : Nat → Int64} {u : (Nat → Nat → Nat) × (Nat → Int64)} {t : State} {H H1 : Heap} {locs locs1 : List Loc} (h : Lp s D cI cZ cL AM adC adM o σ τ f H locs)
    (hk : ∀ q : Nat, q < H.size → ¬ AW s.heap.size AM q → H1[q]? = H[q]?) (ht : t.heap = H1) (hB : Bo D cI cL (AW s.heap.size AM) adC o u t) (hS : va_S (fun q => s.heap.size ≤ q) s.heap H1 locs1) : Lp s D cI cZ cL AM adC adM o u.1 τ u.2 H1 locs1 := by
  obtain ⟨-, -, a, b, -, -⟩ := h
  obtain ⟨c, d, e⟩ := hB
  rw [ht] at c e
  exact ⟨c, d, a.kept (fun k q hq => hk q.1 (a k q hq).lt (fun z => z.2 (b.2 k q hq))), b, e, hS⟩
/-- a call of the class itself keeps the model and the out array -/
theorem Lp.cls {s : State} {D : va_G} {cI cZ cL : ClassId} {AM : Nat → Prop} {adC adM : Nat → Nat} {o : Nat} {σ τ σ' : Nat → Nat → Nat} {f : Nat → Int64} {H H1 : Heap} {locs locs1 : List Loc} (h : Lp s D cI cZ cL AM adC adM o σ τ f H locs)
    (hk : ∀ q : Nat, q < H.size → ¬ Ao (AW s.heap.size AM) o q → H1[q]? = H[q]?) (hP : va_P D vwCl (WC adC cI σ') H1) (hD : va_D (Ao (AW s.heap.size AM) o) (WC adC cI σ')) (hS : va_S (fun q => s.heap.size ≤ q) s.heap H1 locs1) : Lp s D cI cZ cL AM adC adM o σ' τ f H1 locs1 := by
  obtain ⟨-, -, a, b, e, -⟩ := h
  exact ⟨hP, hD, a.kept (fun k q hq => hk q.1 (a k q hq).lt (fun z => z.1.2 (b.2 k q hq))), b, WO.keep e hk, hS⟩
theorem Lp.sc {s : State} {H : Heap} {locs : List Loc} (hS : va_S (fun q => s.heap.size ≤ q) s.heap H locs) (A : Nat → Prop) : va_S A s.heap H [] := ⟨hS.1, fun q h1 _ => hS.2.1 q h1 (Nat.not_le.mpr h1), fun _ h => nomatch h⟩
theorem Wo.go {D : va_G} {cI cL : ClassId} {A : Nat → Prop} {ad : Nat → Nat} {σ : Nat → Nat → Nat} {o : Nat} {f : Nat → Int64} {s U : State} {H : Heap} {locs : List Loc} (hP : va_P D vwCl (WC ad cI σ) H) (hK : va_K D vwCl [(cI, .int)] s) (hD : va_D (Ao A o) (WC ad cI σ)) (hN : Nst s) (hZ : Stt (Ao A o) s s.heap) (hTh : Thr (Ao A o) s s.heap) (hTw : Tw s) (hS : va_S (Ao A o) s.heap H locs) (hPo : va_P D vwCl (WO o cL f) H) (hK3 : va_K D vwCl [(cI, .int), (cL, .long)] s) (hAo : A o) (hNx : Nx s) (hU : U.heap = H) (hW : s.WarmedH U.vm) : Wo D cI cL A ad σ o f U :=
  ⟨Wx.go hP hK hD hN hZ hTh hTw hS hU hW, by rw [hU]; exact hPo, va_K.moved hW.alike hK3, hAo, fun E hE F hF hne => va_Nc.moved hW.alike (hNx E hE F hF hne)⟩
theorem Wo.blind {D : va_G} {cI cL : ClassId} {A : Nat → Prop} {ad : Nat → Nat} {σ : Nat → Nat → Nat} {o : Nat} {f : Nat → Int64} {av : List Value} : FrameBlind (va_Pc av (Wo D cI cL A ad σ o f)) := by
  intro a U g mk h
  obtain ⟨h0, h1, h2, h3, h4, h5⟩ := h
  exact ⟨h0, (Wx.blind (av := av) a U g mk ⟨h0, h1⟩).2, h2, va_K.moved (u := U) (U := U.calling g mk a) (Vm.Alike.refl U.vm) h3, h4, fun E hE F hF hne => va_Nc.moved (u := U) (U := U.calling g mk a) (Vm.Alike.refl U.vm) (h5 E hE F hF hne)⟩
/-- the way on from a step: the foot of the loop -/
def Kt (p : Program) (l : Launch) (e : Env) (s : State) (m : MethodId) (args : Array Value) (below : List Frame) (meth : Method) (c : Code) (Q : State → Prop) (D : va_G) (cI cZ cL : ClassId) (AM : Nat → Prop) (adC adM : Nat → Nat) (o b i cells slots : Nat) : Prop :=
  ∀ (H1 : Heap) (locs1 : List Loc) (σ' τ' : Nat → Nat → Nat) (f' : Nat → Int64) (ls1 : Array Slot), Lp s D cI cZ cL AM adC adM o σ' τ' f' H1 locs1 → IR σ' τ' → lv_has ls1 7 [(0, .ref b), (1, .ref (adC 0)), (2, .ref (adM 0)), (3, .ref o), (4, .int (nI i))] → W p l e room_1 s m args below meth c H1 locs1 cells slots Q (F0 m 784 ls1 [])
/-- a call that never throws -/
theorem vx_calliN {p : Program} {l : Launch} {e : Env} {R : Room} {s : State} {m : MethodId} {args : Array Value} {below : List Frame} {meth : Method} {c : Code} {H : Heap} {locs : List Loc} {cells slots : Nat} {Q : State → Prop} {mc ms : Nat} {free : Addr → Prop} {A0 A1 : Nat → Prop} {H0 : Heap} {a : Array Value} {pc : Nat} {ls : Array Slot} {st0 rest : List Value} {S : Type} {post : Int32 → S → Prop} {B : S → State → Prop} (hr : vx_Run p l e R s m args below meth c H locs cells slots mc ms (F0 m pc ls st0) rest (va_Qi post B A1 a) (fun _ _ _ => False) free) (hS : va_S A0 H0 H locs) (hA : ∀ q, q < H.size → A1 q → A0 q) (hf : ∀ q, free q → A0 q)
    (kk : ∀ (r : Int32) (u : S) (t : State) (H1 : Heap) (locs1 : List Loc), t.heap = H1 → post r u → B u t → (∀ q : Nat, q < H.size → ¬ A1 q → H1[q]? = H[q]?) → va_S A0 H0 H1 locs1 → W p l e R s m args below meth c H1 locs1 (cells + mc) (slots + ms) Q (F0 m (pc + 3) ls (.int r :: rest))) : W p l e R s m args below meth c H locs cells slots Q (F0 m pc ls st0) := by
  intro T hT X
  rcases hr T hT X with ⟨v, st₀, t, T', L, h0, X', hL, e1, e2, ⟨⟨r, u, hv, hp, hb⟩, hF⟩, st⟩ | ⟨q, st₀, t, T', L, E, ce, h0, X', hL, e1, e2, hN, -⟩
  · cases hv
    obtain ⟨k1, k2, k3⟩ := vx_keep h0 e1 hS hA hf hL hF
    obtain ⟨t2, a1, b1⟩ := kk r u t T'.heap (locs ++ L) e1.symm hp hb k2 k3 T' rfl X'
    exact ⟨t2, st t2 a1, b1⟩
  · exact hN.elim
section NL
variable {p : Program} {l : Launch} {e : Env} {R : Room} {s : State} {m : MethodId} {args : Array Value} {below : List Frame} {meth : Method} {c : Code} {H : Heap} {locs : List Loc} {cells slots : Nat} {Q : State → Prop} {cc : ByteArray} {pc : Nat} {ls : Array Slot} {rest : List Value}
theorem n_sld {b L : Nat} {xs : Nat → Int32} {v : Int32} (hx : p.tables.exec = Jvm.exec) (hb : c.code = cc) (hX : va_X b L xs s s.heap) (hbl : b < s.heap.size) (hS : va_S (fun q => s.heap.size ≤ q) s.heap H locs) {j : Nat} (hj : j < L) (hL : L ≤ 2048) (hv : xs j = v) (hdg : decode cc pc = .ok (.iaload, 1))
    (k : W p l e R s m args below meth c H locs cells slots Q (F0 m (pc + 1) ls (.int v :: rest))) : W p l e R s m args below meth c H locs cells slots Q (F0 m pc ls (.int (nI j) :: .ref b :: rest)) :=
  va_sld (A := fun q => s.heap.size ≤ q) hx hb hX hbl (Nat.not_le.mpr hbl) hS (vp_in_nI hj (by omega)) hdg (by rw [nI_clamp (by omega), hv]; exact k)
theorem n_arg {b L : Nat} {xs : Nat → Int32} {v : Int32} {i j : Nat} {n : Int} (hx : p.tables.exec = Jvm.exec) (hb : c.code = cc) (hX : va_X b L xs s s.heap) (hbl : b < s.heap.size) (hS : va_S (fun q => s.heap.size ≤ q) s.heap H locs) (e0 : ls[0]? = some (.val (.ref b))) (e4 : ls[4]? = some (.val (.int (nI i)))) (hn : Int32.ofInt n = nI j) (hj : i + j < L) (hL : L ≤ 2048) (hv : xs (i + j) = v)
    (d0 : decode cc pc = .ok (.aload_n 0, 1)) (d1 : decode cc (pc + 1) = .ok (.iload 4, 2)) (d3 : decode cc (pc + 3) = .ok (.iconst n, 1)) (d4 : decode cc (pc + 4) = .ok (.iadd, 1)) (d5 : decode cc (pc + 5) = .ok (.iaload, 1)) (k : W p l e R s m args below meth c H locs cells slots Q (F0 m (pc + 6) ls (.int v :: rest))) : W p l e R s m args below meth c H locs cells slots Q (F0 m pc ls rest) := by
  refine lv_aload_n hx hb d0 rfl e0 ?_
  refine lv_iload hx hb d1 e4 ?_
  refine lv_iconst (v := nI j) hx hb d3 hn ?_
  refine n_add hx hb d4 ?_
  exact n_sld hx hb hX hbl hS hj hL hv d5 k
theorem n_flag {x : Int32} {bb : Bool} (hx : p.tables.exec = Jvm.exec) (hb : c.code = cc) (hbb : x = 0 ↔ bb = false) (d0 : decode cc pc = .ok (.ifCond .eq 7, 3)) (d3 : decode cc (pc + 3) = .ok (.iconst 1, 1)) (d4 : decode cc (pc + 4) = .ok (.goto 4, 3)) (d7 : decode cc (pc + 7) = .ok (.iconst 0, 1)) (k : W p l e R s m args below meth c H locs cells slots Q (F0 m (pc + 8) ls (.int (bI bb) :: rest))) : W p l e R s m args below meth c H locs cells slots Q (F0 m pc ls (.int x :: rest)) := by
  refine q_if_eq hx hb (tgt := pc + 7) hbb d0 (by omega) (fun c_z => ?_) (fun c_z => ?_)
  · subst c_z
    exact lv_iconst (v := bI false) hx hb d7 (by decide +kernel) k
  · obtain rfl := (Bool.not_eq_false _).mp c_z
    exact lv_iconst (v := bI true) hx hb d3 (by decide +kernel) (lv_goto (tgt := pc + 8) hx hb d4 (by omega) k)
theorem n_lceq {x : Int64} (hx : p.tables.exec = Jvm.exec) (hb : c.code = cc) (hdg : decode cc pc = .ok (.lcmp, 1)) (k : W p l e R s m args below meth c H locs cells slots Q (F0 m (pc + 1) ls (.int 0 :: rest))) : W p l e R s m args below meth c H locs cells slots Q (F0 m pc ls (.long x :: .long x :: rest)) := by
  have hlt : ¬ x < x := Int64.lt_irrefl
  intro T hT X
  obtain ⟨t, a, b⟩ := k T hT X
  refine ⟨t, ?_, b⟩
  jvm_step X.here [X.here.top, hx, hb, hdg, hlt]
  exact a
end NL
set_option maxHeartbeats 4000000 in
set_option maxRecDepth 100000 in
theorem t_endi {p : Program} {l : Launch} {e : Env} {s : State} {m : MethodId} {args : Array Value} {below : List Frame} {meth : Method} {c : Code} {H : Heap} {locs : List Loc} {cells slots : Nat} {Q : State → Prop} {D : va_G} {cI cZ cL : ClassId} {AM : Nat → Prop} {adC adM : Nat → Nat} {o b L i : Nat} {xs : Nat → Int32} {σ τ : Nat → Nat → Nat} {f : Nat → Int64} {ls : Array Slot} {r1 : Int32} {r2 : Int32} {pc : Nat} {off : Int} (C : Lw p l s m args c D cI cZ cL AM o b L xs) (h : Lp s D cI cZ cL AM adC adM o σ τ f H locs) (hI : IR σ τ) (hl : lv_has ls 7 [(6, .int r2), (5, .int r1), (0, .ref b), (1, .ref (adC 0)), (2, .ref (adM 0)), (3, .ref o), (4, .int (nI i))]) (hc : cells ≤ room_1.cells) (hs : slots ≤ room_1.slots) (hq : r1 = nI (τ 0 0)) (hz : r1 = 0 → f 0 = (r2).toInt64)
    (d0 : decode cL_law pc = .ok (.aload_n 2, 1)) (d1 : decode cL_law (pc + 1) = .ok (.invokevirtual 58, 3)) (d4 : decode cL_law (pc + 4) = .ok (.iload 5, 2)) (d6 : decode cL_law (pc + 6) = .ok (.if_icmp .eq 5, 3)) (d11 : decode cL_law (pc + 11) = .ok (.iload 5, 2)) (d13 : decode cL_law (pc + 13) = .ok (.ifCond .ne 15, 3)) (d16 : decode cL_law (pc + 16) = .ok (.aload_n 3, 1)) (d17 : decode cL_law (pc + 17) = .ok (.iconst 0, 1)) (d18 : decode cL_law (pc + 18) = .ok (.laload, 1)) (d19 : decode cL_law (pc + 19) = .ok (.iload 6, 2)) (d21 : decode cL_law (pc + 21) = .ok (.i2l, 1)) (d22 : decode cL_law (pc + 22) = .ok (.lcmp, 1)) (d23 : decode cL_law (pc + 23) = .ok (.ifCond .eq 5, 3)) (d28 : decode cL_law (pc + 28) = .ok (.goto off, 3)) (hoff : ((pc + 28 : Nat) : Int) + off = (784 : Nat)) (k : Kt p l e s m args below meth c Q D cI cZ cL AM adC adM o b i cells slots) : W p l e room_1 s m args below meth c H locs cells slots Q (F0 m pc ls []) := by
  obtain ⟨hx, hb, hml, hown, hts, hK, hN, hZ, hTh, hTw, hNx, hX, hbl, hlt, hAM, hAo⟩ := id C
  obtain ⟨hP, hD, hPm, hDm, hPo, hS⟩ := id h
  have hK1 : va_K D vwCl [(cI, .int)] s := hK.sub [0] rfl
  have hK2 : va_K D vwCl [(cI, .int), (cZ, .boolean)] s := hK.sub [0, 1] rfl
  have hK3 : va_K D vwCl [(cI, .int), (cL, .long)] s := hK.sub [0, 2] rfl
  have hKo : va_K D vwCl [(cL, .long)] s := hK.sub [2] rfl
  have kk : W p l e room_1 s m args below meth c H locs cells slots Q (F0 m (pc + 28) ls []) := lv_goto (tgt := 784) hx hb d28 hoff (k H locs _ _ _ _ h hI (lv_sub hl [2, 3, 4, 5, 6] rfl))
  refine lv_aload_n hx hb d0 rfl (lv_at hl 4 rfl) ?_
  refine vp_callSi (va_Run.run (va_runV (As := []) (rest := []) ⟨hx, hb, hml, hown, hts⟩ (c_X5_thrown l D cI cZ AM adM τ) (cwV 0 hts gL_law_X5_thrown rfl rfl rfl (by decide +kernel) ⟨Nat.le_of_ble_eq_true rfl, Nat.le_of_ble_eq_true rfl⟩) ⟨Wm.blind, va_recv hK2 hPm (ci := 4) (q0 := 0) rfl rfl, fun U hU hW => ⟨rfl, Wm.go hPm hK2 hDm hU hW⟩⟩ rfl rfl hl.1 rfl (lv_room (Nat.le_of_ble_eq_true rfl)) d1 ⟨by omega, by omega⟩)) (fun r3 hr3 => ?_)
  refine lv_iload hx hb d4 (lv_at hl 1 rfl) ?_
  refine q_icmp_eq hx hb (tgt := pc + 11) Iff.rfl d6 (by omega) (fun _ => ?_) (fun z => absurd (hr3.trans hq.symm) z)
  refine lv_iload hx hb d11 (lv_at hl 1 rfl) ?_
  refine q_if_ne hx hb (tgt := pc + 28) Iff.rfl d13 (by omega) (fun _ => kk) (fun h0 => ?_)
  refine lv_aload_n hx hb d16 rfl (lv_at hl 5 rfl) ?_
  refine lv_iconst (v := nI 0) hx hb d17 (by decide) ?_
  refine va_lald hx hb hKo hPo 0 0 rfl rfl (vp_in_nI (by decide) (by decide)) d18 ?_
  rw [show (nI 0).toNatClampNeg = 0 from by decide +kernel, hz h0]
  refine lv_iload hx hb d19 (lv_at hl 0 rfl) ?_
  refine lv_i2l (v := r2.toInt64) hx hb d21 rfl ?_
  refine n_lceq hx hb d22 ?_
  exact q_if_eq hx hb (tgt := pc + 28) Iff.rfl d23 (by omega) (fun _ => kk) (fun z => absurd rfl z)
set_option maxHeartbeats 4000000 in
set_option maxRecDepth 100000 in
theorem t_endz {p : Program} {l : Launch} {e : Env} {s : State} {m : MethodId} {args : Array Value} {below : List Frame} {meth : Method} {c : Code} {H : Heap} {locs : List Loc} {cells slots : Nat} {Q : State → Prop} {D : va_G} {cI cZ cL : ClassId} {AM : Nat → Prop} {adC adM : Nat → Nat} {o b L i : Nat} {xs : Nat → Int32} {σ τ : Nat → Nat → Nat} {f : Nat → Int64} {ls : Array Slot} {r1 : Int32} {r2 : Bool} {pc : Nat} {off : Int} (C : Lw p l s m args c D cI cZ cL AM o b L xs) (h : Lp s D cI cZ cL AM adC adM o σ τ f H locs) (hI : IR σ τ) (hl : lv_has ls 7 [(6, .int (bI r2)), (5, .int r1), (0, .ref b), (1, .ref (adC 0)), (2, .ref (adM 0)), (3, .ref o), (4, .int (nI i))]) (hc : cells ≤ room_1.cells) (hs : slots ≤ room_1.slots) (hq : r1 = nI (τ 0 0)) (hz : r1 = 0 → f 0 = (bI r2).toInt64)
    (d0 : decode cL_law pc = .ok (.aload_n 2, 1)) (d1 : decode cL_law (pc + 1) = .ok (.invokevirtual 58, 3)) (d4 : decode cL_law (pc + 4) = .ok (.iload 5, 2)) (d6 : decode cL_law (pc + 6) = .ok (.if_icmp .eq 5, 3)) (d11 : decode cL_law (pc + 11) = .ok (.iload 5, 2)) (d13 : decode cL_law (pc + 13) = .ok (.ifCond .ne 22, 3)) (d16 : decode cL_law (pc + 16) = .ok (.aload_n 3, 1)) (d17 : decode cL_law (pc + 17) = .ok (.iconst 0, 1)) (d18 : decode cL_law (pc + 18) = .ok (.laload, 1)) (d19 : decode cL_law (pc + 19) = .ok (.iload 6, 2)) (d21 : decode cL_law (pc + 21) = .ok (.ifCond .eq 7, 3)) (d24 : decode cL_law (pc + 24) = .ok (.lconst 1, 1)) (d25 : decode cL_law (pc + 25) = .ok (.goto 4, 3)) (d28 : decode cL_law (pc + 28) = .ok (.lconst 0, 1)) (d29 : decode cL_law (pc + 29) = .ok (.lcmp, 1)) (d30 : decode cL_law (pc + 30) = .ok (.ifCond .eq 5, 3)) (d35 : decode cL_law (pc + 35) = .ok (.goto off, 3)) (hoff : ((pc + 35 : Nat) : Int) + off = (784 : Nat)) (k : Kt p l e s m args below meth c Q D cI cZ cL AM adC adM o b i cells slots) : W p l e room_1 s m args below meth c H locs cells slots Q (F0 m pc ls []) := by
  obtain ⟨hx, hb, hml, hown, hts, hK, hN, hZ, hTh, hTw, hNx, hX, hbl, hlt, hAM, hAo⟩ := id C
  obtain ⟨hP, hD, hPm, hDm, hPo, hS⟩ := id h
  have hK1 : va_K D vwCl [(cI, .int)] s := hK.sub [0] rfl
  have hK2 : va_K D vwCl [(cI, .int), (cZ, .boolean)] s := hK.sub [0, 1] rfl
  have hK3 : va_K D vwCl [(cI, .int), (cL, .long)] s := hK.sub [0, 2] rfl
  have hKo : va_K D vwCl [(cL, .long)] s := hK.sub [2] rfl
  have kk : W p l e room_1 s m args below meth c H locs cells slots Q (F0 m (pc + 35) ls []) := lv_goto (tgt := 784) hx hb d35 hoff (k H locs _ _ _ _ h hI (lv_sub hl [2, 3, 4, 5, 6] rfl))
  refine lv_aload_n hx hb d0 rfl (lv_at hl 4 rfl) ?_
  refine vp_callSi (va_Run.run (va_runV (As := []) (rest := []) ⟨hx, hb, hml, hown, hts⟩ (c_X5_thrown l D cI cZ AM adM τ) (cwV 0 hts gL_law_X5_thrown rfl rfl rfl (by decide +kernel) ⟨Nat.le_of_ble_eq_true rfl, Nat.le_of_ble_eq_true rfl⟩) ⟨Wm.blind, va_recv hK2 hPm (ci := 4) (q0 := 0) rfl rfl, fun U hU hW => ⟨rfl, Wm.go hPm hK2 hDm hU hW⟩⟩ rfl rfl hl.1 rfl (lv_room (Nat.le_of_ble_eq_true rfl)) d1 ⟨by omega, by omega⟩)) (fun r3 hr3 => ?_)
  refine lv_iload hx hb d4 (lv_at hl 1 rfl) ?_
  refine q_icmp_eq hx hb (tgt := pc + 11) Iff.rfl d6 (by omega) (fun _ => ?_) (fun z => absurd (hr3.trans hq.symm) z)
  refine lv_iload hx hb d11 (lv_at hl 1 rfl) ?_
  refine q_if_ne hx hb (tgt := pc + 35) Iff.rfl d13 (by omega) (fun _ => kk) (fun h0 => ?_)
  refine lv_aload_n hx hb d16 rfl (lv_at hl 5 rfl) ?_
  refine lv_iconst (v := nI 0) hx hb d17 (by decide) ?_
  refine va_lald hx hb hKo hPo 0 0 rfl rfl (vp_in_nI (by decide) (by decide)) d18 ?_
  rw [show (nI 0).toNatClampNeg = 0 from by decide +kernel, hz h0]
  refine lv_iload hx hb d19 (lv_at hl 0 rfl) ?_
  have k2 : W p l e room_1 s m args below meth c H locs cells slots Q (F0 m (pc + 29) ls (.long (bI r2).toInt64 :: .long (bI r2).toInt64 :: [])) := n_lceq hx hb d29 (q_if_eq hx hb (tgt := pc + 35) Iff.rfl d30 (by omega) (fun _ => kk) (fun z => absurd rfl z))
  refine q_if_eq hx hb (tgt := pc + 28) (bI_z (b := r2)) d21 (by omega) (fun c_z => ?_) (fun c_z => ?_)
  · subst c_z
    exact lv_lconst (v := (bI false).toInt64) hx hb d28 (by decide +kernel) k2
  · obtain rfl := (Bool.not_eq_false _).mp c_z
    exact lv_lconst (v := (bI true).toInt64) hx hb d24 (by decide +kernel) (lv_goto (tgt := pc + 29) hx hb d25 (by omega) k2)
