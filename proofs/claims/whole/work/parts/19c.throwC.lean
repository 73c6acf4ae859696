/-! THE CLASS's methods where they throw -/
def Thr (A : Nat → Prop) (U : State) (H : Heap) : Prop := vx_Zq Bundle.tN "UNASSIGNED_STACK" Bundle.steD A U H ∧ vx_Zq Bundle.tN "SUPPRESSED_SENTINEL" Bundle.listD A U H
theorem Thr.go {A : Nat → Prop} {s U : State} {H : Heap} {locs : List Loc} (h : Thr A s s.heap) (hS : va_S A s.heap H locs) (hvm : s.vm.Alike U.vm) (hU : U.heap = H) : Thr A U U.heap := by
  rw [hU]
  exact ⟨(h.1.kept hS.2.1).moved hvm, (h.2.kept hS.2.1).moved hvm⟩
def twL : List Cond := [.castable "java/lang/IndexOutOfBoundsException" "java/lang/IndexOutOfBoundsException", .castable "java/lang/IllegalArgumentException" "java/lang/IllegalArgumentException", .castable "java/lang/IllegalStateException" "java/lang/IllegalStateException", .castable "java/lang/UnsupportedOperationException" "java/lang/UnsupportedOperationException", .declares ⟨"java/lang/RuntimeException", "<init>", "()V"⟩, .declares ⟨"java/lang/Exception", "<init>", "()V"⟩, .declares ⟨"java/lang/Throwable", "<init>", "()V"⟩]
def Tw (U : State) : Prop := ∀ w ∈ twL, va_Nw w U
theorem twL_on : ∀ w ∈ twL, w.onTables = true := by decide +kernel
theorem Tw.use {args : Array Value} {U : State} (h : Tw U) : ∀ w ∈ twL, w.before args U = true := fun w hw => va_Nw.use (twL_on w hw) (h w hw)
theorem Tw.same {s U : State} (hv : s.vm = U.vm) (h : Tw s) : Tw U := fun w hw => va_Nw.same (twL_on w hw) hv (h w hw)
theorem Tw.warm {s U : State} (hW : s.WarmedH U.vm) (h : Tw s) : Tw U := by
  intro w hw
  have h1 := h w hw
  simp only [twL, List.mem_cons, List.not_mem_nil, or_false] at hw
  rcases hw with rfl | rfl | rfl | rfl | rfl | rfl | rfl <;> first | exact va_Nw.warmC hW h1 | exact va_Nw.warmD hW h1
def Wx (D : va_G) (cI : ClassId) (A : Nat → Prop) (ad : Nat → Nat) (σ : Nat → Nat → Nat) (U : State) : Prop := Wc D cI A ad σ U ∧ Thr A U U.heap ∧ Tw U
theorem Wx.go {D : va_G} {cI : ClassId} {A : Nat → Prop} {ad : Nat → Nat} {σ : Nat → Nat → Nat} {s U : State} {H : Heap} {locs : List Loc} (hP : va_P D vwCl (WC ad cI σ) H) (hK : va_K D vwCl [(cI, .int)] s) (hD : va_D A (WC ad cI σ)) (hN : Nst s) (hZ : Stt A s s.heap) (hTh : Thr A s s.heap) (hTw : Tw s) (hS : va_S A s.heap H locs) (hU : U.heap = H) (hW : s.WarmedH U.vm) : Wx D cI A ad σ U :=
  ⟨Wc.go hP hK hD hN hZ hS hU hW, hTh.go hS hW.alike hU, hTw.warm hW⟩
theorem Wx.blind {D : va_G} {cI : ClassId} {A : Nat → Prop} {ad : Nat → Nat} {σ : Nat → Nat → Nat} {av : List Value} : FrameBlind (va_Pc av (Wx D cI A ad σ)) := by
  intro a U g mk h
  obtain ⟨h0, h1, h2, h3⟩ := h
  exact ⟨h0, (Wc.blind (av := av) a U g mk ⟨h0, h1⟩).2, Thr.go (s := U) (U := U.calling g mk a) (H := U.heap) (locs := []) h2 va_S.rf (Vm.Alike.refl U.vm) rfl, Tw.same (s := U) (U := U.calling g mk a) rfl h3⟩
theorem tw_49 : ∀ w ∈ (vx_at0 RX4 49 "java/lang/IndexOutOfBoundsException" ["java/lang/RuntimeException", "java/lang/Exception"]).filter (fun w => !goodWord w), w ∈ twL := by decide +kernel
theorem tg_47 : ∀ w ∈ Cond.classLink RX4 47 "java/lang/IndexOutOfBoundsException" :: Cond.initialized "java/lang/IndexOutOfBoundsException" :: vx_at0 RX4 49 "java/lang/IndexOutOfBoundsException" ["java/lang/RuntimeException", "java/lang/Exception"], vx_ot w = true := by decide +kernel
theorem tw_56 : ∀ w ∈ (vx_at0 RX4 56 "java/lang/IllegalArgumentException" ["java/lang/RuntimeException", "java/lang/Exception"]).filter (fun w => !goodWord w), w ∈ twL := by decide +kernel
theorem tg_54 : ∀ w ∈ Cond.classLink RX4 54 "java/lang/IllegalArgumentException" :: Cond.initialized "java/lang/IllegalArgumentException" :: vx_at0 RX4 56 "java/lang/IllegalArgumentException" ["java/lang/RuntimeException", "java/lang/Exception"], vx_ot w = true := by decide +kernel
theorem tw_70 : ∀ w ∈ (vx_at0 RX4 70 "java/lang/IllegalStateException" ["java/lang/RuntimeException", "java/lang/Exception"]).filter (fun w => !goodWord w), w ∈ twL := by decide +kernel
theorem tg_68 : ∀ w ∈ Cond.classLink RX4 68 "java/lang/IllegalStateException" :: Cond.initialized "java/lang/IllegalStateException" :: vx_at0 RX4 70 "java/lang/IllegalStateException" ["java/lang/RuntimeException", "java/lang/Exception"], vx_ot w = true := by decide +kernel
theorem tw_80 : ∀ w ∈ (vx_at0 RX4 80 "java/lang/UnsupportedOperationException" ["java/lang/RuntimeException", "java/lang/Exception"]).filter (fun w => !goodWord w), w ∈ twL := by decide +kernel
theorem tg_78 : ∀ w ∈ Cond.classLink RX4 78 "java/lang/UnsupportedOperationException" :: Cond.initialized "java/lang/UnsupportedOperationException" :: vx_at0 RX4 80 "java/lang/UnsupportedOperationException" ["java/lang/RuntimeException", "java/lang/Exception"], vx_ot w = true := by decide +kernel
theorem mm_X4_checkPair_c47 : Cond.classLink RX4 47 "java/lang/IndexOutOfBoundsException" ∈ wsX4_checkPair := by decide +kernel
theorem mm_X4_checkPair_i47 : Cond.initialized "java/lang/IndexOutOfBoundsException" ∈ wsX4_checkPair := by decide +kernel
theorem at_X4_checkPair_49 : ∀ w ∈ (vx_at0 RX4 49 "java/lang/IndexOutOfBoundsException" ["java/lang/RuntimeException", "java/lang/Exception"]).filter goodWord, w ∈ wsX4_checkPair := by decide +kernel
def rX4_checkPair_o1 : Room := { frames := 6, cells := 1, slots := 6, locals := 90 }
set_option maxHeartbeats 4000000 in
set_option maxRecDepth 100000 in
theorem x_X4_checkPair_o1 (l : Launch) (hlt : l.stackTraces = false) (D : va_G) (cI : ClassId) (A : Nat → Prop) (ad : Nat → Nat) (σ : Nat → Nat → Nat) (t1 u1 : Int32) (hc : 7 ≤ σ 0 1 ∧ σ 0 1 ≤ 24) (hxo : t1 < 0 ∨ nI (σ 0 1) ≤ t1) : vx_Met l yX4_checkPair wsX4_checkPair rX4_checkPair_o1 (va_Pc [.ref (ad 0), .int t1, .int u1] (Wx D cI A ad σ)) (va_Qv (fun _ : Unit => False) (fun _ _ => True) A) (vx_X (fun u => u = σ) (fun E u t => E = "java/lang/IndexOutOfBoundsException" ∧ va_P D vwCl (WC ad cI u) t.heap ∧ va_D A (WC ad cI u)) A) 1 6 A := by
  refine vx_ofW (cc := cX4_checkPair) (maxL := 3) (ret := none) (by decide) rfl ?_
  intro p e s m args below meth c s₁ B hml htab hv
  obtain ⟨rfl, ⟨hP, hK, hD, hN, hZ⟩, hTh, hTw⟩ := hv
  have hx := B.exec
  have hb := B.bytes
  have hr := B.returns
  have hts := atoms_spec (ws := wsX4_checkPair) B.pre
  have hown : s.vm.findClass RX4 = some m.cls := findClass_of_methodNamed B.named
  have hlocks := B.notSynchronized
  have hS : va_S A s.heap s.heap [] := va_S.rf
  have hl := lv_entry ([.ref (ad 0), .int t1, .int u1]) (n := 3) (Nat.le_of_ble_eq_true rfl)
  rw [lg_entry_eq]
  generalize (lg_sl ([.ref (ad 0), .int t1, .int u1]) ++ List.replicate (3 - (lg_sl ([.ref (ad 0), .int t1, .int u1])).length) Slot.unset).toArray = ls at hl ⊢
  have hl : lv_has ls 3 [(0, .ref (ad 0)), (1, .int t1), (2, .int u1)] := hl
  refine lv_aload_n hx hb dX4_checkPair_0 rfl (lv_at hl 0 rfl) ?_
  refine va_get (D := D) (ci := 3) (v := .ref (ad 1)) (C := RX4) (T := TX4) (N := 6) hx hb hts in_X4_checkPair_X4 hown hK hP 0 rfl rfl 0 (by decide) (hts _ lk_X4_checkPair_12) (fun _ h9 => h9) rfl dX4_checkPair_1 ?_
  refine lv_iload_n hx hb dX4_checkPair_4 rfl (lv_at hl 1 rfl) ?_
  refine vp_callSi (va_Run.run (va_runV (As := [.int t1]) (rest := []) ⟨hx, hb, hml, hown, hts⟩ (c_X3_has_out l D cI A ad σ t1 hxo) (cwV 1 hts gX4_checkPair_X3_has rfl rfl rfl (by decide +kernel) ⟨Nat.le_of_ble_eq_true rfl, Nat.le_of_ble_eq_true rfl⟩) ⟨Wc.blind, va_recv hK hP (ci := 2) (q0 := 1) rfl rfl, fun U hU hW => ⟨rfl, Wc.go hP hK hD hN hZ hS hU hW⟩⟩ rfl rfl hl.1 rfl (lv_room (Nat.le_of_ble_eq_true rfl)) dX4_checkPair_5 ⟨Nat.zero_le _, Nat.zero_le _⟩)) (fun r_1 hr_1 => ?_)
  refine n_to (w := bI false) (hr_1.trans rfl) ?_
  refine q_if_eq hx hb (tgt := 22) (bI_z) dX4_checkPair_8 (by decide) (fun c_8 => ?_) (fun c_8 => ?_)
  · exact vx_throw0 hx hb hlt hown (own := RX4) (cls := "java/lang/IndexOutOfBoundsException") (names := ["java/lang/RuntimeException", "java/lang/Exception"]) (ik := 47) (ic := 49) (by decide +kernel) (by decide +kernel) (hts _ mm_X4_checkPair_c47) (hts _ mm_X4_checkPair_i47) (vx_hat (fun w h => hts w (at_X4_checkPair_49 w h)) tw_49 (hTw.use)) tg_47 hTh.1 hTh.2 hS (by rw [hml]; exact hl.1) dX4_checkPair_22 dX4_checkPair_25 dX4_checkPair_26 dX4_checkPair_29 (fun x hx => (htab x hx).elim) (Nat.le_of_ble_eq_true rfl) (Nat.le_of_ble_eq_true rfl) (Nat.le_of_ble_eq_true rfl) (Nat.le_of_ble_eq_true rfl) hlocks (fun t hvm hz hk => ⟨σ, rfl, ⟨rfl, hP.kept (fun k q h => hk q.1 (hP k q h).lt), hD⟩, ⟨Nat.le_trans hS.1 hz, fun q h1 h2 => (hk q (Nat.lt_of_lt_of_le h1 hS.1)).trans (hS.2.1 q h1 h2)⟩⟩) hS.2.2 (Nat.le_of_ble_eq_true rfl) (Nat.le_of_ble_eq_true rfl)
  · exact absurd rfl c_8
def rX4_checkPair_o2 : Room := { frames := 6, cells := 1, slots := 6, locals := 90 }
set_option maxHeartbeats 4000000 in
set_option maxRecDepth 100000 in
theorem x_X4_checkPair_o2 (l : Launch) (hlt : l.stackTraces = false) (D : va_G) (cI : ClassId) (A : Nat → Prop) (ad : Nat → Nat) (σ : Nat → Nat → Nat) (t1 : Nat) (u1 : Int32) (hc : 7 ≤ σ 0 1 ∧ σ 0 1 ≤ 24) (ht : t1 < σ 0 1) (hxo : u1 < 0 ∨ nI (σ 0 1) ≤ u1) : vx_Met l yX4_checkPair wsX4_checkPair rX4_checkPair_o2 (va_Pc [.ref (ad 0), .int (nI t1), .int u1] (Wx D cI A ad σ)) (va_Qv (fun _ : Unit => False) (fun _ _ => True) A) (vx_X (fun u => u = σ) (fun E u t => E = "java/lang/IndexOutOfBoundsException" ∧ va_P D vwCl (WC ad cI u) t.heap ∧ va_D A (WC ad cI u)) A) 1 6 A := by
  refine vx_ofW (cc := cX4_checkPair) (maxL := 3) (ret := none) (by decide) rfl ?_
  intro p e s m args below meth c s₁ B hml htab hv
  obtain ⟨rfl, ⟨hP, hK, hD, hN, hZ⟩, hTh, hTw⟩ := hv
  have hx := B.exec
  have hb := B.bytes
  have hr := B.returns
  have hts := atoms_spec (ws := wsX4_checkPair) B.pre
  have hown : s.vm.findClass RX4 = some m.cls := findClass_of_methodNamed B.named
  have hlocks := B.notSynchronized
  have hS : va_S A s.heap s.heap [] := va_S.rf
  have hl := lv_entry ([.ref (ad 0), .int (nI t1), .int u1]) (n := 3) (Nat.le_of_ble_eq_true rfl)
  rw [lg_entry_eq]
  generalize (lg_sl ([.ref (ad 0), .int (nI t1), .int u1]) ++ List.replicate (3 - (lg_sl ([.ref (ad 0), .int (nI t1), .int u1])).length) Slot.unset).toArray = ls at hl ⊢
  have hl : lv_has ls 3 [(0, .ref (ad 0)), (1, .int (nI t1)), (2, .int u1)] := hl
  refine lv_aload_n hx hb dX4_checkPair_0 rfl (lv_at hl 0 rfl) ?_
  refine va_get (D := D) (ci := 3) (v := .ref (ad 1)) (C := RX4) (T := TX4) (N := 6) hx hb hts in_X4_checkPair_X4 hown hK hP 0 rfl rfl 0 (by decide) (hts _ lk_X4_checkPair_12) (fun _ h9 => h9) rfl dX4_checkPair_1 ?_
  refine lv_iload_n hx hb dX4_checkPair_4 rfl (lv_at hl 1 rfl) ?_
  refine vp_callSi (va_Run.run (va_runV (As := [.int (nI t1)]) (rest := []) ⟨hx, hb, hml, hown, hts⟩ (c_X3_has_in l D cI A ad σ t1 ht hc.2) (cwV 1 hts gX4_checkPair_X3_has rfl rfl rfl (by decide +kernel) ⟨Nat.le_of_ble_eq_true rfl, Nat.le_of_ble_eq_true rfl⟩) ⟨Wc.blind, va_recv hK hP (ci := 2) (q0 := 1) rfl rfl, fun U hU hW => ⟨rfl, Wc.go hP hK hD hN hZ hS hU hW⟩⟩ rfl rfl hl.1 rfl (lv_room (Nat.le_of_ble_eq_true rfl)) dX4_checkPair_5 ⟨Nat.zero_le _, Nat.zero_le _⟩)) (fun r_1 hr_1 => ?_)
  refine n_to (w := bI true) (hr_1.trans rfl) ?_
  refine q_if_eq hx hb (tgt := 22) (bI_z) dX4_checkPair_8 (by decide) (fun c_8 => ?_) (fun c_8 => ?_)
  · cases c_8
  · refine lv_aload_n hx hb dX4_checkPair_11 rfl (lv_at hl 0 rfl) ?_
    refine va_get (D := D) (ci := 3) (v := .ref (ad 1)) (C := RX4) (T := TX4) (N := 6) hx hb hts in_X4_checkPair_X4 hown hK hP 0 rfl rfl 0 (by decide) (hts _ lk_X4_checkPair_12) (fun _ h9 => h9) rfl dX4_checkPair_12 ?_
    refine lv_iload_n hx hb dX4_checkPair_15 rfl (lv_at hl 2 rfl) ?_
    refine vp_callSi (va_Run.run (va_runV (As := [.int u1]) (rest := []) ⟨hx, hb, hml, hown, hts⟩ (c_X3_has_out l D cI A ad σ u1 hxo) (cwV 1 hts gX4_checkPair_X3_has rfl rfl rfl (by decide +kernel) ⟨Nat.le_of_ble_eq_true rfl, Nat.le_of_ble_eq_true rfl⟩) ⟨Wc.blind, va_recv hK hP (ci := 2) (q0 := 1) rfl rfl, fun U hU hW => ⟨rfl, Wc.go hP hK hD hN hZ hS hU hW⟩⟩ rfl rfl hl.1 rfl (lv_room (Nat.le_of_ble_eq_true rfl)) dX4_checkPair_16 ⟨Nat.zero_le _, Nat.zero_le _⟩)) (fun r_2 hr_2 => ?_)
    refine n_to (w := bI false) (hr_2.trans rfl) ?_
    refine q_if_ne hx hb (tgt := 30) (bI_z) dX4_checkPair_19 (by decide) (fun c_19 => ?_) (fun c_19 => ?_)
    · exact absurd rfl c_19
    · exact vx_throw0 hx hb hlt hown (own := RX4) (cls := "java/lang/IndexOutOfBoundsException") (names := ["java/lang/RuntimeException", "java/lang/Exception"]) (ik := 47) (ic := 49) (by decide +kernel) (by decide +kernel) (hts _ mm_X4_checkPair_c47) (hts _ mm_X4_checkPair_i47) (vx_hat (fun w h => hts w (at_X4_checkPair_49 w h)) tw_49 (hTw.use)) tg_47 hTh.1 hTh.2 hS (by rw [hml]; exact hl.1) dX4_checkPair_22 dX4_checkPair_25 dX4_checkPair_26 dX4_checkPair_29 (fun x hx => (htab x hx).elim) (Nat.le_of_ble_eq_true rfl) (Nat.le_of_ble_eq_true rfl) (Nat.le_of_ble_eq_true rfl) (Nat.le_of_ble_eq_true rfl) hlocks (fun t hvm hz hk => ⟨σ, rfl, ⟨rfl, hP.kept (fun k q h => hk q.1 (hP k q h).lt), hD⟩, ⟨Nat.le_trans hS.1 hz, fun q h1 h2 => (hk q (Nat.lt_of_lt_of_le h1 hS.1)).trans (hS.2.1 q h1 h2)⟩⟩) hS.2.2 (Nat.le_of_ble_eq_true rfl) (Nat.le_of_ble_eq_true rfl)
theorem mm_X4_checkPair_c54 : Cond.classLink RX4 54 "java/lang/IllegalArgumentException" ∈ wsX4_checkPair := by decide +kernel
theorem mm_X4_checkPair_i54 : Cond.initialized "java/lang/IllegalArgumentException" ∈ wsX4_checkPair := by decide +kernel
theorem at_X4_checkPair_56 : ∀ w ∈ (vx_at0 RX4 56 "java/lang/IllegalArgumentException" ["java/lang/RuntimeException", "java/lang/Exception"]).filter goodWord, w ∈ wsX4_checkPair := by decide +kernel
def rX4_checkPair_sort : Room := { frames := 6, cells := 1, slots := 6, locals := 90 }
set_option maxHeartbeats 4000000 in
set_option maxRecDepth 100000 in
theorem x_X4_checkPair_sort (l : Launch) (hlt : l.stackTraces = false) (D : va_G) (cI : ClassId) (A : Nat → Prop) (ad : Nat → Nat) (σ : Nat → Nat → Nat) (t1 u1 : Nat) (hI : IC σ) (ht : t1 < σ 0 1) (hu : u1 < σ 0 1) (hsu : σ 6 t1 ≠ σ 6 u1) : vx_Met l yX4_checkPair wsX4_checkPair rX4_checkPair_sort (va_Pc [.ref (ad 0), .int (nI t1), .int (nI u1)] (Wx D cI A ad σ)) (va_Qv (fun _ : Unit => False) (fun _ _ => True) A) (vx_X (fun u => u = σ) (fun E u t => E = "java/lang/IllegalArgumentException" ∧ va_P D vwCl (WC ad cI u) t.heap ∧ va_D A (WC ad cI u)) A) 1 6 A := by
  refine vx_ofW (cc := cX4_checkPair) (maxL := 3) (ret := none) (by decide) rfl ?_
  intro p e s m args below meth c s₁ B hml htab hv
  obtain ⟨rfl, ⟨hP, hK, hD, hN, hZ⟩, hTh, hTw⟩ := hv
  have hx := B.exec
  have hb := B.bytes
  have hr := B.returns
  have hts := atoms_spec (ws := wsX4_checkPair) B.pre
  have hown : s.vm.findClass RX4 = some m.cls := findClass_of_methodNamed B.named
  have hlocks := B.notSynchronized
  have hS : va_S A s.heap s.heap [] := va_S.rf
  have hl := lv_entry ([.ref (ad 0), .int (nI t1), .int (nI u1)]) (n := 3) (Nat.le_of_ble_eq_true rfl)
  rw [lg_entry_eq]
  generalize (lg_sl ([.ref (ad 0), .int (nI t1), .int (nI u1)]) ++ List.replicate (3 - (lg_sl ([.ref (ad 0), .int (nI t1), .int (nI u1)])).length) Slot.unset).toArray = ls at hl ⊢
  have hl : lv_has ls 3 [(0, .ref (ad 0)), (1, .int (nI t1)), (2, .int (nI u1))] := hl
  have hc := hI.terms
  have hs1 := hI.sorts (j := t1) (by omega)
  have hs2 := hI.sorts (j := u1) (by omega)
  refine lv_aload_n hx hb dX4_checkPair_0 rfl (lv_at hl 0 rfl) ?_
  refine va_get (D := D) (ci := 3) (v := .ref (ad 1)) (C := RX4) (T := TX4) (N := 6) hx hb hts in_X4_checkPair_X4 hown hK hP 0 rfl rfl 0 (by decide) (hts _ lk_X4_checkPair_12) (fun _ h9 => h9) rfl dX4_checkPair_1 ?_
  refine lv_iload_n hx hb dX4_checkPair_4 rfl (lv_at hl 1 rfl) ?_
  refine vp_callSi (va_Run.run (va_runV (As := [.int (nI t1)]) (rest := []) ⟨hx, hb, hml, hown, hts⟩ (c_X3_has_in l D cI A ad σ t1 ht hc.2) (cwV 1 hts gX4_checkPair_X3_has rfl rfl rfl (by decide +kernel) ⟨Nat.le_of_ble_eq_true rfl, Nat.le_of_ble_eq_true rfl⟩) ⟨Wc.blind, va_recv hK hP (ci := 2) (q0 := 1) rfl rfl, fun U hU hW => ⟨rfl, Wc.go hP hK hD hN hZ hS hU hW⟩⟩ rfl rfl hl.1 rfl (lv_room (Nat.le_of_ble_eq_true rfl)) dX4_checkPair_5 ⟨Nat.zero_le _, Nat.zero_le _⟩)) (fun r_1 hr_1 => ?_)
  refine n_to (w := bI true) (hr_1.trans rfl) ?_
  refine q_if_eq hx hb (tgt := 22) (bI_z) dX4_checkPair_8 (by decide) (fun c_8 => ?_) (fun c_8 => ?_)
  · cases c_8
  · refine lv_aload_n hx hb dX4_checkPair_11 rfl (lv_at hl 0 rfl) ?_
    refine va_get (D := D) (ci := 3) (v := .ref (ad 1)) (C := RX4) (T := TX4) (N := 6) hx hb hts in_X4_checkPair_X4 hown hK hP 0 rfl rfl 0 (by decide) (hts _ lk_X4_checkPair_12) (fun _ h9 => h9) rfl dX4_checkPair_12 ?_
    refine lv_iload_n hx hb dX4_checkPair_15 rfl (lv_at hl 2 rfl) ?_
    refine vp_callSi (va_Run.run (va_runV (As := [.int (nI u1)]) (rest := []) ⟨hx, hb, hml, hown, hts⟩ (c_X3_has_in l D cI A ad σ u1 hu hc.2) (cwV 1 hts gX4_checkPair_X3_has rfl rfl rfl (by decide +kernel) ⟨Nat.le_of_ble_eq_true rfl, Nat.le_of_ble_eq_true rfl⟩) ⟨Wc.blind, va_recv hK hP (ci := 2) (q0 := 1) rfl rfl, fun U hU hW => ⟨rfl, Wc.go hP hK hD hN hZ hS hU hW⟩⟩ rfl rfl hl.1 rfl (lv_room (Nat.le_of_ble_eq_true rfl)) dX4_checkPair_16 ⟨Nat.zero_le _, Nat.zero_le _⟩)) (fun r_2 hr_2 => ?_)
    refine n_to (w := bI true) (hr_2.trans rfl) ?_
    refine q_if_ne hx hb (tgt := 30) (bI_z) dX4_checkPair_19 (by decide) (fun c_19 => ?_) (fun c_19 => ?_)
    · refine lv_aload_n hx hb dX4_checkPair_30 rfl (lv_at hl 0 rfl) ?_
      refine va_get (D := D) (ci := 3) (v := .ref (ad 1)) (C := RX4) (T := TX4) (N := 6) hx hb hts in_X4_checkPair_X4 hown hK hP 0 rfl rfl 0 (by decide) (hts _ lk_X4_checkPair_12) (fun _ h9 => h9) rfl dX4_checkPair_31 ?_
      refine lv_iload_n hx hb dX4_checkPair_34 rfl (lv_at hl 1 rfl) ?_
      refine vp_callSi (va_Run.run (va_runV (As := [.int (nI t1)]) (rest := []) ⟨hx, hb, hml, hown, hts⟩ (c_X3_sortOf_in l D cI A ad σ t1 ht hc.2) (cwV 1 hts gX4_checkPair_X3_sortOf rfl rfl rfl (by decide +kernel) ⟨Nat.le_of_ble_eq_true rfl, Nat.le_of_ble_eq_true rfl⟩) ⟨Wc.blind, va_recv hK hP (ci := 2) (q0 := 1) rfl rfl, fun U hU hW => ⟨rfl, Wc.go hP hK hD hN hZ hS hU hW⟩⟩ rfl rfl hl.1 rfl (lv_room (Nat.le_of_ble_eq_true rfl)) dX4_checkPair_35 ⟨Nat.zero_le _, Nat.zero_le _⟩)) (fun r_3 hr_3 => ?_)
      refine n_to (w := nI (σ 6 t1)) (hr_3.trans rfl) ?_
      refine lv_aload_n hx hb dX4_checkPair_38 rfl (lv_at hl 0 rfl) ?_
      refine va_get (D := D) (ci := 3) (v := .ref (ad 1)) (C := RX4) (T := TX4) (N := 6) hx hb hts in_X4_checkPair_X4 hown hK hP 0 rfl rfl 0 (by decide) (hts _ lk_X4_checkPair_12) (fun _ h9 => h9) rfl dX4_checkPair_39 ?_
      refine lv_iload_n hx hb dX4_checkPair_42 rfl (lv_at hl 2 rfl) ?_
      refine vp_callSi (va_Run.run (va_runV (As := [.int (nI u1)]) (rest := [.int (nI (σ 6 t1))]) ⟨hx, hb, hml, hown, hts⟩ (c_X3_sortOf_in l D cI A ad σ u1 hu hc.2) (cwV 1 hts gX4_checkPair_X3_sortOf rfl rfl rfl (by decide +kernel) ⟨Nat.le_of_ble_eq_true rfl, Nat.le_of_ble_eq_true rfl⟩) ⟨Wc.blind, va_recv hK hP (ci := 2) (q0 := 1) rfl rfl, fun U hU hW => ⟨rfl, Wc.go hP hK hD hN hZ hS hU hW⟩⟩ rfl rfl hl.1 rfl (lv_room (Nat.le_of_ble_eq_true rfl)) dX4_checkPair_43 ⟨Nat.zero_le _, Nat.zero_le _⟩)) (fun r_4 hr_4 => ?_)
      refine n_to (w := nI (σ 6 u1)) (hr_4.trans rfl) ?_
      refine q_icmp_eq hx hb (tgt := 57) (nI_eq (by omega) (by omega)) dX4_checkPair_46 (by decide) (fun c_46 => ?_) (fun c_46 => ?_)
      · exact absurd c_46 hsu
      · exact vx_throw0 hx hb hlt hown (own := RX4) (cls := "java/lang/IllegalArgumentException") (names := ["java/lang/RuntimeException", "java/lang/Exception"]) (ik := 54) (ic := 56) (by decide +kernel) (by decide +kernel) (hts _ mm_X4_checkPair_c54) (hts _ mm_X4_checkPair_i54) (vx_hat (fun w h => hts w (at_X4_checkPair_56 w h)) tw_56 (hTw.use)) tg_54 hTh.1 hTh.2 hS (by rw [hml]; exact hl.1) dX4_checkPair_49 dX4_checkPair_52 dX4_checkPair_53 dX4_checkPair_56 (fun x hx => (htab x hx).elim) (Nat.le_of_ble_eq_true rfl) (Nat.le_of_ble_eq_true rfl) (Nat.le_of_ble_eq_true rfl) (Nat.le_of_ble_eq_true rfl) hlocks (fun t hvm hz hk => ⟨σ, rfl, ⟨rfl, hP.kept (fun k q h => hk q.1 (hP k q h).lt), hD⟩, ⟨Nat.le_trans hS.1 hz, fun q h1 h2 => (hk q (Nat.lt_of_lt_of_le h1 hS.1)).trans (hS.2.1 q h1 h2)⟩⟩) hS.2.2 (Nat.le_of_ble_eq_true rfl) (Nat.le_of_ble_eq_true rfl)
    · cases c_19
theorem mm_X4_termFor_c78 : Cond.classLink RX4 78 "java/lang/UnsupportedOperationException" ∈ wsX4_termFor := by decide +kernel
theorem mm_X4_termFor_i78 : Cond.initialized "java/lang/UnsupportedOperationException" ∈ wsX4_termFor := by decide +kernel
theorem at_X4_termFor_80 : ∀ w ∈ (vx_at0 RX4 80 "java/lang/UnsupportedOperationException" ["java/lang/RuntimeException", "java/lang/Exception"]).filter goodWord, w ∈ wsX4_termFor := by decide +kernel
def rX4_termFor_full : Room := { frames := 6, cells := 1, slots := 6, locals := 90 }
set_option maxHeartbeats 4000000 in
set_option maxRecDepth 100000 in
theorem x_X4_termFor_full (l : Launch) (hlt : l.stackTraces = false) (D : va_G) (cI : ClassId) (A : Nat → Prop) (ad : Nat → Nat) (σ : Nat → Nat → Nat) (q a i x : Nat) (hI : IC σ) (hq : q ≤ 2) (ha : a ≤ 24) (hi : i ≤ 24) (hx0 : x ≤ 24) (hfd : findF σ q a i x (σ 0 1 - 7) 7 = 0) (hfl : σ 0 1 = 24) : vx_Met l yX4_termFor wsX4_termFor rX4_termFor_full (va_Pc [.ref (ad 0), .int (nI q), .int (mI a), .int (mI i), .int (mI x)] (Wx D cI A ad σ)) (va_Qi (fun _ (_ : Unit) => False) (fun _ _ => True) A) (vx_X (fun u => u = σ) (fun E u t => E = "java/lang/UnsupportedOperationException" ∧ va_P D vwCl (WC ad cI u) t.heap ∧ va_D A (WC ad cI u)) A) 1 6 A := by
  refine vx_ofW (cc := cX4_termFor) (maxL := 6) (ret := (some .int)) (by decide) rfl ?_
  intro p e s m args below meth c s₁ B hml htab hv
  obtain ⟨rfl, ⟨hP, hK, hD, hN, hZ⟩, hTh, hTw⟩ := hv
  have hx := B.exec
  have hb := B.bytes
  have hr := B.returns
  have hts := atoms_spec (ws := wsX4_termFor) B.pre
  have hown : s.vm.findClass RX4 = some m.cls := findClass_of_methodNamed B.named
  have hlocks := B.notSynchronized
  have hS : va_S A s.heap s.heap [] := va_S.rf
  have hl := lv_entry ([.ref (ad 0), .int (nI q), .int (mI a), .int (mI i), .int (mI x)]) (n := 6) (Nat.le_of_ble_eq_true rfl)
  rw [lg_entry_eq]
  generalize (lg_sl ([.ref (ad 0), .int (nI q), .int (mI a), .int (mI i), .int (mI x)]) ++ List.replicate (6 - (lg_sl ([.ref (ad 0), .int (nI q), .int (mI a), .int (mI i), .int (mI x)])).length) Slot.unset).toArray = ls at hl ⊢
  have hl : lv_has ls 6 [(0, .ref (ad 0)), (1, .int (nI q)), (2, .int (mI a)), (3, .int (mI i)), (4, .int (mI x))] := hl
  have hc := hI.terms
  refine lv_aload_n hx hb dX4_termFor_0 rfl (lv_at hl 0 rfl) ?_
  refine va_get (D := D) (ci := 3) (v := .ref (ad 1)) (C := RX4) (T := TX4) (N := 6) hx hb hts in_X4_termFor_X4 hown hK hP 0 rfl rfl 0 (by decide) (hts _ lk_X4_termFor_12) (fun _ h9 => h9) rfl dX4_termFor_1 ?_
  refine lv_iload_n hx hb dX4_termFor_4 rfl (lv_at hl 1 rfl) ?_
  refine lv_iload_n hx hb dX4_termFor_5 rfl (lv_at hl 2 rfl) ?_
  refine lv_iload_n hx hb dX4_termFor_6 rfl (lv_at hl 3 rfl) ?_
  refine lv_iload hx hb dX4_termFor_7 (lv_at hl 4 rfl) ?_
  refine vp_callSi (va_Run.run (va_runV (As := [.int (nI q), .int (mI a), .int (mI i), .int (mI x)]) (rest := []) ⟨hx, hb, hml, hown, hts⟩ (c_X3_find l D cI A ad σ q a i x hI hq ha hi hx0) (cwV 4 hts gX4_termFor_X3_find rfl rfl rfl (by decide +kernel) ⟨Nat.le_of_ble_eq_true rfl, Nat.le_of_ble_eq_true rfl⟩) ⟨Wc.blind, va_recv hK hP (ci := 2) (q0 := 1) rfl rfl, fun U hU hW => ⟨rfl, Wc.go hP hK hD hN hZ hS hU hW⟩⟩ rfl rfl hl.1 rfl (lv_room (Nat.le_of_ble_eq_true rfl)) dX4_termFor_9 ⟨Nat.zero_le _, Nat.zero_le _⟩)) (fun r_1 hr_1 => ?_)
  refine n_to (w := mI (findF σ q a i x (σ 0 1 - 7) 7)) (hr_1.trans rfl) ?_
  refine lv_istore (lv' := [(5, .int (mI (findF σ q a i x (σ 0 1 - 7) 7))), (0, .ref (ad 0)), (1, .int (nI q)), (2, .int (mI a)), (3, .int (mI i)), (4, .int (mI x))]) hx hb dX4_termFor_12 hl (by decide) rfl (fun ls hl => ?_)
  refine lv_iload hx hb dX4_termFor_14 (lv_at hl 0 rfl) ?_
  refine lv_iconst (v := mI 0) hx hb dX4_termFor_16 (by decide) ?_
  refine q_icmp_eq hx hb (tgt := 23) (mI_eq (by omega) (by omega)) dX4_termFor_17 (by decide) (fun c_17 => ?_) (fun c_17 => ?_)
  · refine lv_aload_n hx hb dX4_termFor_23 rfl (lv_at hl 1 rfl) ?_
    refine va_get (D := D) (ci := 3) (v := .ref (ad 1)) (C := RX4) (T := TX4) (N := 6) hx hb hts in_X4_termFor_X4 hown hK hP 0 rfl rfl 0 (by decide) (hts _ lk_X4_termFor_12) (fun _ h9 => h9) rfl dX4_termFor_24 ?_
    refine va_getN (D := D) (ci := 2) (v := .int (nI (σ 0 1))) (C := RX3) (T := TX3) (N := 5) hx hb hts in_X4_termFor_X3 hown hK hP 1 rfl rfl 4 (by decide) (hN.use 4 rfl) (fun _ h9 => h9) rfl dX4_termFor_27 ?_
    refine lv_bipush (v := nI 24) hx hb dX4_termFor_30 (by decide) ?_
    refine n_icmp_lt hx hb (tgt := 43) (by omega) (by omega) dX4_termFor_32 (by decide) (fun c_32 => ?_) (fun c_32 => ?_)
    · omega
    · exact vx_throw0 hx hb hlt hown (own := RX4) (cls := "java/lang/UnsupportedOperationException") (names := ["java/lang/RuntimeException", "java/lang/Exception"]) (ik := 78) (ic := 80) (by decide +kernel) (by decide +kernel) (hts _ mm_X4_termFor_c78) (hts _ mm_X4_termFor_i78) (vx_hat (fun w h => hts w (at_X4_termFor_80 w h)) tw_80 (hTw.use)) tg_78 hTh.1 hTh.2 hS (by rw [hml]; exact hl.1) dX4_termFor_35 dX4_termFor_38 dX4_termFor_39 dX4_termFor_42 (fun x hx => (htab x hx).elim) (Nat.le_of_ble_eq_true rfl) (Nat.le_of_ble_eq_true rfl) (Nat.le_of_ble_eq_true rfl) (Nat.le_of_ble_eq_true rfl) hlocks (fun t hvm hz hk => ⟨σ, rfl, ⟨rfl, hP.kept (fun k q h => hk q.1 (hP k q h).lt), hD⟩, ⟨Nat.le_trans hS.1 hz, fun q h1 h2 => (hk q (Nat.lt_of_lt_of_le h1 hS.1)).trans (hS.2.1 q h1 h2)⟩⟩) hS.2.2 (Nat.le_of_ble_eq_true rfl) (Nat.le_of_ble_eq_true rfl)
  · exact absurd hfd c_17
theorem mm_X4_select_c47 : Cond.classLink RX4 47 "java/lang/IndexOutOfBoundsException" ∈ wsX4_select := by decide +kernel
theorem mm_X4_select_i47 : Cond.initialized "java/lang/IndexOutOfBoundsException" ∈ wsX4_select := by decide +kernel
theorem at_X4_select_49 : ∀ w ∈ (vx_at0 RX4 49 "java/lang/IndexOutOfBoundsException" ["java/lang/RuntimeException", "java/lang/Exception"]).filter goodWord, w ∈ wsX4_select := by decide +kernel
def rX4_select_o1 : Room := { frames := 6, cells := 1, slots := 6, locals := 90 }
set_option maxHeartbeats 4000000 in
set_option maxRecDepth 100000 in
theorem x_X4_select_o1 (l : Launch) (hlt : l.stackTraces = false) (D : va_G) (cI : ClassId) (A : Nat → Prop) (ad : Nat → Nat) (σ : Nat → Nat → Nat) (a : Int32) (i : Int32) (hc : 7 ≤ σ 0 1 ∧ σ 0 1 ≤ 24) (hxo : a < 0 ∨ nI (σ 0 1) ≤ a) : vx_Met l yX4_select wsX4_select rX4_select_o1 (va_Pc [.ref (ad 0), .int a, .int i] (Wx D cI A ad σ)) (va_Qi (fun _ (_ : Unit) => False) (fun _ _ => True) A) (vx_X (fun u => u = σ) (fun E u t => E = "java/lang/IndexOutOfBoundsException" ∧ va_P D vwCl (WC ad cI u) t.heap ∧ va_D A (WC ad cI u)) A) 1 6 A := by
  refine vx_ofW (cc := cX4_select) (maxL := 3) (ret := (some .int)) (by decide) rfl ?_
  intro p e s m args below meth c s₁ B hml htab hv
  obtain ⟨rfl, ⟨hP, hK, hD, hN, hZ⟩, hTh, hTw⟩ := hv
  have hx := B.exec
  have hb := B.bytes
  have hr := B.returns
  have hts := atoms_spec (ws := wsX4_select) B.pre
  have hown : s.vm.findClass RX4 = some m.cls := findClass_of_methodNamed B.named
  have hlocks := B.notSynchronized
  have hS : va_S A s.heap s.heap [] := va_S.rf
  have hl := lv_entry ([.ref (ad 0), .int a, .int i]) (n := 3) (Nat.le_of_ble_eq_true rfl)
  rw [lg_entry_eq]
  generalize (lg_sl ([.ref (ad 0), .int a, .int i]) ++ List.replicate (3 - (lg_sl ([.ref (ad 0), .int a, .int i])).length) Slot.unset).toArray = ls at hl ⊢
  have hl : lv_has ls 3 [(0, .ref (ad 0)), (1, .int a), (2, .int i)] := hl
  refine lv_aload_n hx hb dX4_select_0 rfl (lv_at hl 0 rfl) ?_
  refine va_get (D := D) (ci := 3) (v := .ref (ad 1)) (C := RX4) (T := TX4) (N := 6) hx hb hts in_X4_select_X4 hown hK hP 0 rfl rfl 0 (by decide) (hts _ lk_X4_select_12) (fun _ h9 => h9) rfl dX4_select_1 ?_
  refine lv_iload_n hx hb dX4_select_4 rfl (lv_at hl 1 rfl) ?_
  refine vp_callSi (va_Run.run (va_runV (As := [.int a]) (rest := []) ⟨hx, hb, hml, hown, hts⟩ (c_X3_has_out l D cI A ad σ a hxo) (cwV 1 hts gX4_select_X3_has rfl rfl rfl (by decide +kernel) ⟨Nat.le_of_ble_eq_true rfl, Nat.le_of_ble_eq_true rfl⟩) ⟨Wc.blind, va_recv hK hP (ci := 2) (q0 := 1) rfl rfl, fun U hU hW => ⟨rfl, Wc.go hP hK hD hN hZ hS hU hW⟩⟩ rfl rfl hl.1 rfl (lv_room (Nat.le_of_ble_eq_true rfl)) dX4_select_5 ⟨Nat.zero_le _, Nat.zero_le _⟩)) (fun r_1 hr_1 => ?_)
  refine n_to (w := bI false) (hr_1.trans rfl) ?_
  refine q_if_eq hx hb (tgt := 22) (bI_z) dX4_select_8 (by decide) (fun c_8 => ?_) (fun c_8 => ?_)
  · exact vx_throw0 hx hb hlt hown (own := RX4) (cls := "java/lang/IndexOutOfBoundsException") (names := ["java/lang/RuntimeException", "java/lang/Exception"]) (ik := 47) (ic := 49) (by decide +kernel) (by decide +kernel) (hts _ mm_X4_select_c47) (hts _ mm_X4_select_i47) (vx_hat (fun w h => hts w (at_X4_select_49 w h)) tw_49 (hTw.use)) tg_47 hTh.1 hTh.2 hS (by rw [hml]; exact hl.1) dX4_select_22 dX4_select_25 dX4_select_26 dX4_select_29 (fun x hx => (htab x hx).elim) (Nat.le_of_ble_eq_true rfl) (Nat.le_of_ble_eq_true rfl) (Nat.le_of_ble_eq_true rfl) (Nat.le_of_ble_eq_true rfl) hlocks (fun t hvm hz hk => ⟨σ, rfl, ⟨rfl, hP.kept (fun k q h => hk q.1 (hP k q h).lt), hD⟩, ⟨Nat.le_trans hS.1 hz, fun q h1 h2 => (hk q (Nat.lt_of_lt_of_le h1 hS.1)).trans (hS.2.1 q h1 h2)⟩⟩) hS.2.2 (Nat.le_of_ble_eq_true rfl) (Nat.le_of_ble_eq_true rfl)
  · exact absurd rfl c_8
def rX4_select_o2 : Room := { frames := 6, cells := 1, slots := 6, locals := 90 }
set_option maxHeartbeats 4000000 in
set_option maxRecDepth 100000 in
theorem x_X4_select_o2 (l : Launch) (hlt : l.stackTraces = false) (D : va_G) (cI : ClassId) (A : Nat → Prop) (ad : Nat → Nat) (σ : Nat → Nat → Nat) (a : Nat) (i : Int32) (hc : 7 ≤ σ 0 1 ∧ σ 0 1 ≤ 24) (ha : a < σ 0 1) (hxo : i < 0 ∨ nI (σ 0 1) ≤ i) : vx_Met l yX4_select wsX4_select rX4_select_o2 (va_Pc [.ref (ad 0), .int (nI a), .int i] (Wx D cI A ad σ)) (va_Qi (fun _ (_ : Unit) => False) (fun _ _ => True) A) (vx_X (fun u => u = σ) (fun E u t => E = "java/lang/IndexOutOfBoundsException" ∧ va_P D vwCl (WC ad cI u) t.heap ∧ va_D A (WC ad cI u)) A) 1 6 A := by
  refine vx_ofW (cc := cX4_select) (maxL := 3) (ret := (some .int)) (by decide) rfl ?_
  intro p e s m args below meth c s₁ B hml htab hv
  obtain ⟨rfl, ⟨hP, hK, hD, hN, hZ⟩, hTh, hTw⟩ := hv
  have hx := B.exec
  have hb := B.bytes
  have hr := B.returns
  have hts := atoms_spec (ws := wsX4_select) B.pre
  have hown : s.vm.findClass RX4 = some m.cls := findClass_of_methodNamed B.named
  have hlocks := B.notSynchronized
  have hS : va_S A s.heap s.heap [] := va_S.rf
  have hl := lv_entry ([.ref (ad 0), .int (nI a), .int i]) (n := 3) (Nat.le_of_ble_eq_true rfl)
  rw [lg_entry_eq]
  generalize (lg_sl ([.ref (ad 0), .int (nI a), .int i]) ++ List.replicate (3 - (lg_sl ([.ref (ad 0), .int (nI a), .int i])).length) Slot.unset).toArray = ls at hl ⊢
  have hl : lv_has ls 3 [(0, .ref (ad 0)), (1, .int (nI a)), (2, .int i)] := hl
  refine lv_aload_n hx hb dX4_select_0 rfl (lv_at hl 0 rfl) ?_
  refine va_get (D := D) (ci := 3) (v := .ref (ad 1)) (C := RX4) (T := TX4) (N := 6) hx hb hts in_X4_select_X4 hown hK hP 0 rfl rfl 0 (by decide) (hts _ lk_X4_select_12) (fun _ h9 => h9) rfl dX4_select_1 ?_
  refine lv_iload_n hx hb dX4_select_4 rfl (lv_at hl 1 rfl) ?_
  refine vp_callSi (va_Run.run (va_runV (As := [.int (nI a)]) (rest := []) ⟨hx, hb, hml, hown, hts⟩ (c_X3_has_in l D cI A ad σ a ha hc.2) (cwV 1 hts gX4_select_X3_has rfl rfl rfl (by decide +kernel) ⟨Nat.le_of_ble_eq_true rfl, Nat.le_of_ble_eq_true rfl⟩) ⟨Wc.blind, va_recv hK hP (ci := 2) (q0 := 1) rfl rfl, fun U hU hW => ⟨rfl, Wc.go hP hK hD hN hZ hS hU hW⟩⟩ rfl rfl hl.1 rfl (lv_room (Nat.le_of_ble_eq_true rfl)) dX4_select_5 ⟨Nat.zero_le _, Nat.zero_le _⟩)) (fun r_1 hr_1 => ?_)
  refine n_to (w := bI true) (hr_1.trans rfl) ?_
  refine q_if_eq hx hb (tgt := 22) (bI_z) dX4_select_8 (by decide) (fun c_8 => ?_) (fun c_8 => ?_)
  · cases c_8
  · refine lv_aload_n hx hb dX4_select_11 rfl (lv_at hl 0 rfl) ?_
    refine va_get (D := D) (ci := 3) (v := .ref (ad 1)) (C := RX4) (T := TX4) (N := 6) hx hb hts in_X4_select_X4 hown hK hP 0 rfl rfl 0 (by decide) (hts _ lk_X4_select_12) (fun _ h9 => h9) rfl dX4_select_12 ?_
    refine lv_iload_n hx hb dX4_select_15 rfl (lv_at hl 2 rfl) ?_
    refine vp_callSi (va_Run.run (va_runV (As := [.int i]) (rest := []) ⟨hx, hb, hml, hown, hts⟩ (c_X3_has_out l D cI A ad σ i hxo) (cwV 1 hts gX4_select_X3_has rfl rfl rfl (by decide +kernel) ⟨Nat.le_of_ble_eq_true rfl, Nat.le_of_ble_eq_true rfl⟩) ⟨Wc.blind, va_recv hK hP (ci := 2) (q0 := 1) rfl rfl, fun U hU hW => ⟨rfl, Wc.go hP hK hD hN hZ hS hU hW⟩⟩ rfl rfl hl.1 rfl (lv_room (Nat.le_of_ble_eq_true rfl)) dX4_select_16 ⟨Nat.zero_le _, Nat.zero_le _⟩)) (fun r_2 hr_2 => ?_)
    refine n_to (w := bI false) (hr_2.trans rfl) ?_
    refine q_if_ne hx hb (tgt := 30) (bI_z) dX4_select_19 (by decide) (fun c_19 => ?_) (fun c_19 => ?_)
    · exact absurd rfl c_19
    · exact vx_throw0 hx hb hlt hown (own := RX4) (cls := "java/lang/IndexOutOfBoundsException") (names := ["java/lang/RuntimeException", "java/lang/Exception"]) (ik := 47) (ic := 49) (by decide +kernel) (by decide +kernel) (hts _ mm_X4_select_c47) (hts _ mm_X4_select_i47) (vx_hat (fun w h => hts w (at_X4_select_49 w h)) tw_49 (hTw.use)) tg_47 hTh.1 hTh.2 hS (by rw [hml]; exact hl.1) dX4_select_22 dX4_select_25 dX4_select_26 dX4_select_29 (fun x hx => (htab x hx).elim) (Nat.le_of_ble_eq_true rfl) (Nat.le_of_ble_eq_true rfl) (Nat.le_of_ble_eq_true rfl) (Nat.le_of_ble_eq_true rfl) hlocks (fun t hvm hz hk => ⟨σ, rfl, ⟨rfl, hP.kept (fun k q h => hk q.1 (hP k q h).lt), hD⟩, ⟨Nat.le_trans hS.1 hz, fun q h1 h2 => (hk q (Nat.lt_of_lt_of_le h1 hS.1)).trans (hS.2.1 q h1 h2)⟩⟩) hS.2.2 (Nat.le_of_ble_eq_true rfl) (Nat.le_of_ble_eq_true rfl)
theorem mm_X4_select_c54 : Cond.classLink RX4 54 "java/lang/IllegalArgumentException" ∈ wsX4_select := by decide +kernel
theorem mm_X4_select_i54 : Cond.initialized "java/lang/IllegalArgumentException" ∈ wsX4_select := by decide +kernel
theorem at_X4_select_56 : ∀ w ∈ (vx_at0 RX4 56 "java/lang/IllegalArgumentException" ["java/lang/RuntimeException", "java/lang/Exception"]).filter goodWord, w ∈ wsX4_select := by decide +kernel
def rX4_select_sort : Room := { frames := 6, cells := 1, slots := 6, locals := 90 }
set_option maxHeartbeats 4000000 in
set_option maxRecDepth 100000 in
theorem x_X4_select_sort (l : Launch) (hlt : l.stackTraces = false) (D : va_G) (cI : ClassId) (A : Nat → Prop) (ad : Nat → Nat) (σ : Nat → Nat → Nat) (a i : Nat) (hI : IC σ) (ha : a < σ 0 1) (hi : i < σ 0 1) (hbad : σ 6 a ≠ 2 ∨ σ 6 i ≠ 0) : vx_Met l yX4_select wsX4_select rX4_select_sort (va_Pc [.ref (ad 0), .int (nI a), .int (nI i)] (Wx D cI A ad σ)) (va_Qi (fun _ (_ : Unit) => False) (fun _ _ => True) A) (vx_X (fun u => u = σ) (fun E u t => E = "java/lang/IllegalArgumentException" ∧ va_P D vwCl (WC ad cI u) t.heap ∧ va_D A (WC ad cI u)) A) 1 6 A := by
  refine vx_ofW (cc := cX4_select) (maxL := 3) (ret := (some .int)) (by decide) rfl ?_
  intro p e s m args below meth c s₁ B hml htab hv
  obtain ⟨rfl, ⟨hP, hK, hD, hN, hZ⟩, hTh, hTw⟩ := hv
  have hx := B.exec
  have hb := B.bytes
  have hr := B.returns
  have hts := atoms_spec (ws := wsX4_select) B.pre
  have hown : s.vm.findClass RX4 = some m.cls := findClass_of_methodNamed B.named
  have hlocks := B.notSynchronized
  have hS : va_S A s.heap s.heap [] := va_S.rf
  have hl := lv_entry ([.ref (ad 0), .int (nI a), .int (nI i)]) (n := 3) (Nat.le_of_ble_eq_true rfl)
  rw [lg_entry_eq]
  generalize (lg_sl ([.ref (ad 0), .int (nI a), .int (nI i)]) ++ List.replicate (3 - (lg_sl ([.ref (ad 0), .int (nI a), .int (nI i)])).length) Slot.unset).toArray = ls at hl ⊢
  have hl : lv_has ls 3 [(0, .ref (ad 0)), (1, .int (nI a)), (2, .int (nI i))] := hl
  have hc := hI.terms
  have hs0 := hI.sorts (j := a) (by omega)
  have hs1 := hI.sorts (j := i) (by omega)
  refine lv_aload_n hx hb dX4_select_0 rfl (lv_at hl 0 rfl) ?_
  refine va_get (D := D) (ci := 3) (v := .ref (ad 1)) (C := RX4) (T := TX4) (N := 6) hx hb hts in_X4_select_X4 hown hK hP 0 rfl rfl 0 (by decide) (hts _ lk_X4_select_12) (fun _ h9 => h9) rfl dX4_select_1 ?_
  refine lv_iload_n hx hb dX4_select_4 rfl (lv_at hl 1 rfl) ?_
  refine vp_callSi (va_Run.run (va_runV (As := [.int (nI a)]) (rest := []) ⟨hx, hb, hml, hown, hts⟩ (c_X3_has_in l D cI A ad σ a ha hc.2) (cwV 1 hts gX4_select_X3_has rfl rfl rfl (by decide +kernel) ⟨Nat.le_of_ble_eq_true rfl, Nat.le_of_ble_eq_true rfl⟩) ⟨Wc.blind, va_recv hK hP (ci := 2) (q0 := 1) rfl rfl, fun U hU hW => ⟨rfl, Wc.go hP hK hD hN hZ hS hU hW⟩⟩ rfl rfl hl.1 rfl (lv_room (Nat.le_of_ble_eq_true rfl)) dX4_select_5 ⟨Nat.zero_le _, Nat.zero_le _⟩)) (fun r_1 hr_1 => ?_)
  refine n_to (w := bI true) (hr_1.trans rfl) ?_
  refine q_if_eq hx hb (tgt := 22) (bI_z) dX4_select_8 (by decide) (fun c_8 => ?_) (fun c_8 => ?_)
  · cases c_8
  · refine lv_aload_n hx hb dX4_select_11 rfl (lv_at hl 0 rfl) ?_
    refine va_get (D := D) (ci := 3) (v := .ref (ad 1)) (C := RX4) (T := TX4) (N := 6) hx hb hts in_X4_select_X4 hown hK hP 0 rfl rfl 0 (by decide) (hts _ lk_X4_select_12) (fun _ h9 => h9) rfl dX4_select_12 ?_
    refine lv_iload_n hx hb dX4_select_15 rfl (lv_at hl 2 rfl) ?_
    refine vp_callSi (va_Run.run (va_runV (As := [.int (nI i)]) (rest := []) ⟨hx, hb, hml, hown, hts⟩ (c_X3_has_in l D cI A ad σ i hi hc.2) (cwV 1 hts gX4_select_X3_has rfl rfl rfl (by decide +kernel) ⟨Nat.le_of_ble_eq_true rfl, Nat.le_of_ble_eq_true rfl⟩) ⟨Wc.blind, va_recv hK hP (ci := 2) (q0 := 1) rfl rfl, fun U hU hW => ⟨rfl, Wc.go hP hK hD hN hZ hS hU hW⟩⟩ rfl rfl hl.1 rfl (lv_room (Nat.le_of_ble_eq_true rfl)) dX4_select_16 ⟨Nat.zero_le _, Nat.zero_le _⟩)) (fun r_2 hr_2 => ?_)
    refine n_to (w := bI true) (hr_2.trans rfl) ?_
    refine q_if_ne hx hb (tgt := 30) (bI_z) dX4_select_19 (by decide) (fun c_19 => ?_) (fun c_19 => ?_)
    · refine lv_aload_n hx hb dX4_select_30 rfl (lv_at hl 0 rfl) ?_
      refine va_get (D := D) (ci := 3) (v := .ref (ad 1)) (C := RX4) (T := TX4) (N := 6) hx hb hts in_X4_select_X4 hown hK hP 0 rfl rfl 0 (by decide) (hts _ lk_X4_select_12) (fun _ h9 => h9) rfl dX4_select_31 ?_
      refine lv_iload_n hx hb dX4_select_34 rfl (lv_at hl 1 rfl) ?_
      refine vp_callSi (va_Run.run (va_runV (As := [.int (nI a)]) (rest := []) ⟨hx, hb, hml, hown, hts⟩ (c_X3_sortOf_in l D cI A ad σ a ha hc.2) (cwV 1 hts gX4_select_X3_sortOf rfl rfl rfl (by decide +kernel) ⟨Nat.le_of_ble_eq_true rfl, Nat.le_of_ble_eq_true rfl⟩) ⟨Wc.blind, va_recv hK hP (ci := 2) (q0 := 1) rfl rfl, fun U hU hW => ⟨rfl, Wc.go hP hK hD hN hZ hS hU hW⟩⟩ rfl rfl hl.1 rfl (lv_room (Nat.le_of_ble_eq_true rfl)) dX4_select_35 ⟨Nat.zero_le _, Nat.zero_le _⟩)) (fun r_3 hr_3 => ?_)
      refine n_to (w := nI (σ 6 a)) (hr_3.trans rfl) ?_
      refine lv_iconst (v := nI 2) hx hb dX4_select_38 (by decide) ?_
      refine q_icmp_ne hx hb (tgt := 53) (nI_eq (by omega) (by omega)) dX4_select_39 (by decide) (fun c_39 => ?_) (fun c_39 => ?_)
      · exact vx_throw0 hx hb hlt hown (own := RX4) (cls := "java/lang/IllegalArgumentException") (names := ["java/lang/RuntimeException", "java/lang/Exception"]) (ik := 54) (ic := 56) (by decide +kernel) (by decide +kernel) (hts _ mm_X4_select_c54) (hts _ mm_X4_select_i54) (vx_hat (fun w h => hts w (at_X4_select_56 w h)) tw_56 (hTw.use)) tg_54 hTh.1 hTh.2 hS (by rw [hml]; exact hl.1) dX4_select_53 dX4_select_56 dX4_select_57 dX4_select_60 (fun x hx => (htab x hx).elim) (Nat.le_of_ble_eq_true rfl) (Nat.le_of_ble_eq_true rfl) (Nat.le_of_ble_eq_true rfl) (Nat.le_of_ble_eq_true rfl) hlocks (fun t hvm hz hk => ⟨σ, rfl, ⟨rfl, hP.kept (fun k q h => hk q.1 (hP k q h).lt), hD⟩, ⟨Nat.le_trans hS.1 hz, fun q h1 h2 => (hk q (Nat.lt_of_lt_of_le h1 hS.1)).trans (hS.2.1 q h1 h2)⟩⟩) hS.2.2 (Nat.le_of_ble_eq_true rfl) (Nat.le_of_ble_eq_true rfl)
      · refine lv_aload_n hx hb dX4_select_42 rfl (lv_at hl 0 rfl) ?_
        refine va_get (D := D) (ci := 3) (v := .ref (ad 1)) (C := RX4) (T := TX4) (N := 6) hx hb hts in_X4_select_X4 hown hK hP 0 rfl rfl 0 (by decide) (hts _ lk_X4_select_12) (fun _ h9 => h9) rfl dX4_select_43 ?_
        refine lv_iload_n hx hb dX4_select_46 rfl (lv_at hl 2 rfl) ?_
        refine vp_callSi (va_Run.run (va_runV (As := [.int (nI i)]) (rest := []) ⟨hx, hb, hml, hown, hts⟩ (c_X3_sortOf_in l D cI A ad σ i hi hc.2) (cwV 1 hts gX4_select_X3_sortOf rfl rfl rfl (by decide +kernel) ⟨Nat.le_of_ble_eq_true rfl, Nat.le_of_ble_eq_true rfl⟩) ⟨Wc.blind, va_recv hK hP (ci := 2) (q0 := 1) rfl rfl, fun U hU hW => ⟨rfl, Wc.go hP hK hD hN hZ hS hU hW⟩⟩ rfl rfl hl.1 rfl (lv_room (Nat.le_of_ble_eq_true rfl)) dX4_select_47 ⟨Nat.zero_le _, Nat.zero_le _⟩)) (fun r_4 hr_4 => ?_)
        refine n_to (w := nI (σ 6 i)) (hr_4.trans rfl) ?_
        refine q_if_eq hx hb (tgt := 61) (nI_z (by omega)) dX4_select_50 (by decide) (fun c_50 => ?_) (fun c_50 => ?_)
        · exact absurd hbad (fun q => q.elim (fun z => z c_39) (fun z => z c_50))
        · exact vx_throw0 hx hb hlt hown (own := RX4) (cls := "java/lang/IllegalArgumentException") (names := ["java/lang/RuntimeException", "java/lang/Exception"]) (ik := 54) (ic := 56) (by decide +kernel) (by decide +kernel) (hts _ mm_X4_select_c54) (hts _ mm_X4_select_i54) (vx_hat (fun w h => hts w (at_X4_select_56 w h)) tw_56 (hTw.use)) tg_54 hTh.1 hTh.2 hS (by rw [hml]; exact hl.1) dX4_select_53 dX4_select_56 dX4_select_57 dX4_select_60 (fun x hx => (htab x hx).elim) (Nat.le_of_ble_eq_true rfl) (Nat.le_of_ble_eq_true rfl) (Nat.le_of_ble_eq_true rfl) (Nat.le_of_ble_eq_true rfl) hlocks (fun t hvm hz hk => ⟨σ, rfl, ⟨rfl, hP.kept (fun k q h => hk q.1 (hP k q h).lt), hD⟩, ⟨Nat.le_trans hS.1 hz, fun q h1 h2 => (hk q (Nat.lt_of_lt_of_le h1 hS.1)).trans (hS.2.1 q h1 h2)⟩⟩) hS.2.2 (Nat.le_of_ble_eq_true rfl) (Nat.le_of_ble_eq_true rfl)
    · cases c_19
def rX4_select_full : Room := { frames := 7, cells := 1, slots := 6, locals := 115 }
set_option maxHeartbeats 4000000 in
set_option maxRecDepth 100000 in
theorem x_X4_select_full (l : Launch) (hlt : l.stackTraces = false) (D : va_G) (cI : ClassId) (A : Nat → Prop) (ad : Nat → Nat) (σ : Nat → Nat → Nat) (a i : Nat) (hI : IC σ) (ha : a < σ 0 1) (hi : i < σ 0 1) (hsa : σ 6 a = 2) (hsi : σ 6 i = 0) (hfd : findF σ 1 (a + 1) (i + 1) 0 (σ 0 1 - 7) 7 = 0) (hfl : σ 0 1 = 24) : vx_Met l yX4_select wsX4_select rX4_select_full (va_Pc [.ref (ad 0), .int (nI a), .int (nI i)] (Wx D cI A ad σ)) (va_Qi (fun _ (_ : Unit) => False) (fun _ _ => True) A) (vx_X (fun u => u = σ) (fun E u t => E = "java/lang/UnsupportedOperationException" ∧ va_P D vwCl (WC ad cI u) t.heap ∧ va_D A (WC ad cI u)) A) 1 6 A := by
  refine vx_ofW (cc := cX4_select) (maxL := 3) (ret := (some .int)) (by decide) rfl ?_
  intro p e s m args below meth c s₁ B hml htab hv
  obtain ⟨rfl, ⟨hP, hK, hD, hN, hZ⟩, hTh, hTw⟩ := hv
  have hx := B.exec
  have hb := B.bytes
  have hr := B.returns
  have hts := atoms_spec (ws := wsX4_select) B.pre
  have hown : s.vm.findClass RX4 = some m.cls := findClass_of_methodNamed B.named
  have hlocks := B.notSynchronized
  have hS : va_S A s.heap s.heap [] := va_S.rf
  have hl := lv_entry ([.ref (ad 0), .int (nI a), .int (nI i)]) (n := 3) (Nat.le_of_ble_eq_true rfl)
  rw [lg_entry_eq]
  generalize (lg_sl ([.ref (ad 0), .int (nI a), .int (nI i)]) ++ List.replicate (3 - (lg_sl ([.ref (ad 0), .int (nI a), .int (nI i)])).length) Slot.unset).toArray = ls at hl ⊢
  have hl : lv_has ls 3 [(0, .ref (ad 0)), (1, .int (nI a)), (2, .int (nI i))] := hl
  have hc := hI.terms
  have hs0 := hI.sorts (j := a) (by omega)
  have hs1 := hI.sorts (j := i) (by omega)
  refine lv_aload_n hx hb dX4_select_0 rfl (lv_at hl 0 rfl) ?_
  refine va_get (D := D) (ci := 3) (v := .ref (ad 1)) (C := RX4) (T := TX4) (N := 6) hx hb hts in_X4_select_X4 hown hK hP 0 rfl rfl 0 (by decide) (hts _ lk_X4_select_12) (fun _ h9 => h9) rfl dX4_select_1 ?_
  refine lv_iload_n hx hb dX4_select_4 rfl (lv_at hl 1 rfl) ?_
  refine vp_callSi (va_Run.run (va_runV (As := [.int (nI a)]) (rest := []) ⟨hx, hb, hml, hown, hts⟩ (c_X3_has_in l D cI A ad σ a ha hc.2) (cwV 1 hts gX4_select_X3_has rfl rfl rfl (by decide +kernel) ⟨Nat.le_of_ble_eq_true rfl, Nat.le_of_ble_eq_true rfl⟩) ⟨Wc.blind, va_recv hK hP (ci := 2) (q0 := 1) rfl rfl, fun U hU hW => ⟨rfl, Wc.go hP hK hD hN hZ hS hU hW⟩⟩ rfl rfl hl.1 rfl (lv_room (Nat.le_of_ble_eq_true rfl)) dX4_select_5 ⟨Nat.zero_le _, Nat.zero_le _⟩)) (fun r_1 hr_1 => ?_)
  refine n_to (w := bI true) (hr_1.trans rfl) ?_
  refine q_if_eq hx hb (tgt := 22) (bI_z) dX4_select_8 (by decide) (fun c_8 => ?_) (fun c_8 => ?_)
  · cases c_8
  · refine lv_aload_n hx hb dX4_select_11 rfl (lv_at hl 0 rfl) ?_
    refine va_get (D := D) (ci := 3) (v := .ref (ad 1)) (C := RX4) (T := TX4) (N := 6) hx hb hts in_X4_select_X4 hown hK hP 0 rfl rfl 0 (by decide) (hts _ lk_X4_select_12) (fun _ h9 => h9) rfl dX4_select_12 ?_
    refine lv_iload_n hx hb dX4_select_15 rfl (lv_at hl 2 rfl) ?_
    refine vp_callSi (va_Run.run (va_runV (As := [.int (nI i)]) (rest := []) ⟨hx, hb, hml, hown, hts⟩ (c_X3_has_in l D cI A ad σ i hi hc.2) (cwV 1 hts gX4_select_X3_has rfl rfl rfl (by decide +kernel) ⟨Nat.le_of_ble_eq_true rfl, Nat.le_of_ble_eq_true rfl⟩) ⟨Wc.blind, va_recv hK hP (ci := 2) (q0 := 1) rfl rfl, fun U hU hW => ⟨rfl, Wc.go hP hK hD hN hZ hS hU hW⟩⟩ rfl rfl hl.1 rfl (lv_room (Nat.le_of_ble_eq_true rfl)) dX4_select_16 ⟨Nat.zero_le _, Nat.zero_le _⟩)) (fun r_2 hr_2 => ?_)
    refine n_to (w := bI true) (hr_2.trans rfl) ?_
    refine q_if_ne hx hb (tgt := 30) (bI_z) dX4_select_19 (by decide) (fun c_19 => ?_) (fun c_19 => ?_)
    · refine lv_aload_n hx hb dX4_select_30 rfl (lv_at hl 0 rfl) ?_
      refine va_get (D := D) (ci := 3) (v := .ref (ad 1)) (C := RX4) (T := TX4) (N := 6) hx hb hts in_X4_select_X4 hown hK hP 0 rfl rfl 0 (by decide) (hts _ lk_X4_select_12) (fun _ h9 => h9) rfl dX4_select_31 ?_
      refine lv_iload_n hx hb dX4_select_34 rfl (lv_at hl 1 rfl) ?_
      refine vp_callSi (va_Run.run (va_runV (As := [.int (nI a)]) (rest := []) ⟨hx, hb, hml, hown, hts⟩ (c_X3_sortOf_in l D cI A ad σ a ha hc.2) (cwV 1 hts gX4_select_X3_sortOf rfl rfl rfl (by decide +kernel) ⟨Nat.le_of_ble_eq_true rfl, Nat.le_of_ble_eq_true rfl⟩) ⟨Wc.blind, va_recv hK hP (ci := 2) (q0 := 1) rfl rfl, fun U hU hW => ⟨rfl, Wc.go hP hK hD hN hZ hS hU hW⟩⟩ rfl rfl hl.1 rfl (lv_room (Nat.le_of_ble_eq_true rfl)) dX4_select_35 ⟨Nat.zero_le _, Nat.zero_le _⟩)) (fun r_3 hr_3 => ?_)
      refine n_to (w := nI (σ 6 a)) (hr_3.trans rfl) ?_
      refine lv_iconst (v := nI 2) hx hb dX4_select_38 (by decide) ?_
      refine q_icmp_ne hx hb (tgt := 53) (nI_eq (by omega) (by omega)) dX4_select_39 (by decide) (fun c_39 => ?_) (fun c_39 => ?_)
      · exact absurd hsa c_39
      · refine lv_aload_n hx hb dX4_select_42 rfl (lv_at hl 0 rfl) ?_
        refine va_get (D := D) (ci := 3) (v := .ref (ad 1)) (C := RX4) (T := TX4) (N := 6) hx hb hts in_X4_select_X4 hown hK hP 0 rfl rfl 0 (by decide) (hts _ lk_X4_select_12) (fun _ h9 => h9) rfl dX4_select_43 ?_
        refine lv_iload_n hx hb dX4_select_46 rfl (lv_at hl 2 rfl) ?_
        refine vp_callSi (va_Run.run (va_runV (As := [.int (nI i)]) (rest := []) ⟨hx, hb, hml, hown, hts⟩ (c_X3_sortOf_in l D cI A ad σ i hi hc.2) (cwV 1 hts gX4_select_X3_sortOf rfl rfl rfl (by decide +kernel) ⟨Nat.le_of_ble_eq_true rfl, Nat.le_of_ble_eq_true rfl⟩) ⟨Wc.blind, va_recv hK hP (ci := 2) (q0 := 1) rfl rfl, fun U hU hW => ⟨rfl, Wc.go hP hK hD hN hZ hS hU hW⟩⟩ rfl rfl hl.1 rfl (lv_room (Nat.le_of_ble_eq_true rfl)) dX4_select_47 ⟨Nat.zero_le _, Nat.zero_le _⟩)) (fun r_4 hr_4 => ?_)
        refine n_to (w := nI (σ 6 i)) (hr_4.trans rfl) ?_
        refine q_if_eq hx hb (tgt := 61) (nI_z (by omega)) dX4_select_50 (by decide) (fun c_50 => ?_) (fun c_50 => ?_)
        · refine lv_aload_n hx hb dX4_select_61 rfl (lv_at hl 0 rfl) ?_
          refine lv_iconst (v := nI 1) hx hb dX4_select_62 (by decide) ?_
          refine lv_iload_n hx hb dX4_select_63 rfl (lv_at hl 1 rfl) ?_
          refine n_to (w := mI (a + 1)) ((mI_succ _).symm) ?_
          refine lv_iload_n hx hb dX4_select_64 rfl (lv_at hl 2 rfl) ?_
          refine n_to (w := mI (i + 1)) ((mI_succ _).symm) ?_
          refine lv_iconst (v := mI 0) hx hb dX4_select_65 (by decide) ?_
          exact vx_calli (vx_runV (As := [.int (nI 1), .int (mI (a + 1)), .int (mI (i + 1)), .int (mI 0)]) (rest := []) ⟨hx, hb, hml, hown, hts⟩ (x_X4_termFor_full l hlt D cI A ad σ 1 (a + 1) (i + 1) 0 hI (by omega) (by omega) (by omega) (by omega) hfd hfl) (cwV 4 hts gX4_select_X4_termFor rfl rfl rfl (by decide +kernel) ⟨Nat.le_of_ble_eq_true rfl, Nat.le_of_ble_eq_true rfl⟩) ⟨Wx.blind, va_recv hK hP (ci := 3) (q0 := 0) rfl rfl, fun U hU hW => ⟨rfl, Wx.go hP hK hD hN hZ hTh hTw hS hU hW⟩⟩ rfl rfl hl.1 rfl (lv_room (Nat.le_of_ble_eq_true rfl)) dX4_select_66 ⟨Nat.le_of_ble_eq_true rfl, Nat.le_of_ble_eq_true rfl⟩) hS (fun q _ h => h) (fun q h => h) (fun q _ h => h) (fun E9 ce9 q9 u9 t9 H9 locs9 ht9 hvm9 hpx9 hB9 hz9 hk9 hS9 hce9 hcv9 hcl9 => by obtain ⟨hE9, hP9, hD9⟩ := hB9; rw [ht9, hpx9] at hP9; rw [hpx9] at hD9; exact vx_out (fun x hx => (htab x hx).elim) hlocks hce9 hcv9 hcl9 (fun t2 ht2 hvm2 => ⟨σ, rfl, ⟨hE9, by rw [ht2]; exact hP9, hD9⟩, hS9.F ht2⟩) hS9.2.2 (Nat.le_of_ble_eq_true rfl) (Nat.le_of_ble_eq_true rfl)) (fun r u t H1 locs1 ht hvm hw => hw.elim)
        · exact absurd hsi c_50
    · cases c_19
theorem mm_X4_store_c47 : Cond.classLink RX4 47 "java/lang/IndexOutOfBoundsException" ∈ wsX4_store := by decide +kernel
theorem mm_X4_store_i47 : Cond.initialized "java/lang/IndexOutOfBoundsException" ∈ wsX4_store := by decide +kernel
theorem at_X4_store_49 : ∀ w ∈ (vx_at0 RX4 49 "java/lang/IndexOutOfBoundsException" ["java/lang/RuntimeException", "java/lang/Exception"]).filter goodWord, w ∈ wsX4_store := by decide +kernel
def rX4_store_o1 : Room := { frames := 6, cells := 1, slots := 6, locals := 90 }
set_option maxHeartbeats 4000000 in
set_option maxRecDepth 100000 in
theorem x_X4_store_o1 (l : Launch) (hlt : l.stackTraces = false) (D : va_G) (cI : ClassId) (A : Nat → Prop) (ad : Nat → Nat) (σ : Nat → Nat → Nat) (a : Int32) (i : Int32) (e1 : Int32) (hc : 7 ≤ σ 0 1 ∧ σ 0 1 ≤ 24) (hxo : a < 0 ∨ nI (σ 0 1) ≤ a) : vx_Met l yX4_store wsX4_store rX4_store_o1 (va_Pc [.ref (ad 0), .int a, .int i, .int e1] (Wx D cI A ad σ)) (va_Qi (fun _ (_ : Unit) => False) (fun _ _ => True) A) (vx_X (fun u => u = σ) (fun E u t => E = "java/lang/IndexOutOfBoundsException" ∧ va_P D vwCl (WC ad cI u) t.heap ∧ va_D A (WC ad cI u)) A) 1 6 A := by
  refine vx_ofW (cc := cX4_store) (maxL := 4) (ret := (some .int)) (by decide) rfl ?_
  intro p e s m args below meth c s₁ B hml htab hv
  obtain ⟨rfl, ⟨hP, hK, hD, hN, hZ⟩, hTh, hTw⟩ := hv
  have hx := B.exec
  have hb := B.bytes
  have hr := B.returns
  have hts := atoms_spec (ws := wsX4_store) B.pre
  have hown : s.vm.findClass RX4 = some m.cls := findClass_of_methodNamed B.named
  have hlocks := B.notSynchronized
  have hS : va_S A s.heap s.heap [] := va_S.rf
  have hl := lv_entry ([.ref (ad 0), .int a, .int i, .int e1]) (n := 4) (Nat.le_of_ble_eq_true rfl)
  rw [lg_entry_eq]
  generalize (lg_sl ([.ref (ad 0), .int a, .int i, .int e1]) ++ List.replicate (4 - (lg_sl ([.ref (ad 0), .int a, .int i, .int e1])).length) Slot.unset).toArray = ls at hl ⊢
  have hl : lv_has ls 4 [(0, .ref (ad 0)), (1, .int a), (2, .int i), (3, .int e1)] := hl
  refine lv_aload_n hx hb dX4_store_0 rfl (lv_at hl 0 rfl) ?_
  refine va_get (D := D) (ci := 3) (v := .ref (ad 1)) (C := RX4) (T := TX4) (N := 6) hx hb hts in_X4_store_X4 hown hK hP 0 rfl rfl 0 (by decide) (hts _ lk_X4_store_12) (fun _ h9 => h9) rfl dX4_store_1 ?_
  refine lv_iload_n hx hb dX4_store_4 rfl (lv_at hl 1 rfl) ?_
  refine vp_callSi (va_Run.run (va_runV (As := [.int a]) (rest := []) ⟨hx, hb, hml, hown, hts⟩ (c_X3_has_out l D cI A ad σ a hxo) (cwV 1 hts gX4_store_X3_has rfl rfl rfl (by decide +kernel) ⟨Nat.le_of_ble_eq_true rfl, Nat.le_of_ble_eq_true rfl⟩) ⟨Wc.blind, va_recv hK hP (ci := 2) (q0 := 1) rfl rfl, fun U hU hW => ⟨rfl, Wc.go hP hK hD hN hZ hS hU hW⟩⟩ rfl rfl hl.1 rfl (lv_room (Nat.le_of_ble_eq_true rfl)) dX4_store_5 ⟨Nat.zero_le _, Nat.zero_le _⟩)) (fun r_1 hr_1 => ?_)
  refine n_to (w := bI false) (hr_1.trans rfl) ?_
  refine q_if_eq hx hb (tgt := 33) (bI_z) dX4_store_8 (by decide) (fun c_8 => ?_) (fun c_8 => ?_)
  · exact vx_throw0 hx hb hlt hown (own := RX4) (cls := "java/lang/IndexOutOfBoundsException") (names := ["java/lang/RuntimeException", "java/lang/Exception"]) (ik := 47) (ic := 49) (by decide +kernel) (by decide +kernel) (hts _ mm_X4_store_c47) (hts _ mm_X4_store_i47) (vx_hat (fun w h => hts w (at_X4_store_49 w h)) tw_49 (hTw.use)) tg_47 hTh.1 hTh.2 hS (by rw [hml]; exact hl.1) dX4_store_33 dX4_store_36 dX4_store_37 dX4_store_40 (fun x hx => (htab x hx).elim) (Nat.le_of_ble_eq_true rfl) (Nat.le_of_ble_eq_true rfl) (Nat.le_of_ble_eq_true rfl) (Nat.le_of_ble_eq_true rfl) hlocks (fun t hvm hz hk => ⟨σ, rfl, ⟨rfl, hP.kept (fun k q h => hk q.1 (hP k q h).lt), hD⟩, ⟨Nat.le_trans hS.1 hz, fun q h1 h2 => (hk q (Nat.lt_of_lt_of_le h1 hS.1)).trans (hS.2.1 q h1 h2)⟩⟩) hS.2.2 (Nat.le_of_ble_eq_true rfl) (Nat.le_of_ble_eq_true rfl)
  · exact absurd rfl c_8
def rX4_store_o2 : Room := { frames := 6, cells := 1, slots := 6, locals := 90 }
set_option maxHeartbeats 4000000 in
set_option maxRecDepth 100000 in
theorem x_X4_store_o2 (l : Launch) (hlt : l.stackTraces = false) (D : va_G) (cI : ClassId) (A : Nat → Prop) (ad : Nat → Nat) (σ : Nat → Nat → Nat) (a : Nat) (i : Int32) (e1 : Int32) (hc : 7 ≤ σ 0 1 ∧ σ 0 1 ≤ 24) (ha : a < σ 0 1) (hxo : i < 0 ∨ nI (σ 0 1) ≤ i) : vx_Met l yX4_store wsX4_store rX4_store_o2 (va_Pc [.ref (ad 0), .int (nI a), .int i, .int e1] (Wx D cI A ad σ)) (va_Qi (fun _ (_ : Unit) => False) (fun _ _ => True) A) (vx_X (fun u => u = σ) (fun E u t => E = "java/lang/IndexOutOfBoundsException" ∧ va_P D vwCl (WC ad cI u) t.heap ∧ va_D A (WC ad cI u)) A) 1 6 A := by
  refine vx_ofW (cc := cX4_store) (maxL := 4) (ret := (some .int)) (by decide) rfl ?_
  intro p e s m args below meth c s₁ B hml htab hv
  obtain ⟨rfl, ⟨hP, hK, hD, hN, hZ⟩, hTh, hTw⟩ := hv
  have hx := B.exec
  have hb := B.bytes
  have hr := B.returns
  have hts := atoms_spec (ws := wsX4_store) B.pre
  have hown : s.vm.findClass RX4 = some m.cls := findClass_of_methodNamed B.named
  have hlocks := B.notSynchronized
  have hS : va_S A s.heap s.heap [] := va_S.rf
  have hl := lv_entry ([.ref (ad 0), .int (nI a), .int i, .int e1]) (n := 4) (Nat.le_of_ble_eq_true rfl)
  rw [lg_entry_eq]
  generalize (lg_sl ([.ref (ad 0), .int (nI a), .int i, .int e1]) ++ List.replicate (4 - (lg_sl ([.ref (ad 0), .int (nI a), .int i, .int e1])).length) Slot.unset).toArray = ls at hl ⊢
  have hl : lv_has ls 4 [(0, .ref (ad 0)), (1, .int (nI a)), (2, .int i), (3, .int e1)] := hl
  refine lv_aload_n hx hb dX4_store_0 rfl (lv_at hl 0 rfl) ?_
  refine va_get (D := D) (ci := 3) (v := .ref (ad 1)) (C := RX4) (T := TX4) (N := 6) hx hb hts in_X4_store_X4 hown hK hP 0 rfl rfl 0 (by decide) (hts _ lk_X4_store_12) (fun _ h9 => h9) rfl dX4_store_1 ?_
  refine lv_iload_n hx hb dX4_store_4 rfl (lv_at hl 1 rfl) ?_
  refine vp_callSi (va_Run.run (va_runV (As := [.int (nI a)]) (rest := []) ⟨hx, hb, hml, hown, hts⟩ (c_X3_has_in l D cI A ad σ a ha hc.2) (cwV 1 hts gX4_store_X3_has rfl rfl rfl (by decide +kernel) ⟨Nat.le_of_ble_eq_true rfl, Nat.le_of_ble_eq_true rfl⟩) ⟨Wc.blind, va_recv hK hP (ci := 2) (q0 := 1) rfl rfl, fun U hU hW => ⟨rfl, Wc.go hP hK hD hN hZ hS hU hW⟩⟩ rfl rfl hl.1 rfl (lv_room (Nat.le_of_ble_eq_true rfl)) dX4_store_5 ⟨Nat.zero_le _, Nat.zero_le _⟩)) (fun r_1 hr_1 => ?_)
  refine n_to (w := bI true) (hr_1.trans rfl) ?_
  refine q_if_eq hx hb (tgt := 33) (bI_z) dX4_store_8 (by decide) (fun c_8 => ?_) (fun c_8 => ?_)
  · cases c_8
  · refine lv_aload_n hx hb dX4_store_11 rfl (lv_at hl 0 rfl) ?_
    refine va_get (D := D) (ci := 3) (v := .ref (ad 1)) (C := RX4) (T := TX4) (N := 6) hx hb hts in_X4_store_X4 hown hK hP 0 rfl rfl 0 (by decide) (hts _ lk_X4_store_12) (fun _ h9 => h9) rfl dX4_store_12 ?_
    refine lv_iload_n hx hb dX4_store_15 rfl (lv_at hl 2 rfl) ?_
    refine vp_callSi (va_Run.run (va_runV (As := [.int i]) (rest := []) ⟨hx, hb, hml, hown, hts⟩ (c_X3_has_out l D cI A ad σ i hxo) (cwV 1 hts gX4_store_X3_has rfl rfl rfl (by decide +kernel) ⟨Nat.le_of_ble_eq_true rfl, Nat.le_of_ble_eq_true rfl⟩) ⟨Wc.blind, va_recv hK hP (ci := 2) (q0 := 1) rfl rfl, fun U hU hW => ⟨rfl, Wc.go hP hK hD hN hZ hS hU hW⟩⟩ rfl rfl hl.1 rfl (lv_room (Nat.le_of_ble_eq_true rfl)) dX4_store_16 ⟨Nat.zero_le _, Nat.zero_le _⟩)) (fun r_2 hr_2 => ?_)
    refine n_to (w := bI false) (hr_2.trans rfl) ?_
    refine q_if_eq hx hb (tgt := 33) (bI_z) dX4_store_19 (by decide) (fun c_19 => ?_) (fun c_19 => ?_)
    · exact vx_throw0 hx hb hlt hown (own := RX4) (cls := "java/lang/IndexOutOfBoundsException") (names := ["java/lang/RuntimeException", "java/lang/Exception"]) (ik := 47) (ic := 49) (by decide +kernel) (by decide +kernel) (hts _ mm_X4_store_c47) (hts _ mm_X4_store_i47) (vx_hat (fun w h => hts w (at_X4_store_49 w h)) tw_49 (hTw.use)) tg_47 hTh.1 hTh.2 hS (by rw [hml]; exact hl.1) dX4_store_33 dX4_store_36 dX4_store_37 dX4_store_40 (fun x hx => (htab x hx).elim) (Nat.le_of_ble_eq_true rfl) (Nat.le_of_ble_eq_true rfl) (Nat.le_of_ble_eq_true rfl) (Nat.le_of_ble_eq_true rfl) hlocks (fun t hvm hz hk => ⟨σ, rfl, ⟨rfl, hP.kept (fun k q h => hk q.1 (hP k q h).lt), hD⟩, ⟨Nat.le_trans hS.1 hz, fun q h1 h2 => (hk q (Nat.lt_of_lt_of_le h1 hS.1)).trans (hS.2.1 q h1 h2)⟩⟩) hS.2.2 (Nat.le_of_ble_eq_true rfl) (Nat.le_of_ble_eq_true rfl)
    · exact absurd rfl c_19
def rX4_store_o3 : Room := { frames := 6, cells := 1, slots := 6, locals := 90 }
set_option maxHeartbeats 4000000 in
set_option maxRecDepth 100000 in
theorem x_X4_store_o3 (l : Launch) (hlt : l.stackTraces = false) (D : va_G) (cI : ClassId) (A : Nat → Prop) (ad : Nat → Nat) (σ : Nat → Nat → Nat) (a : Nat) (i : Nat) (e1 : Int32) (hc : 7 ≤ σ 0 1 ∧ σ 0 1 ≤ 24) (ha : a < σ 0 1) (hi : i < σ 0 1) (hxo : e1 < 0 ∨ nI (σ 0 1) ≤ e1) : vx_Met l yX4_store wsX4_store rX4_store_o3 (va_Pc [.ref (ad 0), .int (nI a), .int (nI i), .int e1] (Wx D cI A ad σ)) (va_Qi (fun _ (_ : Unit) => False) (fun _ _ => True) A) (vx_X (fun u => u = σ) (fun E u t => E = "java/lang/IndexOutOfBoundsException" ∧ va_P D vwCl (WC ad cI u) t.heap ∧ va_D A (WC ad cI u)) A) 1 6 A := by
  refine vx_ofW (cc := cX4_store) (maxL := 4) (ret := (some .int)) (by decide) rfl ?_
  intro p e s m args below meth c s₁ B hml htab hv
  obtain ⟨rfl, ⟨hP, hK, hD, hN, hZ⟩, hTh, hTw⟩ := hv
  have hx := B.exec
  have hb := B.bytes
  have hr := B.returns
  have hts := atoms_spec (ws := wsX4_store) B.pre
  have hown : s.vm.findClass RX4 = some m.cls := findClass_of_methodNamed B.named
  have hlocks := B.notSynchronized
  have hS : va_S A s.heap s.heap [] := va_S.rf
  have hl := lv_entry ([.ref (ad 0), .int (nI a), .int (nI i), .int e1]) (n := 4) (Nat.le_of_ble_eq_true rfl)
  rw [lg_entry_eq]
  generalize (lg_sl ([.ref (ad 0), .int (nI a), .int (nI i), .int e1]) ++ List.replicate (4 - (lg_sl ([.ref (ad 0), .int (nI a), .int (nI i), .int e1])).length) Slot.unset).toArray = ls at hl ⊢
  have hl : lv_has ls 4 [(0, .ref (ad 0)), (1, .int (nI a)), (2, .int (nI i)), (3, .int e1)] := hl
  refine lv_aload_n hx hb dX4_store_0 rfl (lv_at hl 0 rfl) ?_
  refine va_get (D := D) (ci := 3) (v := .ref (ad 1)) (C := RX4) (T := TX4) (N := 6) hx hb hts in_X4_store_X4 hown hK hP 0 rfl rfl 0 (by decide) (hts _ lk_X4_store_12) (fun _ h9 => h9) rfl dX4_store_1 ?_
  refine lv_iload_n hx hb dX4_store_4 rfl (lv_at hl 1 rfl) ?_
  refine vp_callSi (va_Run.run (va_runV (As := [.int (nI a)]) (rest := []) ⟨hx, hb, hml, hown, hts⟩ (c_X3_has_in l D cI A ad σ a ha hc.2) (cwV 1 hts gX4_store_X3_has rfl rfl rfl (by decide +kernel) ⟨Nat.le_of_ble_eq_true rfl, Nat.le_of_ble_eq_true rfl⟩) ⟨Wc.blind, va_recv hK hP (ci := 2) (q0 := 1) rfl rfl, fun U hU hW => ⟨rfl, Wc.go hP hK hD hN hZ hS hU hW⟩⟩ rfl rfl hl.1 rfl (lv_room (Nat.le_of_ble_eq_true rfl)) dX4_store_5 ⟨Nat.zero_le _, Nat.zero_le _⟩)) (fun r_1 hr_1 => ?_)
  refine n_to (w := bI true) (hr_1.trans rfl) ?_
  refine q_if_eq hx hb (tgt := 33) (bI_z) dX4_store_8 (by decide) (fun c_8 => ?_) (fun c_8 => ?_)
  · cases c_8
  · refine lv_aload_n hx hb dX4_store_11 rfl (lv_at hl 0 rfl) ?_
    refine va_get (D := D) (ci := 3) (v := .ref (ad 1)) (C := RX4) (T := TX4) (N := 6) hx hb hts in_X4_store_X4 hown hK hP 0 rfl rfl 0 (by decide) (hts _ lk_X4_store_12) (fun _ h9 => h9) rfl dX4_store_12 ?_
    refine lv_iload_n hx hb dX4_store_15 rfl (lv_at hl 2 rfl) ?_
    refine vp_callSi (va_Run.run (va_runV (As := [.int (nI i)]) (rest := []) ⟨hx, hb, hml, hown, hts⟩ (c_X3_has_in l D cI A ad σ i hi hc.2) (cwV 1 hts gX4_store_X3_has rfl rfl rfl (by decide +kernel) ⟨Nat.le_of_ble_eq_true rfl, Nat.le_of_ble_eq_true rfl⟩) ⟨Wc.blind, va_recv hK hP (ci := 2) (q0 := 1) rfl rfl, fun U hU hW => ⟨rfl, Wc.go hP hK hD hN hZ hS hU hW⟩⟩ rfl rfl hl.1 rfl (lv_room (Nat.le_of_ble_eq_true rfl)) dX4_store_16 ⟨Nat.zero_le _, Nat.zero_le _⟩)) (fun r_2 hr_2 => ?_)
    refine n_to (w := bI true) (hr_2.trans rfl) ?_
    refine q_if_eq hx hb (tgt := 33) (bI_z) dX4_store_19 (by decide) (fun c_19 => ?_) (fun c_19 => ?_)
    · cases c_19
    · refine lv_aload_n hx hb dX4_store_22 rfl (lv_at hl 0 rfl) ?_
      refine va_get (D := D) (ci := 3) (v := .ref (ad 1)) (C := RX4) (T := TX4) (N := 6) hx hb hts in_X4_store_X4 hown hK hP 0 rfl rfl 0 (by decide) (hts _ lk_X4_store_12) (fun _ h9 => h9) rfl dX4_store_23 ?_
      refine lv_iload_n hx hb dX4_store_26 rfl (lv_at hl 3 rfl) ?_
      refine vp_callSi (va_Run.run (va_runV (As := [.int e1]) (rest := []) ⟨hx, hb, hml, hown, hts⟩ (c_X3_has_out l D cI A ad σ e1 hxo) (cwV 1 hts gX4_store_X3_has rfl rfl rfl (by decide +kernel) ⟨Nat.le_of_ble_eq_true rfl, Nat.le_of_ble_eq_true rfl⟩) ⟨Wc.blind, va_recv hK hP (ci := 2) (q0 := 1) rfl rfl, fun U hU hW => ⟨rfl, Wc.go hP hK hD hN hZ hS hU hW⟩⟩ rfl rfl hl.1 rfl (lv_room (Nat.le_of_ble_eq_true rfl)) dX4_store_27 ⟨Nat.zero_le _, Nat.zero_le _⟩)) (fun r_3 hr_3 => ?_)
      refine n_to (w := bI false) (hr_3.trans rfl) ?_
      refine q_if_ne hx hb (tgt := 41) (bI_z) dX4_store_30 (by decide) (fun c_30 => ?_) (fun c_30 => ?_)
      · exact absurd rfl c_30
      · exact vx_throw0 hx hb hlt hown (own := RX4) (cls := "java/lang/IndexOutOfBoundsException") (names := ["java/lang/RuntimeException", "java/lang/Exception"]) (ik := 47) (ic := 49) (by decide +kernel) (by decide +kernel) (hts _ mm_X4_store_c47) (hts _ mm_X4_store_i47) (vx_hat (fun w h => hts w (at_X4_store_49 w h)) tw_49 (hTw.use)) tg_47 hTh.1 hTh.2 hS (by rw [hml]; exact hl.1) dX4_store_33 dX4_store_36 dX4_store_37 dX4_store_40 (fun x hx => (htab x hx).elim) (Nat.le_of_ble_eq_true rfl) (Nat.le_of_ble_eq_true rfl) (Nat.le_of_ble_eq_true rfl) (Nat.le_of_ble_eq_true rfl) hlocks (fun t hvm hz hk => ⟨σ, rfl, ⟨rfl, hP.kept (fun k q h => hk q.1 (hP k q h).lt), hD⟩, ⟨Nat.le_trans hS.1 hz, fun q h1 h2 => (hk q (Nat.lt_of_lt_of_le h1 hS.1)).trans (hS.2.1 q h1 h2)⟩⟩) hS.2.2 (Nat.le_of_ble_eq_true rfl) (Nat.le_of_ble_eq_true rfl)
theorem mm_X4_store_c54 : Cond.classLink RX4 54 "java/lang/IllegalArgumentException" ∈ wsX4_store := by decide +kernel
theorem mm_X4_store_i54 : Cond.initialized "java/lang/IllegalArgumentException" ∈ wsX4_store := by decide +kernel
theorem at_X4_store_56 : ∀ w ∈ (vx_at0 RX4 56 "java/lang/IllegalArgumentException" ["java/lang/RuntimeException", "java/lang/Exception"]).filter goodWord, w ∈ wsX4_store := by decide +kernel
def rX4_store_sort : Room := { frames := 6, cells := 1, slots := 6, locals := 90 }
set_option maxHeartbeats 4000000 in
set_option maxRecDepth 100000 in
theorem x_X4_store_sort (l : Launch) (hlt : l.stackTraces = false) (D : va_G) (cI : ClassId) (A : Nat → Prop) (ad : Nat → Nat) (σ : Nat → Nat → Nat) (a i e1 : Nat) (hI : IC σ) (ha : a < σ 0 1) (hi : i < σ 0 1) (he1 : e1 < σ 0 1) (hbad : σ 6 a ≠ 2 ∨ σ 6 i ≠ 0 ∨ σ 6 e1 ≠ 1) : vx_Met l yX4_store wsX4_store rX4_store_sort (va_Pc [.ref (ad 0), .int (nI a), .int (nI i), .int (nI e1)] (Wx D cI A ad σ)) (va_Qi (fun _ (_ : Unit) => False) (fun _ _ => True) A) (vx_X (fun u => u = σ) (fun E u t => E = "java/lang/IllegalArgumentException" ∧ va_P D vwCl (WC ad cI u) t.heap ∧ va_D A (WC ad cI u)) A) 1 6 A := by
  refine vx_ofW (cc := cX4_store) (maxL := 4) (ret := (some .int)) (by decide) rfl ?_
  intro p e s m args below meth c s₁ B hml htab hv
  obtain ⟨rfl, ⟨hP, hK, hD, hN, hZ⟩, hTh, hTw⟩ := hv
  have hx := B.exec
  have hb := B.bytes
  have hr := B.returns
  have hts := atoms_spec (ws := wsX4_store) B.pre
  have hown : s.vm.findClass RX4 = some m.cls := findClass_of_methodNamed B.named
  have hlocks := B.notSynchronized
  have hS : va_S A s.heap s.heap [] := va_S.rf
  have hl := lv_entry ([.ref (ad 0), .int (nI a), .int (nI i), .int (nI e1)]) (n := 4) (Nat.le_of_ble_eq_true rfl)
  rw [lg_entry_eq]
  generalize (lg_sl ([.ref (ad 0), .int (nI a), .int (nI i), .int (nI e1)]) ++ List.replicate (4 - (lg_sl ([.ref (ad 0), .int (nI a), .int (nI i), .int (nI e1)])).length) Slot.unset).toArray = ls at hl ⊢
  have hl : lv_has ls 4 [(0, .ref (ad 0)), (1, .int (nI a)), (2, .int (nI i)), (3, .int (nI e1))] := hl
  have hc := hI.terms
  have hs0 := hI.sorts (j := a) (by omega)
  have hs1 := hI.sorts (j := i) (by omega)
  have hs2 := hI.sorts (j := e1) (by omega)
  refine lv_aload_n hx hb dX4_store_0 rfl (lv_at hl 0 rfl) ?_
  refine va_get (D := D) (ci := 3) (v := .ref (ad 1)) (C := RX4) (T := TX4) (N := 6) hx hb hts in_X4_store_X4 hown hK hP 0 rfl rfl 0 (by decide) (hts _ lk_X4_store_12) (fun _ h9 => h9) rfl dX4_store_1 ?_
  refine lv_iload_n hx hb dX4_store_4 rfl (lv_at hl 1 rfl) ?_
  refine vp_callSi (va_Run.run (va_runV (As := [.int (nI a)]) (rest := []) ⟨hx, hb, hml, hown, hts⟩ (c_X3_has_in l D cI A ad σ a ha hc.2) (cwV 1 hts gX4_store_X3_has rfl rfl rfl (by decide +kernel) ⟨Nat.le_of_ble_eq_true rfl, Nat.le_of_ble_eq_true rfl⟩) ⟨Wc.blind, va_recv hK hP (ci := 2) (q0 := 1) rfl rfl, fun U hU hW => ⟨rfl, Wc.go hP hK hD hN hZ hS hU hW⟩⟩ rfl rfl hl.1 rfl (lv_room (Nat.le_of_ble_eq_true rfl)) dX4_store_5 ⟨Nat.zero_le _, Nat.zero_le _⟩)) (fun r_1 hr_1 => ?_)
  refine n_to (w := bI true) (hr_1.trans rfl) ?_
  refine q_if_eq hx hb (tgt := 33) (bI_z) dX4_store_8 (by decide) (fun c_8 => ?_) (fun c_8 => ?_)
  · cases c_8
  · refine lv_aload_n hx hb dX4_store_11 rfl (lv_at hl 0 rfl) ?_
    refine va_get (D := D) (ci := 3) (v := .ref (ad 1)) (C := RX4) (T := TX4) (N := 6) hx hb hts in_X4_store_X4 hown hK hP 0 rfl rfl 0 (by decide) (hts _ lk_X4_store_12) (fun _ h9 => h9) rfl dX4_store_12 ?_
    refine lv_iload_n hx hb dX4_store_15 rfl (lv_at hl 2 rfl) ?_
    refine vp_callSi (va_Run.run (va_runV (As := [.int (nI i)]) (rest := []) ⟨hx, hb, hml, hown, hts⟩ (c_X3_has_in l D cI A ad σ i hi hc.2) (cwV 1 hts gX4_store_X3_has rfl rfl rfl (by decide +kernel) ⟨Nat.le_of_ble_eq_true rfl, Nat.le_of_ble_eq_true rfl⟩) ⟨Wc.blind, va_recv hK hP (ci := 2) (q0 := 1) rfl rfl, fun U hU hW => ⟨rfl, Wc.go hP hK hD hN hZ hS hU hW⟩⟩ rfl rfl hl.1 rfl (lv_room (Nat.le_of_ble_eq_true rfl)) dX4_store_16 ⟨Nat.zero_le _, Nat.zero_le _⟩)) (fun r_2 hr_2 => ?_)
    refine n_to (w := bI true) (hr_2.trans rfl) ?_
    refine q_if_eq hx hb (tgt := 33) (bI_z) dX4_store_19 (by decide) (fun c_19 => ?_) (fun c_19 => ?_)
    · cases c_19
    · refine lv_aload_n hx hb dX4_store_22 rfl (lv_at hl 0 rfl) ?_
      refine va_get (D := D) (ci := 3) (v := .ref (ad 1)) (C := RX4) (T := TX4) (N := 6) hx hb hts in_X4_store_X4 hown hK hP 0 rfl rfl 0 (by decide) (hts _ lk_X4_store_12) (fun _ h9 => h9) rfl dX4_store_23 ?_
      refine lv_iload_n hx hb dX4_store_26 rfl (lv_at hl 3 rfl) ?_
      refine vp_callSi (va_Run.run (va_runV (As := [.int (nI e1)]) (rest := []) ⟨hx, hb, hml, hown, hts⟩ (c_X3_has_in l D cI A ad σ e1 he1 hc.2) (cwV 1 hts gX4_store_X3_has rfl rfl rfl (by decide +kernel) ⟨Nat.le_of_ble_eq_true rfl, Nat.le_of_ble_eq_true rfl⟩) ⟨Wc.blind, va_recv hK hP (ci := 2) (q0 := 1) rfl rfl, fun U hU hW => ⟨rfl, Wc.go hP hK hD hN hZ hS hU hW⟩⟩ rfl rfl hl.1 rfl (lv_room (Nat.le_of_ble_eq_true rfl)) dX4_store_27 ⟨Nat.zero_le _, Nat.zero_le _⟩)) (fun r_3 hr_3 => ?_)
      refine n_to (w := bI true) (hr_3.trans rfl) ?_
      refine q_if_ne hx hb (tgt := 41) (bI_z) dX4_store_30 (by decide) (fun c_30 => ?_) (fun c_30 => ?_)
      · refine lv_aload_n hx hb dX4_store_41 rfl (lv_at hl 0 rfl) ?_
        refine va_get (D := D) (ci := 3) (v := .ref (ad 1)) (C := RX4) (T := TX4) (N := 6) hx hb hts in_X4_store_X4 hown hK hP 0 rfl rfl 0 (by decide) (hts _ lk_X4_store_12) (fun _ h9 => h9) rfl dX4_store_42 ?_
        refine lv_iload_n hx hb dX4_store_45 rfl (lv_at hl 1 rfl) ?_
        refine vp_callSi (va_Run.run (va_runV (As := [.int (nI a)]) (rest := []) ⟨hx, hb, hml, hown, hts⟩ (c_X3_sortOf_in l D cI A ad σ a ha hc.2) (cwV 1 hts gX4_store_X3_sortOf rfl rfl rfl (by decide +kernel) ⟨Nat.le_of_ble_eq_true rfl, Nat.le_of_ble_eq_true rfl⟩) ⟨Wc.blind, va_recv hK hP (ci := 2) (q0 := 1) rfl rfl, fun U hU hW => ⟨rfl, Wc.go hP hK hD hN hZ hS hU hW⟩⟩ rfl rfl hl.1 rfl (lv_room (Nat.le_of_ble_eq_true rfl)) dX4_store_46 ⟨Nat.zero_le _, Nat.zero_le _⟩)) (fun r_4 hr_4 => ?_)
        refine n_to (w := nI (σ 6 a)) (hr_4.trans rfl) ?_
        refine lv_iconst (v := nI 2) hx hb dX4_store_49 (by decide) ?_
        refine q_icmp_ne hx hb (tgt := 76) (nI_eq (by omega) (by omega)) dX4_store_50 (by decide) (fun c_50 => ?_) (fun c_50 => ?_)
        · exact vx_throw0 hx hb hlt hown (own := RX4) (cls := "java/lang/IllegalArgumentException") (names := ["java/lang/RuntimeException", "java/lang/Exception"]) (ik := 54) (ic := 56) (by decide +kernel) (by decide +kernel) (hts _ mm_X4_store_c54) (hts _ mm_X4_store_i54) (vx_hat (fun w h => hts w (at_X4_store_56 w h)) tw_56 (hTw.use)) tg_54 hTh.1 hTh.2 hS (by rw [hml]; exact hl.1) dX4_store_76 dX4_store_79 dX4_store_80 dX4_store_83 (fun x hx => (htab x hx).elim) (Nat.le_of_ble_eq_true rfl) (Nat.le_of_ble_eq_true rfl) (Nat.le_of_ble_eq_true rfl) (Nat.le_of_ble_eq_true rfl) hlocks (fun t hvm hz hk => ⟨σ, rfl, ⟨rfl, hP.kept (fun k q h => hk q.1 (hP k q h).lt), hD⟩, ⟨Nat.le_trans hS.1 hz, fun q h1 h2 => (hk q (Nat.lt_of_lt_of_le h1 hS.1)).trans (hS.2.1 q h1 h2)⟩⟩) hS.2.2 (Nat.le_of_ble_eq_true rfl) (Nat.le_of_ble_eq_true rfl)
        · refine lv_aload_n hx hb dX4_store_53 rfl (lv_at hl 0 rfl) ?_
          refine va_get (D := D) (ci := 3) (v := .ref (ad 1)) (C := RX4) (T := TX4) (N := 6) hx hb hts in_X4_store_X4 hown hK hP 0 rfl rfl 0 (by decide) (hts _ lk_X4_store_12) (fun _ h9 => h9) rfl dX4_store_54 ?_
          refine lv_iload_n hx hb dX4_store_57 rfl (lv_at hl 2 rfl) ?_
          refine vp_callSi (va_Run.run (va_runV (As := [.int (nI i)]) (rest := []) ⟨hx, hb, hml, hown, hts⟩ (c_X3_sortOf_in l D cI A ad σ i hi hc.2) (cwV 1 hts gX4_store_X3_sortOf rfl rfl rfl (by decide +kernel) ⟨Nat.le_of_ble_eq_true rfl, Nat.le_of_ble_eq_true rfl⟩) ⟨Wc.blind, va_recv hK hP (ci := 2) (q0 := 1) rfl rfl, fun U hU hW => ⟨rfl, Wc.go hP hK hD hN hZ hS hU hW⟩⟩ rfl rfl hl.1 rfl (lv_room (Nat.le_of_ble_eq_true rfl)) dX4_store_58 ⟨Nat.zero_le _, Nat.zero_le _⟩)) (fun r_5 hr_5 => ?_)
          refine n_to (w := nI (σ 6 i)) (hr_5.trans rfl) ?_
          refine q_if_ne hx hb (tgt := 76) (nI_z (by omega)) dX4_store_61 (by decide) (fun c_61 => ?_) (fun c_61 => ?_)
          · exact vx_throw0 hx hb hlt hown (own := RX4) (cls := "java/lang/IllegalArgumentException") (names := ["java/lang/RuntimeException", "java/lang/Exception"]) (ik := 54) (ic := 56) (by decide +kernel) (by decide +kernel) (hts _ mm_X4_store_c54) (hts _ mm_X4_store_i54) (vx_hat (fun w h => hts w (at_X4_store_56 w h)) tw_56 (hTw.use)) tg_54 hTh.1 hTh.2 hS (by rw [hml]; exact hl.1) dX4_store_76 dX4_store_79 dX4_store_80 dX4_store_83 (fun x hx => (htab x hx).elim) (Nat.le_of_ble_eq_true rfl) (Nat.le_of_ble_eq_true rfl) (Nat.le_of_ble_eq_true rfl) (Nat.le_of_ble_eq_true rfl) hlocks (fun t hvm hz hk => ⟨σ, rfl, ⟨rfl, hP.kept (fun k q h => hk q.1 (hP k q h).lt), hD⟩, ⟨Nat.le_trans hS.1 hz, fun q h1 h2 => (hk q (Nat.lt_of_lt_of_le h1 hS.1)).trans (hS.2.1 q h1 h2)⟩⟩) hS.2.2 (Nat.le_of_ble_eq_true rfl) (Nat.le_of_ble_eq_true rfl)
          · refine lv_aload_n hx hb dX4_store_64 rfl (lv_at hl 0 rfl) ?_
            refine va_get (D := D) (ci := 3) (v := .ref (ad 1)) (C := RX4) (T := TX4) (N := 6) hx hb hts in_X4_store_X4 hown hK hP 0 rfl rfl 0 (by decide) (hts _ lk_X4_store_12) (fun _ h9 => h9) rfl dX4_store_65 ?_
            refine lv_iload_n hx hb dX4_store_68 rfl (lv_at hl 3 rfl) ?_
            refine vp_callSi (va_Run.run (va_runV (As := [.int (nI e1)]) (rest := []) ⟨hx, hb, hml, hown, hts⟩ (c_X3_sortOf_in l D cI A ad σ e1 he1 hc.2) (cwV 1 hts gX4_store_X3_sortOf rfl rfl rfl (by decide +kernel) ⟨Nat.le_of_ble_eq_true rfl, Nat.le_of_ble_eq_true rfl⟩) ⟨Wc.blind, va_recv hK hP (ci := 2) (q0 := 1) rfl rfl, fun U hU hW => ⟨rfl, Wc.go hP hK hD hN hZ hS hU hW⟩⟩ rfl rfl hl.1 rfl (lv_room (Nat.le_of_ble_eq_true rfl)) dX4_store_69 ⟨Nat.zero_le _, Nat.zero_le _⟩)) (fun r_6 hr_6 => ?_)
            refine n_to (w := nI (σ 6 e1)) (hr_6.trans rfl) ?_
            refine lv_iconst (v := nI 1) hx hb dX4_store_72 (by decide) ?_
            refine q_icmp_eq hx hb (tgt := 84) (nI_eq (by omega) (by omega)) dX4_store_73 (by decide) (fun c_73 => ?_) (fun c_73 => ?_)
            · exact absurd hbad (fun q => q.elim (fun z => z c_50) (fun q => q.elim (fun z => z c_61) (fun z => z c_73)))
            · exact vx_throw0 hx hb hlt hown (own := RX4) (cls := "java/lang/IllegalArgumentException") (names := ["java/lang/RuntimeException", "java/lang/Exception"]) (ik := 54) (ic := 56) (by decide +kernel) (by decide +kernel) (hts _ mm_X4_store_c54) (hts _ mm_X4_store_i54) (vx_hat (fun w h => hts w (at_X4_store_56 w h)) tw_56 (hTw.use)) tg_54 hTh.1 hTh.2 hS (by rw [hml]; exact hl.1) dX4_store_76 dX4_store_79 dX4_store_80 dX4_store_83 (fun x hx => (htab x hx).elim) (Nat.le_of_ble_eq_true rfl) (Nat.le_of_ble_eq_true rfl) (Nat.le_of_ble_eq_true rfl) (Nat.le_of_ble_eq_true rfl) hlocks (fun t hvm hz hk => ⟨σ, rfl, ⟨rfl, hP.kept (fun k q h => hk q.1 (hP k q h).lt), hD⟩, ⟨Nat.le_trans hS.1 hz, fun q h1 h2 => (hk q (Nat.lt_of_lt_of_le h1 hS.1)).trans (hS.2.1 q h1 h2)⟩⟩) hS.2.2 (Nat.le_of_ble_eq_true rfl) (Nat.le_of_ble_eq_true rfl)
      · cases c_30
def rX4_store_full : Room := { frames := 7, cells := 1, slots := 6, locals := 115 }
set_option maxHeartbeats 4000000 in
set_option maxRecDepth 100000 in
theorem x_X4_store_full (l : Launch) (hlt : l.stackTraces = false) (D : va_G) (cI : ClassId) (A : Nat → Prop) (ad : Nat → Nat) (σ : Nat → Nat → Nat) (a i e1 : Nat) (hI : IC σ) (ha : a < σ 0 1) (hi : i < σ 0 1) (he1 : e1 < σ 0 1) (hsa : σ 6 a = 2) (hsi : σ 6 i = 0) (hse : σ 6 e1 = 1) (hfd : findF σ 2 (a + 1) (i + 1) (e1 + 1) (σ 0 1 - 7) 7 = 0) (hfl : σ 0 1 = 24) : vx_Met l yX4_store wsX4_store rX4_store_full (va_Pc [.ref (ad 0), .int (nI a), .int (nI i), .int (nI e1)] (Wx D cI A ad σ)) (va_Qi (fun _ (_ : Unit) => False) (fun _ _ => True) A) (vx_X (fun u => u = σ) (fun E u t => E = "java/lang/UnsupportedOperationException" ∧ va_P D vwCl (WC ad cI u) t.heap ∧ va_D A (WC ad cI u)) A) 1 6 A := by
  refine vx_ofW (cc := cX4_store) (maxL := 4) (ret := (some .int)) (by decide) rfl ?_
  intro p e s m args below meth c s₁ B hml htab hv
  obtain ⟨rfl, ⟨hP, hK, hD, hN, hZ⟩, hTh, hTw⟩ := hv
  have hx := B.exec
  have hb := B.bytes
  have hr := B.returns
  have hts := atoms_spec (ws := wsX4_store) B.pre
  have hown : s.vm.findClass RX4 = some m.cls := findClass_of_methodNamed B.named
  have hlocks := B.notSynchronized
  have hS : va_S A s.heap s.heap [] := va_S.rf
  have hl := lv_entry ([.ref (ad 0), .int (nI a), .int (nI i), .int (nI e1)]) (n := 4) (Nat.le_of_ble_eq_true rfl)
  rw [lg_entry_eq]
  generalize (lg_sl ([.ref (ad 0), .int (nI a), .int (nI i), .int (nI e1)]) ++ List.replicate (4 - (lg_sl ([.ref (ad 0), .int (nI a), .int (nI i), .int (nI e1)])).length) Slot.unset).toArray = ls at hl ⊢
  have hl : lv_has ls 4 [(0, .ref (ad 0)), (1, .int (nI a)), (2, .int (nI i)), (3, .int (nI e1))] := hl
  have hc := hI.terms
  have hs0 := hI.sorts (j := a) (by omega)
  have hs1 := hI.sorts (j := i) (by omega)
  have hs2 := hI.sorts (j := e1) (by omega)
  refine lv_aload_n hx hb dX4_store_0 rfl (lv_at hl 0 rfl) ?_
  refine va_get (D := D) (ci := 3) (v := .ref (ad 1)) (C := RX4) (T := TX4) (N := 6) hx hb hts in_X4_store_X4 hown hK hP 0 rfl rfl 0 (by decide) (hts _ lk_X4_store_12) (fun _ h9 => h9) rfl dX4_store_1 ?_
  refine lv_iload_n hx hb dX4_store_4 rfl (lv_at hl 1 rfl) ?_
  refine vp_callSi (va_Run.run (va_runV (As := [.int (nI a)]) (rest := []) ⟨hx, hb, hml, hown, hts⟩ (c_X3_has_in l D cI A ad σ a ha hc.2) (cwV 1 hts gX4_store_X3_has rfl rfl rfl (by decide +kernel) ⟨Nat.le_of_ble_eq_true rfl, Nat.le_of_ble_eq_true rfl⟩) ⟨Wc.blind, va_recv hK hP (ci := 2) (q0 := 1) rfl rfl, fun U hU hW => ⟨rfl, Wc.go hP hK hD hN hZ hS hU hW⟩⟩ rfl rfl hl.1 rfl (lv_room (Nat.le_of_ble_eq_true rfl)) dX4_store_5 ⟨Nat.zero_le _, Nat.zero_le _⟩)) (fun r_1 hr_1 => ?_)
  refine n_to (w := bI true) (hr_1.trans rfl) ?_
  refine q_if_eq hx hb (tgt := 33) (bI_z) dX4_store_8 (by decide) (fun c_8 => ?_) (fun c_8 => ?_)
  · cases c_8
  · refine lv_aload_n hx hb dX4_store_11 rfl (lv_at hl 0 rfl) ?_
    refine va_get (D := D) (ci := 3) (v := .ref (ad 1)) (C := RX4) (T := TX4) (N := 6) hx hb hts in_X4_store_X4 hown hK hP 0 rfl rfl 0 (by decide) (hts _ lk_X4_store_12) (fun _ h9 => h9) rfl dX4_store_12 ?_
    refine lv_iload_n hx hb dX4_store_15 rfl (lv_at hl 2 rfl) ?_
    refine vp_callSi (va_Run.run (va_runV (As := [.int (nI i)]) (rest := []) ⟨hx, hb, hml, hown, hts⟩ (c_X3_has_in l D cI A ad σ i hi hc.2) (cwV 1 hts gX4_store_X3_has rfl rfl rfl (by decide +kernel) ⟨Nat.le_of_ble_eq_true rfl, Nat.le_of_ble_eq_true rfl⟩) ⟨Wc.blind, va_recv hK hP (ci := 2) (q0 := 1) rfl rfl, fun U hU hW => ⟨rfl, Wc.go hP hK hD hN hZ hS hU hW⟩⟩ rfl rfl hl.1 rfl (lv_room (Nat.le_of_ble_eq_true rfl)) dX4_store_16 ⟨Nat.zero_le _, Nat.zero_le _⟩)) (fun r_2 hr_2 => ?_)
    refine n_to (w := bI true) (hr_2.trans rfl) ?_
    refine q_if_eq hx hb (tgt := 33) (bI_z) dX4_store_19 (by decide) (fun c_19 => ?_) (fun c_19 => ?_)
    · cases c_19
    · refine lv_aload_n hx hb dX4_store_22 rfl (lv_at hl 0 rfl) ?_
      refine va_get (D := D) (ci := 3) (v := .ref (ad 1)) (C := RX4) (T := TX4) (N := 6) hx hb hts in_X4_store_X4 hown hK hP 0 rfl rfl 0 (by decide) (hts _ lk_X4_store_12) (fun _ h9 => h9) rfl dX4_store_23 ?_
      refine lv_iload_n hx hb dX4_store_26 rfl (lv_at hl 3 rfl) ?_
      refine vp_callSi (va_Run.run (va_runV (As := [.int (nI e1)]) (rest := []) ⟨hx, hb, hml, hown, hts⟩ (c_X3_has_in l D cI A ad σ e1 he1 hc.2) (cwV 1 hts gX4_store_X3_has rfl rfl rfl (by decide +kernel) ⟨Nat.le_of_ble_eq_true rfl, Nat.le_of_ble_eq_true rfl⟩) ⟨Wc.blind, va_recv hK hP (ci := 2) (q0 := 1) rfl rfl, fun U hU hW => ⟨rfl, Wc.go hP hK hD hN hZ hS hU hW⟩⟩ rfl rfl hl.1 rfl (lv_room (Nat.le_of_ble_eq_true rfl)) dX4_store_27 ⟨Nat.zero_le _, Nat.zero_le _⟩)) (fun r_3 hr_3 => ?_)
      refine n_to (w := bI true) (hr_3.trans rfl) ?_
      refine q_if_ne hx hb (tgt := 41) (bI_z) dX4_store_30 (by decide) (fun c_30 => ?_) (fun c_30 => ?_)
      · refine lv_aload_n hx hb dX4_store_41 rfl (lv_at hl 0 rfl) ?_
        refine va_get (D := D) (ci := 3) (v := .ref (ad 1)) (C := RX4) (T := TX4) (N := 6) hx hb hts in_X4_store_X4 hown hK hP 0 rfl rfl 0 (by decide) (hts _ lk_X4_store_12) (fun _ h9 => h9) rfl dX4_store_42 ?_
        refine lv_iload_n hx hb dX4_store_45 rfl (lv_at hl 1 rfl) ?_
        refine vp_callSi (va_Run.run (va_runV (As := [.int (nI a)]) (rest := []) ⟨hx, hb, hml, hown, hts⟩ (c_X3_sortOf_in l D cI A ad σ a ha hc.2) (cwV 1 hts gX4_store_X3_sortOf rfl rfl rfl (by decide +kernel) ⟨Nat.le_of_ble_eq_true rfl, Nat.le_of_ble_eq_true rfl⟩) ⟨Wc.blind, va_recv hK hP (ci := 2) (q0 := 1) rfl rfl, fun U hU hW => ⟨rfl, Wc.go hP hK hD hN hZ hS hU hW⟩⟩ rfl rfl hl.1 rfl (lv_room (Nat.le_of_ble_eq_true rfl)) dX4_store_46 ⟨Nat.zero_le _, Nat.zero_le _⟩)) (fun r_4 hr_4 => ?_)
        refine n_to (w := nI (σ 6 a)) (hr_4.trans rfl) ?_
        refine lv_iconst (v := nI 2) hx hb dX4_store_49 (by decide) ?_
        refine q_icmp_ne hx hb (tgt := 76) (nI_eq (by omega) (by omega)) dX4_store_50 (by decide) (fun c_50 => ?_) (fun c_50 => ?_)
        · exact absurd hsa c_50
        · refine lv_aload_n hx hb dX4_store_53 rfl (lv_at hl 0 rfl) ?_
          refine va_get (D := D) (ci := 3) (v := .ref (ad 1)) (C := RX4) (T := TX4) (N := 6) hx hb hts in_X4_store_X4 hown hK hP 0 rfl rfl 0 (by decide) (hts _ lk_X4_store_12) (fun _ h9 => h9) rfl dX4_store_54 ?_
          refine lv_iload_n hx hb dX4_store_57 rfl (lv_at hl 2 rfl) ?_
          refine vp_callSi (va_Run.run (va_runV (As := [.int (nI i)]) (rest := []) ⟨hx, hb, hml, hown, hts⟩ (c_X3_sortOf_in l D cI A ad σ i hi hc.2) (cwV 1 hts gX4_store_X3_sortOf rfl rfl rfl (by decide +kernel) ⟨Nat.le_of_ble_eq_true rfl, Nat.le_of_ble_eq_true rfl⟩) ⟨Wc.blind, va_recv hK hP (ci := 2) (q0 := 1) rfl rfl, fun U hU hW => ⟨rfl, Wc.go hP hK hD hN hZ hS hU hW⟩⟩ rfl rfl hl.1 rfl (lv_room (Nat.le_of_ble_eq_true rfl)) dX4_store_58 ⟨Nat.zero_le _, Nat.zero_le _⟩)) (fun r_5 hr_5 => ?_)
          refine n_to (w := nI (σ 6 i)) (hr_5.trans rfl) ?_
          refine q_if_ne hx hb (tgt := 76) (nI_z (by omega)) dX4_store_61 (by decide) (fun c_61 => ?_) (fun c_61 => ?_)
          · exact absurd hsi c_61
          · refine lv_aload_n hx hb dX4_store_64 rfl (lv_at hl 0 rfl) ?_
            refine va_get (D := D) (ci := 3) (v := .ref (ad 1)) (C := RX4) (T := TX4) (N := 6) hx hb hts in_X4_store_X4 hown hK hP 0 rfl rfl 0 (by decide) (hts _ lk_X4_store_12) (fun _ h9 => h9) rfl dX4_store_65 ?_
            refine lv_iload_n hx hb dX4_store_68 rfl (lv_at hl 3 rfl) ?_
            refine vp_callSi (va_Run.run (va_runV (As := [.int (nI e1)]) (rest := []) ⟨hx, hb, hml, hown, hts⟩ (c_X3_sortOf_in l D cI A ad σ e1 he1 hc.2) (cwV 1 hts gX4_store_X3_sortOf rfl rfl rfl (by decide +kernel) ⟨Nat.le_of_ble_eq_true rfl, Nat.le_of_ble_eq_true rfl⟩) ⟨Wc.blind, va_recv hK hP (ci := 2) (q0 := 1) rfl rfl, fun U hU hW => ⟨rfl, Wc.go hP hK hD hN hZ hS hU hW⟩⟩ rfl rfl hl.1 rfl (lv_room (Nat.le_of_ble_eq_true rfl)) dX4_store_69 ⟨Nat.zero_le _, Nat.zero_le _⟩)) (fun r_6 hr_6 => ?_)
            refine n_to (w := nI (σ 6 e1)) (hr_6.trans rfl) ?_
            refine lv_iconst (v := nI 1) hx hb dX4_store_72 (by decide) ?_
            refine q_icmp_eq hx hb (tgt := 84) (nI_eq (by omega) (by omega)) dX4_store_73 (by decide) (fun c_73 => ?_) (fun c_73 => ?_)
            · refine lv_aload_n hx hb dX4_store_84 rfl (lv_at hl 0 rfl) ?_
              refine lv_iconst (v := nI 2) hx hb dX4_store_85 (by decide) ?_
              refine lv_iload_n hx hb dX4_store_86 rfl (lv_at hl 1 rfl) ?_
              refine n_to (w := mI (a + 1)) ((mI_succ _).symm) ?_
              refine lv_iload_n hx hb dX4_store_87 rfl (lv_at hl 2 rfl) ?_
              refine n_to (w := mI (i + 1)) ((mI_succ _).symm) ?_
              refine lv_iload_n hx hb dX4_store_88 rfl (lv_at hl 3 rfl) ?_
              refine n_to (w := mI (e1 + 1)) ((mI_succ _).symm) ?_
              exact vx_calli (vx_runV (As := [.int (nI 2), .int (mI (a + 1)), .int (mI (i + 1)), .int (mI (e1 + 1))]) (rest := []) ⟨hx, hb, hml, hown, hts⟩ (x_X4_termFor_full l hlt D cI A ad σ 2 (a + 1) (i + 1) (e1 + 1) hI (by omega) (by omega) (by omega) (by omega) hfd hfl) (cwV 4 hts gX4_store_X4_termFor rfl rfl rfl (by decide +kernel) ⟨Nat.le_of_ble_eq_true rfl, Nat.le_of_ble_eq_true rfl⟩) ⟨Wx.blind, va_recv hK hP (ci := 3) (q0 := 0) rfl rfl, fun U hU hW => ⟨rfl, Wx.go hP hK hD hN hZ hTh hTw hS hU hW⟩⟩ rfl rfl hl.1 rfl (lv_room (Nat.le_of_ble_eq_true rfl)) dX4_store_89 ⟨Nat.le_of_ble_eq_true rfl, Nat.le_of_ble_eq_true rfl⟩) hS (fun q _ h => h) (fun q h => h) (fun q _ h => h) (fun E9 ce9 q9 u9 t9 H9 locs9 ht9 hvm9 hpx9 hB9 hz9 hk9 hS9 hce9 hcv9 hcl9 => by obtain ⟨hE9, hP9, hD9⟩ := hB9; rw [ht9, hpx9] at hP9; rw [hpx9] at hD9; exact vx_out (fun x hx => (htab x hx).elim) hlocks hce9 hcv9 hcl9 (fun t2 ht2 hvm2 => ⟨σ, rfl, ⟨hE9, by rw [ht2]; exact hP9, hD9⟩, hS9.F ht2⟩) hS9.2.2 (Nat.le_of_ble_eq_true rfl) (Nat.le_of_ble_eq_true rfl)) (fun r u t H1 locs1 ht hvm hw => hw.elim)
            · exact absurd hse c_73
      · cases c_30
def rX4_literal_o1 : Room := { frames := 7, cells := 1, slots := 6, locals := 112 }
set_option maxHeartbeats 4000000 in
set_option maxRecDepth 100000 in
theorem x_X4_literal_o1 (l : Launch) (hlt : l.stackTraces = false) (D : va_G) (cI : ClassId) (A : Nat → Prop) (ad : Nat → Nat) (σ : Nat → Nat → Nat) (t1 u1 : Int32) (b : Bool) (hc : 7 ≤ σ 0 1 ∧ σ 0 1 ≤ 24) (hxo : t1 < 0 ∨ nI (σ 0 1) ≤ t1) : vx_Met l yX4_literal wsX4_literal rX4_literal_o1 (va_Pc [.ref (ad 0), .int t1, .int u1, .int (bI b)] (Wx D cI A ad σ)) (va_Qi (fun _ (_ : Unit) => False) (fun _ _ => True) A) (vx_X (fun u => u = σ) (fun E u t => E = "java/lang/IndexOutOfBoundsException" ∧ va_P D vwCl (WC ad cI u) t.heap ∧ va_D A (WC ad cI u)) A) 1 6 A := by
  refine vx_ofW (cc := cX4_literal) (maxL := 4) (ret := (some .int)) (by decide) rfl ?_
  intro p e s m args below meth c s₁ B hml htab hv
  obtain ⟨rfl, ⟨hP, hK, hD, hN, hZ⟩, hTh, hTw⟩ := hv
  have hx := B.exec
  have hb := B.bytes
  have hr := B.returns
  have hts := atoms_spec (ws := wsX4_literal) B.pre
  have hown : s.vm.findClass RX4 = some m.cls := findClass_of_methodNamed B.named
  have hlocks := B.notSynchronized
  have hS : va_S A s.heap s.heap [] := va_S.rf
  have hl := lv_entry ([.ref (ad 0), .int t1, .int u1, .int (bI b)]) (n := 4) (Nat.le_of_ble_eq_true rfl)
  rw [lg_entry_eq]
  generalize (lg_sl ([.ref (ad 0), .int t1, .int u1, .int (bI b)]) ++ List.replicate (4 - (lg_sl ([.ref (ad 0), .int t1, .int u1, .int (bI b)])).length) Slot.unset).toArray = ls at hl ⊢
  have hl : lv_has ls 4 [(0, .ref (ad 0)), (1, .int t1), (2, .int u1), (3, .int (bI b))] := hl
  refine lv_aload_n hx hb dX4_literal_0 rfl (lv_at hl 0 rfl) ?_
  refine lv_iload_n hx hb dX4_literal_1 rfl (lv_at hl 1 rfl) ?_
  refine lv_iload_n hx hb dX4_literal_2 rfl (lv_at hl 2 rfl) ?_
  exact vx_callv (vx_runV (As := [.int t1, .int u1]) (rest := []) ⟨hx, hb, hml, hown, hts⟩ (x_X4_checkPair_o1 l hlt D cI A ad σ t1 u1 hc hxo) (cwV 2 hts gX4_literal_X4_checkPair rfl rfl rfl (by decide +kernel) ⟨Nat.le_of_ble_eq_true rfl, Nat.le_of_ble_eq_true rfl⟩) ⟨Wx.blind, va_recv hK hP (ci := 3) (q0 := 0) rfl rfl, fun U hU hW => ⟨rfl, Wx.go hP hK hD hN hZ hTh hTw hS hU hW⟩⟩ rfl rfl hl.1 rfl (lv_room (Nat.le_of_ble_eq_true rfl)) dX4_literal_3 ⟨Nat.le_of_ble_eq_true rfl, Nat.le_of_ble_eq_true rfl⟩) hS (fun q _ h => h) (fun q h => h) (fun q _ h => h) (fun E9 ce9 q9 u9 t9 H9 locs9 ht9 hvm9 hpx9 hB9 hz9 hk9 hS9 hce9 hcv9 hcl9 => by obtain ⟨hE9, hP9, hD9⟩ := hB9; rw [ht9, hpx9] at hP9; rw [hpx9] at hD9; exact vx_out (fun x hx => (htab x hx).elim) hlocks hce9 hcv9 hcl9 (fun t2 ht2 hvm2 => ⟨σ, rfl, ⟨hE9, by rw [ht2]; exact hP9, hD9⟩, hS9.F ht2⟩) hS9.2.2 (Nat.le_of_ble_eq_true rfl) (Nat.le_of_ble_eq_true rfl)) (fun u t H1 locs1 ht hvm hw => hw.elim)
def rX4_literal_o2 : Room := { frames := 7, cells := 1, slots := 6, locals := 112 }
set_option maxHeartbeats 4000000 in
set_option maxRecDepth 100000 in
theorem x_X4_literal_o2 (l : Launch) (hlt : l.stackTraces = false) (D : va_G) (cI : ClassId) (A : Nat → Prop) (ad : Nat → Nat) (σ : Nat → Nat → Nat) (t1 : Nat) (u1 : Int32) (b : Bool) (hc : 7 ≤ σ 0 1 ∧ σ 0 1 ≤ 24) (ht : t1 < σ 0 1) (hxo : u1 < 0 ∨ nI (σ 0 1) ≤ u1) : vx_Met l yX4_literal wsX4_literal rX4_literal_o2 (va_Pc [.ref (ad 0), .int (nI t1), .int u1, .int (bI b)] (Wx D cI A ad σ)) (va_Qi (fun _ (_ : Unit) => False) (fun _ _ => True) A) (vx_X (fun u => u = σ) (fun E u t => E = "java/lang/IndexOutOfBoundsException" ∧ va_P D vwCl (WC ad cI u) t.heap ∧ va_D A (WC ad cI u)) A) 1 6 A := by
  refine vx_ofW (cc := cX4_literal) (maxL := 4) (ret := (some .int)) (by decide) rfl ?_
  intro p e s m args below meth c s₁ B hml htab hv
  obtain ⟨rfl, ⟨hP, hK, hD, hN, hZ⟩, hTh, hTw⟩ := hv
  have hx := B.exec
  have hb := B.bytes
  have hr := B.returns
  have hts := atoms_spec (ws := wsX4_literal) B.pre
  have hown : s.vm.findClass RX4 = some m.cls := findClass_of_methodNamed B.named
  have hlocks := B.notSynchronized
  have hS : va_S A s.heap s.heap [] := va_S.rf
  have hl := lv_entry ([.ref (ad 0), .int (nI t1), .int u1, .int (bI b)]) (n := 4) (Nat.le_of_ble_eq_true rfl)
  rw [lg_entry_eq]
  generalize (lg_sl ([.ref (ad 0), .int (nI t1), .int u1, .int (bI b)]) ++ List.replicate (4 - (lg_sl ([.ref (ad 0), .int (nI t1), .int u1, .int (bI b)])).length) Slot.unset).toArray = ls at hl ⊢
  have hl : lv_has ls 4 [(0, .ref (ad 0)), (1, .int (nI t1)), (2, .int u1), (3, .int (bI b))] := hl
  refine lv_aload_n hx hb dX4_literal_0 rfl (lv_at hl 0 rfl) ?_
  refine lv_iload_n hx hb dX4_literal_1 rfl (lv_at hl 1 rfl) ?_
  refine lv_iload_n hx hb dX4_literal_2 rfl (lv_at hl 2 rfl) ?_
  exact vx_callv (vx_runV (As := [.int (nI t1), .int u1]) (rest := []) ⟨hx, hb, hml, hown, hts⟩ (x_X4_checkPair_o2 l hlt D cI A ad σ t1 u1 hc ht hxo) (cwV 2 hts gX4_literal_X4_checkPair rfl rfl rfl (by decide +kernel) ⟨Nat.le_of_ble_eq_true rfl, Nat.le_of_ble_eq_true rfl⟩) ⟨Wx.blind, va_recv hK hP (ci := 3) (q0 := 0) rfl rfl, fun U hU hW => ⟨rfl, Wx.go hP hK hD hN hZ hTh hTw hS hU hW⟩⟩ rfl rfl hl.1 rfl (lv_room (Nat.le_of_ble_eq_true rfl)) dX4_literal_3 ⟨Nat.le_of_ble_eq_true rfl, Nat.le_of_ble_eq_true rfl⟩) hS (fun q _ h => h) (fun q h => h) (fun q _ h => h) (fun E9 ce9 q9 u9 t9 H9 locs9 ht9 hvm9 hpx9 hB9 hz9 hk9 hS9 hce9 hcv9 hcl9 => by obtain ⟨hE9, hP9, hD9⟩ := hB9; rw [ht9, hpx9] at hP9; rw [hpx9] at hD9; exact vx_out (fun x hx => (htab x hx).elim) hlocks hce9 hcv9 hcl9 (fun t2 ht2 hvm2 => ⟨σ, rfl, ⟨hE9, by rw [ht2]; exact hP9, hD9⟩, hS9.F ht2⟩) hS9.2.2 (Nat.le_of_ble_eq_true rfl) (Nat.le_of_ble_eq_true rfl)) (fun u t H1 locs1 ht hvm hw => hw.elim)
def rX4_literal_sort : Room := { frames := 7, cells := 1, slots := 6, locals := 112 }
set_option maxHeartbeats 4000000 in
set_option maxRecDepth 100000 in
theorem x_X4_literal_sort (l : Launch) (hlt : l.stackTraces = false) (D : va_G) (cI : ClassId) (A : Nat → Prop) (ad : Nat → Nat) (σ : Nat → Nat → Nat) (t1 u1 : Nat) (b : Bool) (hI : IC σ) (ht : t1 < σ 0 1) (hu : u1 < σ 0 1) (hsu : σ 6 t1 ≠ σ 6 u1) : vx_Met l yX4_literal wsX4_literal rX4_literal_sort (va_Pc [.ref (ad 0), .int (nI t1), .int (nI u1), .int (bI b)] (Wx D cI A ad σ)) (va_Qi (fun _ (_ : Unit) => False) (fun _ _ => True) A) (vx_X (fun u => u = σ) (fun E u t => E = "java/lang/IllegalArgumentException" ∧ va_P D vwCl (WC ad cI u) t.heap ∧ va_D A (WC ad cI u)) A) 1 6 A := by
  refine vx_ofW (cc := cX4_literal) (maxL := 4) (ret := (some .int)) (by decide) rfl ?_
  intro p e s m args below meth c s₁ B hml htab hv
  obtain ⟨rfl, ⟨hP, hK, hD, hN, hZ⟩, hTh, hTw⟩ := hv
  have hx := B.exec
  have hb := B.bytes
  have hr := B.returns
  have hts := atoms_spec (ws := wsX4_literal) B.pre
  have hown : s.vm.findClass RX4 = some m.cls := findClass_of_methodNamed B.named
  have hlocks := B.notSynchronized
  have hS : va_S A s.heap s.heap [] := va_S.rf
  have hl := lv_entry ([.ref (ad 0), .int (nI t1), .int (nI u1), .int (bI b)]) (n := 4) (Nat.le_of_ble_eq_true rfl)
  rw [lg_entry_eq]
  generalize (lg_sl ([.ref (ad 0), .int (nI t1), .int (nI u1), .int (bI b)]) ++ List.replicate (4 - (lg_sl ([.ref (ad 0), .int (nI t1), .int (nI u1), .int (bI b)])).length) Slot.unset).toArray = ls at hl ⊢
  have hl : lv_has ls 4 [(0, .ref (ad 0)), (1, .int (nI t1)), (2, .int (nI u1)), (3, .int (bI b))] := hl
  refine lv_aload_n hx hb dX4_literal_0 rfl (lv_at hl 0 rfl) ?_
  refine lv_iload_n hx hb dX4_literal_1 rfl (lv_at hl 1 rfl) ?_
  refine lv_iload_n hx hb dX4_literal_2 rfl (lv_at hl 2 rfl) ?_
  exact vx_callv (vx_runV (As := [.int (nI t1), .int (nI u1)]) (rest := []) ⟨hx, hb, hml, hown, hts⟩ (x_X4_checkPair_sort l hlt D cI A ad σ t1 u1 hI ht hu hsu) (cwV 2 hts gX4_literal_X4_checkPair rfl rfl rfl (by decide +kernel) ⟨Nat.le_of_ble_eq_true rfl, Nat.le_of_ble_eq_true rfl⟩) ⟨Wx.blind, va_recv hK hP (ci := 3) (q0 := 0) rfl rfl, fun U hU hW => ⟨rfl, Wx.go hP hK hD hN hZ hTh hTw hS hU hW⟩⟩ rfl rfl hl.1 rfl (lv_room (Nat.le_of_ble_eq_true rfl)) dX4_literal_3 ⟨Nat.le_of_ble_eq_true rfl, Nat.le_of_ble_eq_true rfl⟩) hS (fun q _ h => h) (fun q h => h) (fun q _ h => h) (fun E9 ce9 q9 u9 t9 H9 locs9 ht9 hvm9 hpx9 hB9 hz9 hk9 hS9 hce9 hcv9 hcl9 => by obtain ⟨hE9, hP9, hD9⟩ := hB9; rw [ht9, hpx9] at hP9; rw [hpx9] at hD9; exact vx_out (fun x hx => (htab x hx).elim) hlocks hce9 hcv9 hcl9 (fun t2 ht2 hvm2 => ⟨σ, rfl, ⟨hE9, by rw [ht2]; exact hP9, hD9⟩, hS9.F ht2⟩) hS9.2.2 (Nat.le_of_ble_eq_true rfl) (Nat.le_of_ble_eq_true rfl)) (fun u t H1 locs1 ht hvm hw => hw.elim)
theorem mm_X4_literal_c68 : Cond.classLink RX4 68 "java/lang/IllegalStateException" ∈ wsX4_literal := by decide +kernel
theorem mm_X4_literal_i68 : Cond.initialized "java/lang/IllegalStateException" ∈ wsX4_literal := by decide +kernel
theorem at_X4_literal_70 : ∀ w ∈ (vx_at0 RX4 70 "java/lang/IllegalStateException" ["java/lang/RuntimeException", "java/lang/Exception"]).filter goodWord, w ∈ wsX4_literal := by decide +kernel
def rX4_literal_full : Room := { frames := 6, cells := 1, slots := 6, locals := 90 }
set_option maxHeartbeats 4000000 in
set_option maxRecDepth 100000 in
theorem x_X4_literal_full (l : Launch) (hlt : l.stackTraces = false) (D : va_G) (cI : ClassId) (A : Nat → Prop) (ad : Nat → Nat) (σ : Nat → Nat → Nat) (t1 u1 : Nat) (b : Bool) (hI : IC σ) (ht : t1 < σ 0 1) (hu : u1 < σ 0 1) (hsu : σ 6 t1 = σ 6 u1) (hd3 : σ 0 0 = 3) : vx_Met l yX4_literal wsX4_literal rX4_literal_full (va_Pc [.ref (ad 0), .int (nI t1), .int (nI u1), .int (bI b)] (Wx D cI A ad σ)) (va_Qi (fun _ (_ : Unit) => False) (fun _ _ => True) A) (vx_X (fun u => u = σ) (fun E u t => E = "java/lang/IllegalStateException" ∧ va_P D vwCl (WC ad cI u) t.heap ∧ va_D A (WC ad cI u)) A) 1 6 A := by
  refine vx_ofW (cc := cX4_literal) (maxL := 4) (ret := (some .int)) (by decide) rfl ?_
  intro p e s m args below meth c s₁ B hml htab hv
  obtain ⟨rfl, ⟨hP, hK, hD, hN, hZ⟩, hTh, hTw⟩ := hv
  have hx := B.exec
  have hb := B.bytes
  have hr := B.returns
  have hts := atoms_spec (ws := wsX4_literal) B.pre
  have hown : s.vm.findClass RX4 = some m.cls := findClass_of_methodNamed B.named
  have hlocks := B.notSynchronized
  have hS : va_S A s.heap s.heap [] := va_S.rf
  have hl := lv_entry ([.ref (ad 0), .int (nI t1), .int (nI u1), .int (bI b)]) (n := 4) (Nat.le_of_ble_eq_true rfl)
  rw [lg_entry_eq]
  generalize (lg_sl ([.ref (ad 0), .int (nI t1), .int (nI u1), .int (bI b)]) ++ List.replicate (4 - (lg_sl ([.ref (ad 0), .int (nI t1), .int (nI u1), .int (bI b)])).length) Slot.unset).toArray = ls at hl ⊢
  have hl : lv_has ls 4 [(0, .ref (ad 0)), (1, .int (nI t1)), (2, .int (nI u1)), (3, .int (bI b))] := hl
  refine lv_aload_n hx hb dX4_literal_0 rfl (lv_at hl 0 rfl) ?_
  refine lv_iload_n hx hb dX4_literal_1 rfl (lv_at hl 1 rfl) ?_
  refine lv_iload_n hx hb dX4_literal_2 rfl (lv_at hl 2 rfl) ?_
  refine va_callv (va_runV (As := [.int (nI t1), .int (nI u1)]) (rest := []) ⟨hx, hb, hml, hown, hts⟩ (c_X4_checkPair_ok l D cI A ad σ t1 u1 hI ht hu hsu) (cwV 2 hts gX4_literal_X4_checkPair rfl rfl rfl (by decide +kernel) ⟨Nat.le_of_ble_eq_true rfl, Nat.le_of_ble_eq_true rfl⟩) ⟨Wc.blind, va_recv hK hP (ci := 3) (q0 := 0) rfl rfl, fun U hU hW => ⟨rfl, Wc.go hP hK hD hN hZ hS hU hW⟩⟩ rfl rfl hl.1 rfl (lv_room (Nat.le_of_ble_eq_true rfl)) dX4_literal_3 ⟨Nat.zero_le _, Nat.zero_le _⟩) hS (fun q _ h => h) (fun q h => h) (fun σ_1 t H1 locs ht hvm hwσ_1 hB hz1 hk1 hS => ?_)
  obtain ⟨hP, -, hD, -⟩ := hB
  rw [ht] at hP
  generalize H1 = H at hP hS ⊢
  rw [hwσ_1] at hP hD
  refine lv_aload_n hx hb dX4_literal_6 rfl (lv_at hl 0 rfl) ?_
  refine va_get (D := D) (ci := 3) (v := .int (nI (σ 0 0))) (C := RX4) (T := TX4) (N := 6) hx hb hts in_X4_literal_X4 hown hK hP 0 rfl rfl 3 (by decide) (hts _ lk_X4_literal_29) (fun _ h9 => h9) rfl dX4_literal_7 ?_
  refine lv_iconst (v := nI 3) hx hb dX4_literal_10 (by decide) ?_
  refine n_icmp_lt hx hb (tgt := 22) (by omega) (by omega) dX4_literal_11 (by decide) (fun c_11 => ?_) (fun c_11 => ?_)
  · omega
  · exact vx_throw0 hx hb hlt hown (own := RX4) (cls := "java/lang/IllegalStateException") (names := ["java/lang/RuntimeException", "java/lang/Exception"]) (ik := 68) (ic := 70) (by decide +kernel) (by decide +kernel) (hts _ mm_X4_literal_c68) (hts _ mm_X4_literal_i68) (vx_hat (fun w h => hts w (at_X4_literal_70 w h)) tw_70 (hTw.use)) tg_68 hTh.1 hTh.2 hS (by rw [hml]; exact hl.1) dX4_literal_14 dX4_literal_17 dX4_literal_18 dX4_literal_21 (fun x hx => (htab x hx).elim) (Nat.le_of_ble_eq_true rfl) (Nat.le_of_ble_eq_true rfl) (Nat.le_of_ble_eq_true rfl) (Nat.le_of_ble_eq_true rfl) hlocks (fun t hvm hz hk => ⟨σ, rfl, ⟨rfl, hP.kept (fun k q h => hk q.1 (hP k q h).lt), hD⟩, ⟨Nat.le_trans hS.1 hz, fun q h1 h2 => (hk q (Nat.lt_of_lt_of_le h1 hS.1)).trans (hS.2.1 q h1 h2)⟩⟩) hS.2.2 (Nat.le_of_ble_eq_true rfl) (Nat.le_of_ble_eq_true rfl)
def rX4_same_o1 : Room := { frames := 7, cells := 1, slots := 6, locals := 112 }
set_option maxHeartbeats 4000000 in
set_option maxRecDepth 100000 in
theorem x_X4_same_o1 (l : Launch) (hlt : l.stackTraces = false) (D : va_G) (cI : ClassId) (A : Nat → Prop) (ad : Nat → Nat) (σ : Nat → Nat → Nat) (t1 u1 : Int32) (hI : IC σ) (hxo : t1 < 0 ∨ nI (σ 0 1) ≤ t1) : vx_Met l yX4_same wsX4_same rX4_same_o1 (va_Pc [.ref (ad 0), .int t1, .int u1] (Wx D cI A ad σ)) (va_Qi (fun _ (_ : Unit) => False) (fun _ _ => True) A) (vx_X (fun u => KS σ u) (fun E u t => E = "java/lang/IndexOutOfBoundsException" ∧ va_P D vwCl (WC ad cI u) t.heap ∧ va_D A (WC ad cI u)) A) 1 6 A := by
  refine vx_ofW (cc := cX4_same) (maxL := 5) (ret := (some .int)) (by decide) rfl ?_
  intro p e s m args below meth c s₁ B hml htab hv
  obtain ⟨rfl, ⟨hP, hK, hD, hN, hZ⟩, hTh, hTw⟩ := hv
  have hx := B.exec
  have hb := B.bytes
  have hr := B.returns
  have hts := atoms_spec (ws := wsX4_same) B.pre
  have hown : s.vm.findClass RX4 = some m.cls := findClass_of_methodNamed B.named
  have hlocks := B.notSynchronized
  have hS : va_S A s.heap s.heap [] := va_S.rf
  have hl := lv_entry ([.ref (ad 0), .int t1, .int u1]) (n := 5) (Nat.le_of_ble_eq_true rfl)
  rw [lg_entry_eq]
  generalize (lg_sl ([.ref (ad 0), .int t1, .int u1]) ++ List.replicate (5 - (lg_sl ([.ref (ad 0), .int t1, .int u1])).length) Slot.unset).toArray = ls at hl ⊢
  have hl : lv_has ls 5 [(0, .ref (ad 0)), (1, .int t1), (2, .int u1)] := hl
  have hc := hI.terms
  refine lv_aload_n hx hb dX4_same_0 rfl (lv_at hl 0 rfl) ?_
  refine lv_iload_n hx hb dX4_same_1 rfl (lv_at hl 1 rfl) ?_
  refine lv_iload_n hx hb dX4_same_2 rfl (lv_at hl 2 rfl) ?_
  exact vx_callv (vx_runV (As := [.int t1, .int u1]) (rest := []) ⟨hx, hb, hml, hown, hts⟩ (x_X4_checkPair_o1 l hlt D cI A ad σ t1 u1 hc hxo) (cwV 2 hts gX4_same_X4_checkPair rfl rfl rfl (by decide +kernel) ⟨Nat.le_of_ble_eq_true rfl, Nat.le_of_ble_eq_true rfl⟩) ⟨Wx.blind, va_recv hK hP (ci := 3) (q0 := 0) rfl rfl, fun U hU hW => ⟨rfl, Wx.go hP hK hD hN hZ hTh hTw hS hU hW⟩⟩ rfl rfl hl.1 rfl (lv_room (Nat.le_of_ble_eq_true rfl)) dX4_same_3 ⟨Nat.le_of_ble_eq_true rfl, Nat.le_of_ble_eq_true rfl⟩) hS (fun q _ h => h) (fun q h => h) (fun q _ h => h) (fun E9 ce9 q9 u9 t9 H9 locs9 ht9 hvm9 hpx9 hB9 hz9 hk9 hS9 hce9 hcv9 hcl9 => by obtain ⟨hE9, hP9, hD9⟩ := hB9; rw [ht9, hpx9] at hP9; rw [hpx9] at hD9; exact vx_out (fun x hx => (htab x hx).elim) hlocks hce9 hcv9 hcl9 (fun t2 ht2 hvm2 => ⟨σ, KS.rf hI, ⟨hE9, by rw [ht2]; exact hP9, hD9⟩, hS9.F ht2⟩) hS9.2.2 (Nat.le_of_ble_eq_true rfl) (Nat.le_of_ble_eq_true rfl)) (fun u t H1 locs1 ht hvm hw => hw.elim)
def rX4_same_o2 : Room := { frames := 7, cells := 1, slots := 6, locals := 112 }
set_option maxHeartbeats 4000000 in
set_option maxRecDepth 100000 in
theorem x_X4_same_o2 (l : Launch) (hlt : l.stackTraces = false) (D : va_G) (cI : ClassId) (A : Nat → Prop) (ad : Nat → Nat) (σ : Nat → Nat → Nat) (t1 : Nat) (u1 : Int32) (hI : IC σ) (ht : t1 < σ 0 1) (hxo : u1 < 0 ∨ nI (σ 0 1) ≤ u1) : vx_Met l yX4_same wsX4_same rX4_same_o2 (va_Pc [.ref (ad 0), .int (nI t1), .int u1] (Wx D cI A ad σ)) (va_Qi (fun _ (_ : Unit) => False) (fun _ _ => True) A) (vx_X (fun u => KS σ u) (fun E u t => E = "java/lang/IndexOutOfBoundsException" ∧ va_P D vwCl (WC ad cI u) t.heap ∧ va_D A (WC ad cI u)) A) 1 6 A := by
  refine vx_ofW (cc := cX4_same) (maxL := 5) (ret := (some .int)) (by decide) rfl ?_
  intro p e s m args below meth c s₁ B hml htab hv
  obtain ⟨rfl, ⟨hP, hK, hD, hN, hZ⟩, hTh, hTw⟩ := hv
  have hx := B.exec
  have hb := B.bytes
  have hr := B.returns
  have hts := atoms_spec (ws := wsX4_same) B.pre
  have hown : s.vm.findClass RX4 = some m.cls := findClass_of_methodNamed B.named
  have hlocks := B.notSynchronized
  have hS : va_S A s.heap s.heap [] := va_S.rf
  have hl := lv_entry ([.ref (ad 0), .int (nI t1), .int u1]) (n := 5) (Nat.le_of_ble_eq_true rfl)
  rw [lg_entry_eq]
  generalize (lg_sl ([.ref (ad 0), .int (nI t1), .int u1]) ++ List.replicate (5 - (lg_sl ([.ref (ad 0), .int (nI t1), .int u1])).length) Slot.unset).toArray = ls at hl ⊢
  have hl : lv_has ls 5 [(0, .ref (ad 0)), (1, .int (nI t1)), (2, .int u1)] := hl
  have hc := hI.terms
  refine lv_aload_n hx hb dX4_same_0 rfl (lv_at hl 0 rfl) ?_
  refine lv_iload_n hx hb dX4_same_1 rfl (lv_at hl 1 rfl) ?_
  refine lv_iload_n hx hb dX4_same_2 rfl (lv_at hl 2 rfl) ?_
  exact vx_callv (vx_runV (As := [.int (nI t1), .int u1]) (rest := []) ⟨hx, hb, hml, hown, hts⟩ (x_X4_checkPair_o2 l hlt D cI A ad σ t1 u1 hc ht hxo) (cwV 2 hts gX4_same_X4_checkPair rfl rfl rfl (by decide +kernel) ⟨Nat.le_of_ble_eq_true rfl, Nat.le_of_ble_eq_true rfl⟩) ⟨Wx.blind, va_recv hK hP (ci := 3) (q0 := 0) rfl rfl, fun U hU hW => ⟨rfl, Wx.go hP hK hD hN hZ hTh hTw hS hU hW⟩⟩ rfl rfl hl.1 rfl (lv_room (Nat.le_of_ble_eq_true rfl)) dX4_same_3 ⟨Nat.le_of_ble_eq_true rfl, Nat.le_of_ble_eq_true rfl⟩) hS (fun q _ h => h) (fun q h => h) (fun q _ h => h) (fun E9 ce9 q9 u9 t9 H9 locs9 ht9 hvm9 hpx9 hB9 hz9 hk9 hS9 hce9 hcv9 hcl9 => by obtain ⟨hE9, hP9, hD9⟩ := hB9; rw [ht9, hpx9] at hP9; rw [hpx9] at hD9; exact vx_out (fun x hx => (htab x hx).elim) hlocks hce9 hcv9 hcl9 (fun t2 ht2 hvm2 => ⟨σ, KS.rf hI, ⟨hE9, by rw [ht2]; exact hP9, hD9⟩, hS9.F ht2⟩) hS9.2.2 (Nat.le_of_ble_eq_true rfl) (Nat.le_of_ble_eq_true rfl)) (fun u t H1 locs1 ht hvm hw => hw.elim)
def rX4_same_sort : Room := { frames := 7, cells := 1, slots := 6, locals := 112 }
set_option maxHeartbeats 4000000 in
set_option maxRecDepth 100000 in
theorem x_X4_same_sort (l : Launch) (hlt : l.stackTraces = false) (D : va_G) (cI : ClassId) (A : Nat → Prop) (ad : Nat → Nat) (σ : Nat → Nat → Nat) (t1 u1 : Nat) (hI : IC σ) (ht : t1 < σ 0 1) (hu : u1 < σ 0 1) (hsu : σ 6 t1 ≠ σ 6 u1) : vx_Met l yX4_same wsX4_same rX4_same_sort (va_Pc [.ref (ad 0), .int (nI t1), .int (nI u1)] (Wx D cI A ad σ)) (va_Qi (fun _ (_ : Unit) => False) (fun _ _ => True) A) (vx_X (fun u => KS σ u) (fun E u t => E = "java/lang/IllegalArgumentException" ∧ va_P D vwCl (WC ad cI u) t.heap ∧ va_D A (WC ad cI u)) A) 1 6 A := by
  refine vx_ofW (cc := cX4_same) (maxL := 5) (ret := (some .int)) (by decide) rfl ?_
  intro p e s m args below meth c s₁ B hml htab hv
  obtain ⟨rfl, ⟨hP, hK, hD, hN, hZ⟩, hTh, hTw⟩ := hv
  have hx := B.exec
  have hb := B.bytes
  have hr := B.returns
  have hts := atoms_spec (ws := wsX4_same) B.pre
  have hown : s.vm.findClass RX4 = some m.cls := findClass_of_methodNamed B.named
  have hlocks := B.notSynchronized
  have hS : va_S A s.heap s.heap [] := va_S.rf
  have hl := lv_entry ([.ref (ad 0), .int (nI t1), .int (nI u1)]) (n := 5) (Nat.le_of_ble_eq_true rfl)
  rw [lg_entry_eq]
  generalize (lg_sl ([.ref (ad 0), .int (nI t1), .int (nI u1)]) ++ List.replicate (5 - (lg_sl ([.ref (ad 0), .int (nI t1), .int (nI u1)])).length) Slot.unset).toArray = ls at hl ⊢
  have hl : lv_has ls 5 [(0, .ref (ad 0)), (1, .int (nI t1)), (2, .int (nI u1))] := hl
  refine lv_aload_n hx hb dX4_same_0 rfl (lv_at hl 0 rfl) ?_
  refine lv_iload_n hx hb dX4_same_1 rfl (lv_at hl 1 rfl) ?_
  refine lv_iload_n hx hb dX4_same_2 rfl (lv_at hl 2 rfl) ?_
  exact vx_callv (vx_runV (As := [.int (nI t1), .int (nI u1)]) (rest := []) ⟨hx, hb, hml, hown, hts⟩ (x_X4_checkPair_sort l hlt D cI A ad σ t1 u1 hI ht hu hsu) (cwV 2 hts gX4_same_X4_checkPair rfl rfl rfl (by decide +kernel) ⟨Nat.le_of_ble_eq_true rfl, Nat.le_of_ble_eq_true rfl⟩) ⟨Wx.blind, va_recv hK hP (ci := 3) (q0 := 0) rfl rfl, fun U hU hW => ⟨rfl, Wx.go hP hK hD hN hZ hTh hTw hS hU hW⟩⟩ rfl rfl hl.1 rfl (lv_room (Nat.le_of_ble_eq_true rfl)) dX4_same_3 ⟨Nat.le_of_ble_eq_true rfl, Nat.le_of_ble_eq_true rfl⟩) hS (fun q _ h => h) (fun q h => h) (fun q _ h => h) (fun E9 ce9 q9 u9 t9 H9 locs9 ht9 hvm9 hpx9 hB9 hz9 hk9 hS9 hce9 hcv9 hcl9 => by obtain ⟨hE9, hP9, hD9⟩ := hB9; rw [ht9, hpx9] at hP9; rw [hpx9] at hD9; exact vx_out (fun x hx => (htab x hx).elim) hlocks hce9 hcv9 hcl9 (fun t2 ht2 hvm2 => ⟨σ, KS.rf hI, ⟨hE9, by rw [ht2]; exact hP9, hD9⟩, hS9.F ht2⟩) hS9.2.2 (Nat.le_of_ble_eq_true rfl) (Nat.le_of_ble_eq_true rfl)) (fun u t H1 locs1 ht hvm hw => hw.elim)
theorem mm_X4_same_c68 : Cond.classLink RX4 68 "java/lang/IllegalStateException" ∈ wsX4_same := by decide +kernel
theorem mm_X4_same_i68 : Cond.initialized "java/lang/IllegalStateException" ∈ wsX4_same := by decide +kernel
theorem at_X4_same_70 : ∀ w ∈ (vx_at0 RX4 70 "java/lang/IllegalStateException" ["java/lang/RuntimeException", "java/lang/Exception"]).filter goodWord, w ∈ wsX4_same := by decide +kernel
def rX4_same_cant : Room := { frames := 16, cells := 1, slots := 6, locals := 504 }
set_option maxHeartbeats 4000000 in
set_option maxRecDepth 100000 in
theorem x_X4_same_cant (l : Launch) (hlt : l.stackTraces = false) (D : va_G) (cI : ClassId) (A : Nat → Prop) (ad : Nat → Nat) (σ : Nat → Nat → Nat) (t1 u1 : Nat) (hI : IC σ) (ht : t1 < σ 0 1) (hu : u1 < σ 0 1) (hsu : σ 6 t1 = σ 6 u1) (hW0 : WF σ) (hM0 : MadeW σ) (hcan1 : canXB σ 1 (fun _ => litF t1 u1 true) = false) (hcan0 : canXB σ 1 (fun _ => litF t1 u1 false) = false) : vx_Met l yX4_same wsX4_same rX4_same_cant (va_Pc [.ref (ad 0), .int (nI t1), .int (nI u1)] (Wx D cI A ad σ)) (va_Qi (fun _ (_ : Unit) => False) (fun _ _ => True) A) (vx_X (fun u => KS σ u) (fun E u t => E = "java/lang/IllegalStateException" ∧ va_P D vwCl (WC ad cI u) t.heap ∧ va_D A (WC ad cI u)) A) 1 6 A := by
  refine vx_ofW (cc := cX4_same) (maxL := 5) (ret := (some .int)) (by decide) rfl ?_
  intro p e s m args below meth c s₁ B hml htab hv
  obtain ⟨rfl, ⟨hP, hK, hD, hN, hZ⟩, hTh, hTw⟩ := hv
  have hx := B.exec
  have hb := B.bytes
  have hr := B.returns
  have hts := atoms_spec (ws := wsX4_same) B.pre
  have hown : s.vm.findClass RX4 = some m.cls := findClass_of_methodNamed B.named
  have hlocks := B.notSynchronized
  have hS : va_S A s.heap s.heap [] := va_S.rf
  have hl := lv_entry ([.ref (ad 0), .int (nI t1), .int (nI u1)]) (n := 5) (Nat.le_of_ble_eq_true rfl)
  rw [lg_entry_eq]
  generalize (lg_sl ([.ref (ad 0), .int (nI t1), .int (nI u1)]) ++ List.replicate (5 - (lg_sl ([.ref (ad 0), .int (nI t1), .int (nI u1)])).length) Slot.unset).toArray = ls at hl ⊢
  have hl : lv_has ls 5 [(0, .ref (ad 0)), (1, .int (nI t1)), (2, .int (nI u1))] := hl
  have hc := hI.terms
  have hcm := hI.claims
  have hl1 := litF_ok true (t := t1) (u := u1) (by omega) (by omega)
  have hl0 := litF_ok false (t := t1) (u := u1) (by omega) (by omega)
  have HLW1 : litW σ (litF t1 u1 true) := by unfold litW; rw [hl1.2.1, hl1.2.2.1]; exact ⟨ht, hu, hsu⟩
  have HLW0 : litW σ (litF t1 u1 false) := by unfold litW; rw [hl0.2.1, hl0.2.2.1]; exact ⟨ht, hu, hsu⟩
  refine lv_aload_n hx hb dX4_same_0 rfl (lv_at hl 0 rfl) ?_
  refine lv_iload_n hx hb dX4_same_1 rfl (lv_at hl 1 rfl) ?_
  refine lv_iload_n hx hb dX4_same_2 rfl (lv_at hl 2 rfl) ?_
  refine va_callv (va_runV (As := [.int (nI t1), .int (nI u1)]) (rest := []) ⟨hx, hb, hml, hown, hts⟩ (c_X4_checkPair_ok l D cI A ad σ t1 u1 hI ht hu hsu) (cwV 2 hts gX4_same_X4_checkPair rfl rfl rfl (by decide +kernel) ⟨Nat.le_of_ble_eq_true rfl, Nat.le_of_ble_eq_true rfl⟩) ⟨Wc.blind, va_recv hK hP (ci := 3) (q0 := 0) rfl rfl, fun U hU hW => ⟨rfl, Wc.go hP hK hD hN hZ hS hU hW⟩⟩ rfl rfl hl.1 rfl (lv_room (Nat.le_of_ble_eq_true rfl)) dX4_same_3 ⟨Nat.zero_le _, Nat.zero_le _⟩) hS (fun q _ h => h) (fun q h => h) (fun σ_1 t H1 locs ht hvm hwσ_1 hB hz1 hk1 hS => ?_)
  obtain ⟨hP, -, hD, -⟩ := hB
  rw [ht] at hP
  generalize H1 = H at hP hS ⊢
  rw [hwσ_1] at hP hD
  refine lv_aload_n hx hb dX4_same_6 rfl (lv_at hl 0 rfl) ?_
  refine lv_aload_n hx hb dX4_same_7 rfl (lv_at hl 0 rfl) ?_
  refine va_get (D := D) (ci := 3) (v := .ref (ad 2)) (C := RX4) (T := TX4) (N := 6) hx hb hts in_X4_same_X4 hown hK hP 0 rfl rfl 1 (by decide) (hts _ lk_X4_same_21) (fun _ h9 => h9) rfl dX4_same_8 ?_
  refine va_getN (D := D) (ci := 0) (v := .int (nI (σ 0 2))) (C := RX0) (T := TX0) (N := 3) hx hb hts in_X4_same_X0 hown hK hP 2 rfl rfl 2 (by decide) (hN.use 7 rfl) (fun _ h9 => h9) rfl dX4_same_11 ?_
  refine lv_iconst (v := mI 0) hx hb dX4_same_14 (by decide) ?_
  refine va_callv (va_runV (As := [.int (nI (σ 0 2)), .int (mI 0)]) (rest := []) ⟨hx, hb, hml, hown, hts⟩ (c_X4_askClaims l D cI A ad σ (σ 0 2) 0 hI (Nat.le_refl _) (by omega)) (cwV 2 hts gX4_same_X4_askClaims rfl rfl rfl (by decide +kernel) ⟨Nat.le_of_ble_eq_true rfl, Nat.le_of_ble_eq_true rfl⟩) ⟨Wc.blind, va_recv hK hP (ci := 3) (q0 := 0) rfl rfl, fun U hU hW => ⟨rfl, Wc.go hP hK hD hN hZ hS hU hW⟩⟩ rfl rfl hl.1 rfl (lv_room (Nat.le_of_ble_eq_true rfl)) dX4_same_15 ⟨Nat.zero_le _, Nat.zero_le _⟩) hS (fun q _ h => h) (fun q h => h) (fun σ_2 t H1 locs ht hvm hwσ_2 hB hz1 hk1 hS => ?_)
  obtain ⟨hP, -, hD, -⟩ := hB
  rw [ht] at hP
  generalize H1 = H at hP hS ⊢
  have har : AR σ σ_2 0 (fun _ => litF t1 u1 true) := AR.ofAQ hI hwσ_2
  refine lv_aload_n hx hb dX4_same_18 rfl (lv_at hl 0 rfl) ?_
  refine va_get (D := D) (ci := 3) (v := .ref (ad 4)) (C := RX4) (T := TX4) (N := 6) hx hb hts in_X4_same_X4 hown hK hP 0 rfl rfl 4 (by decide) (hts _ lk_X4_same_33) (fun _ h9 => h9) rfl dX4_same_19 ?_
  refine lv_iload_n hx hb dX4_same_22 rfl (lv_at hl 1 rfl) ?_
  refine lv_iload_n hx hb dX4_same_23 rfl (lv_at hl 2 rfl) ?_
  refine lv_iconst (v := nI 1) hx hb dX4_same_24 (by decide) ?_
  refine vp_callSi (va_Run.run (va_runS (As := [.int (nI t1), .int (nI u1), .int (nI 1)]) (rest := [.ref (ad 4)]) ⟨hx, hb, hml, hown, hts⟩ (c_X1_of l   t1 u1 true (by omega) (by omega)) (va_cwS 3 hts gX4_same_X1_of rfl rfl rfl (by decide +kernel) ⟨Nat.le_of_ble_eq_true rfl, Nat.le_of_ble_eq_true rfl⟩) ⟨tt_blind, fun U hU hW => ⟨rfl, trivial⟩⟩ rfl rfl hl.1 rfl (lv_room (Nat.le_of_ble_eq_true rfl)) dX4_same_25 ⟨Nat.zero_le _, Nat.zero_le _⟩)) (fun r_3 hr_3 => ?_)
  refine n_to (w := nI (litF t1 u1 true)) (hr_3.trans rfl) ?_
  refine va_callv (va_runV (As := [.int (nI (litF t1 u1 true))]) (rest := []) ⟨hx, hb, hml, hown, hts⟩ (c_X0_addSingle l D cI A ad σ_2 (litF t1 u1 true) har.2.2.1 (by rw [har.2.2.2.1]; omega)) (cwV 1 hts gX4_same_X0_addSingle rfl rfl rfl (by decide +kernel) ⟨Nat.le_of_ble_eq_true rfl, Nat.le_of_ble_eq_true rfl⟩) ⟨Wc.blind, va_recv hK hP (ci := 0) (q0 := 4) rfl rfl, fun U hU hW => ⟨rfl, Wc.go hP hK hD hN hZ hS hU hW⟩⟩ rfl rfl hl.1 rfl (lv_room (Nat.le_of_ble_eq_true rfl)) dX4_same_28 ⟨Nat.zero_le _, Nat.zero_le _⟩) hS (fun q _ h => h) (fun q h => h) (fun σ_4 t H1 locs ht hvm hwσ_4 hB hz1 hk1 hS => ?_)
  obtain ⟨hP, -, hD, -⟩ := hB
  rw [ht] at hP
  generalize H1 = H at hP hS ⊢
  have har : AR σ σ_4 1 (fun _ => litF t1 u1 true) := by rw [hwσ_4]; exact har.single hI (by omega) hl1.1 rfl
  refine lv_aload_n hx hb dX4_same_31 rfl (lv_at hl 0 rfl) ?_
  refine va_calli (va_runV (As := []) (rest := []) ⟨hx, hb, hml, hown, hts⟩ (c_X4_isPossible l D cI A ad σ_4 har.2.2.1 (har.ks.wf hW0) (har.ask hM0 (fun i _ => HLW1))) (cwV 0 hts gX4_same_X4_isPossible rfl rfl rfl (by decide +kernel) ⟨Nat.le_of_ble_eq_true rfl, Nat.le_of_ble_eq_true rfl⟩) ⟨Wc.blind, va_recv hK hP (ci := 3) (q0 := 0) rfl rfl, fun U hU hW => ⟨rfl, Wc.go hP hK hD hN hZ hS hU hW⟩⟩ rfl rfl hl.1 rfl (lv_room (Nat.le_of_ble_eq_true rfl)) dX4_same_32 ⟨Nat.zero_le _, Nat.zero_le _⟩) hS (fun q _ h => h) (fun q h => h) (fun r_6 σ_5 t H1 locs ht hvm hwσ_5 hB hz1 hk1 hS => ?_)
  obtain ⟨hr_6, hwσ_5⟩ := hwσ_5
  refine n_to (w := bI (canXB σ 1 (fun _ => litF t1 u1 true))) (by rw [hr_6, har.can]) ?_
  obtain ⟨hP, -, hD, -⟩ := hB
  rw [ht] at hP
  generalize H1 = H at hP hS ⊢
  have har := har.finds hwσ_5
  refine lv_istore_n (lv' := [(3, .int (bI (canXB σ 1 (fun _ => litF t1 u1 true)))), (0, .ref (ad 0)), (1, .int (nI t1)), (2, .int (nI u1))]) hx hb dX4_same_35 rfl hl (by decide) rfl (fun ls hl => ?_)
  refine lv_aload_n hx hb dX4_same_36 rfl (lv_at hl 1 rfl) ?_
  refine va_get (D := D) (ci := 3) (v := .ref (ad 4)) (C := RX4) (T := TX4) (N := 6) hx hb hts in_X4_same_X4 hown hK hP 0 rfl rfl 4 (by decide) (hts _ lk_X4_same_33) (fun _ h9 => h9) rfl dX4_same_37 ?_
  refine lv_aload_n hx hb dX4_same_40 rfl (lv_at hl 1 rfl) ?_
  refine va_get (D := D) (ci := 3) (v := .ref (ad 2)) (C := RX4) (T := TX4) (N := 6) hx hb hts in_X4_same_X4 hown hK hP 0 rfl rfl 1 (by decide) (hts _ lk_X4_same_21) (fun _ h9 => h9) rfl dX4_same_41 ?_
  refine va_getN (D := D) (ci := 0) (v := .int (nI (σ_5 0 2))) (C := RX0) (T := TX0) (N := 3) hx hb hts in_X4_same_X0 hown hK hP 2 rfl rfl 2 (by decide) (hN.use 7 rfl) (fun _ h9 => h9) rfl dX4_same_44 ?_
  refine n_to (w := nI (σ 0 2)) (by rw [har.2.1 2 (by decide)]) ?_
  refine va_callv (va_runV (As := [.int (nI (σ 0 2))]) (rest := []) ⟨hx, hb, hml, hown, hts⟩ (c_X0_cutTo_asked l D cI A ad σ_5 (σ 0 2) har.2.2.1 (by omega)) (cwV 1 hts gX4_same_X0_cutTo rfl rfl rfl (by decide +kernel) ⟨Nat.le_of_ble_eq_true rfl, Nat.le_of_ble_eq_true rfl⟩) ⟨Wc.blind, va_recv hK hP (ci := 0) (q0 := 4) rfl rfl, fun U hU hW => ⟨rfl, Wc.go hP hK hD hN hZ hS hU hW⟩⟩ rfl rfl hl.1 rfl (lv_room (Nat.le_of_ble_eq_true rfl)) dX4_same_47 ⟨Nat.zero_le _, Nat.zero_le _⟩) hS (fun q _ h => h) (fun q h => h) (fun σ_7 t H1 locs ht hvm hwσ_7 hB hz1 hk1 hS => ?_)
  obtain ⟨hP, -, hD, -⟩ := hB
  rw [ht] at hP
  generalize H1 = H at hP hS ⊢
  have har : AR σ σ_7 0 (fun _ => litF t1 u1 false) := by rw [hwσ_7]; exact har.cut
  refine lv_aload_n hx hb dX4_same_50 rfl (lv_at hl 1 rfl) ?_
  refine va_get (D := D) (ci := 3) (v := .ref (ad 4)) (C := RX4) (T := TX4) (N := 6) hx hb hts in_X4_same_X4 hown hK hP 0 rfl rfl 4 (by decide) (hts _ lk_X4_same_33) (fun _ h9 => h9) rfl dX4_same_51 ?_
  refine lv_iload_n hx hb dX4_same_54 rfl (lv_at hl 2 rfl) ?_
  refine lv_iload_n hx hb dX4_same_55 rfl (lv_at hl 3 rfl) ?_
  refine lv_iconst (v := nI 0) hx hb dX4_same_56 (by decide) ?_
  refine vp_callSi (va_Run.run (va_runS (As := [.int (nI t1), .int (nI u1), .int (nI 0)]) (rest := [.ref (ad 4)]) ⟨hx, hb, hml, hown, hts⟩ (c_X1_of l   t1 u1 false (by omega) (by omega)) (va_cwS 3 hts gX4_same_X1_of rfl rfl rfl (by decide +kernel) ⟨Nat.le_of_ble_eq_true rfl, Nat.le_of_ble_eq_true rfl⟩) ⟨tt_blind, fun U hU hW => ⟨rfl, trivial⟩⟩ rfl rfl hl.1 rfl (lv_room (Nat.le_of_ble_eq_true rfl)) dX4_same_57 ⟨Nat.zero_le _, Nat.zero_le _⟩)) (fun r_8 hr_8 => ?_)
  refine n_to (w := nI (litF t1 u1 false)) (hr_8.trans rfl) ?_
  refine va_callv (va_runV (As := [.int (nI (litF t1 u1 false))]) (rest := []) ⟨hx, hb, hml, hown, hts⟩ (c_X0_addSingle l D cI A ad σ_7 (litF t1 u1 false) har.2.2.1 (by rw [har.2.2.2.1]; omega)) (cwV 1 hts gX4_same_X0_addSingle rfl rfl rfl (by decide +kernel) ⟨Nat.le_of_ble_eq_true rfl, Nat.le_of_ble_eq_true rfl⟩) ⟨Wc.blind, va_recv hK hP (ci := 0) (q0 := 4) rfl rfl, fun U hU hW => ⟨rfl, Wc.go hP hK hD hN hZ hS hU hW⟩⟩ rfl rfl hl.1 rfl (lv_room (Nat.le_of_ble_eq_true rfl)) dX4_same_60 ⟨Nat.zero_le _, Nat.zero_le _⟩) hS (fun q _ h => h) (fun q h => h) (fun σ_9 t H1 locs ht hvm hwσ_9 hB hz1 hk1 hS => ?_)
  obtain ⟨hP, -, hD, -⟩ := hB
  rw [ht] at hP
  generalize H1 = H at hP hS ⊢
  have har : AR σ σ_9 1 (fun _ => litF t1 u1 false) := by rw [hwσ_9]; exact har.single hI (by omega) hl0.1 rfl
  refine lv_aload_n hx hb dX4_same_63 rfl (lv_at hl 1 rfl) ?_
  refine va_calli (va_runV (As := []) (rest := []) ⟨hx, hb, hml, hown, hts⟩ (c_X4_isPossible l D cI A ad σ_9 har.2.2.1 (har.ks.wf hW0) (har.ask hM0 (fun i _ => HLW0))) (cwV 0 hts gX4_same_X4_isPossible rfl rfl rfl (by decide +kernel) ⟨Nat.le_of_ble_eq_true rfl, Nat.le_of_ble_eq_true rfl⟩) ⟨Wc.blind, va_recv hK hP (ci := 3) (q0 := 0) rfl rfl, fun U hU hW => ⟨rfl, Wc.go hP hK hD hN hZ hS hU hW⟩⟩ rfl rfl hl.1 rfl (lv_room (Nat.le_of_ble_eq_true rfl)) dX4_same_64 ⟨Nat.zero_le _, Nat.zero_le _⟩) hS (fun q _ h => h) (fun q h => h) (fun r_11 σ_10 t H1 locs ht hvm hwσ_10 hB hz1 hk1 hS => ?_)
  obtain ⟨hr_11, hwσ_10⟩ := hwσ_10
  refine n_to (w := bI (canXB σ 1 (fun _ => litF t1 u1 false))) (by rw [hr_11, har.can]) ?_
  obtain ⟨hP, -, hD, -⟩ := hB
  rw [ht] at hP
  generalize H1 = H at hP hS ⊢
  have har := har.finds hwσ_10
  refine lv_istore (lv' := [(4, .int (bI (canXB σ 1 (fun _ => litF t1 u1 false)))), (3, .int (bI (canXB σ 1 (fun _ => litF t1 u1 true)))), (0, .ref (ad 0)), (1, .int (nI t1)), (2, .int (nI u1))]) hx hb dX4_same_67 hl (by decide) rfl (fun ls hl => ?_)
  refine lv_iload_n hx hb dX4_same_69 rfl (lv_at hl 1 rfl) ?_
  refine q_if_ne hx hb (tgt := 86) (bI_z) dX4_same_70 (by decide) (fun c_70 => ?_) (fun c_70 => ?_)
  · exact absurd hcan1 c_70
  · refine lv_iload hx hb dX4_same_73 (lv_at hl 0 rfl) ?_
    refine q_if_ne hx hb (tgt := 86) (bI_z) dX4_same_75 (by decide) (fun c_75 => ?_) (fun c_75 => ?_)
    · exact absurd hcan0 c_75
    · exact vx_throw0 hx hb hlt hown (own := RX4) (cls := "java/lang/IllegalStateException") (names := ["java/lang/RuntimeException", "java/lang/Exception"]) (ik := 68) (ic := 70) (by decide +kernel) (by decide +kernel) (hts _ mm_X4_same_c68) (hts _ mm_X4_same_i68) (vx_hat (fun w h => hts w (at_X4_same_70 w h)) tw_70 (hTw.use)) tg_68 hTh.1 hTh.2 hS (by rw [hml]; exact hl.1) dX4_same_78 dX4_same_81 dX4_same_82 dX4_same_85 (fun x hx => (htab x hx).elim) (Nat.le_of_ble_eq_true rfl) (Nat.le_of_ble_eq_true rfl) (Nat.le_of_ble_eq_true rfl) (Nat.le_of_ble_eq_true rfl) hlocks (fun t hvm hz hk => ⟨σ_10, har.ks, ⟨rfl, hP.kept (fun k q h => hk q.1 (hP k q h).lt), hD⟩, ⟨Nat.le_trans hS.1 hz, fun q h1 h2 => (hk q (Nat.lt_of_lt_of_le h1 hS.1)).trans (hS.2.1 q h1 h2)⟩⟩) hS.2.2 (Nat.le_of_ble_eq_true rfl) (Nat.le_of_ble_eq_true rfl)
theorem mm_X4_claim_c68 : Cond.classLink RX4 68 "java/lang/IllegalStateException" ∈ wsX4_claim := by decide +kernel
theorem mm_X4_claim_i68 : Cond.initialized "java/lang/IllegalStateException" ∈ wsX4_claim := by decide +kernel
theorem at_X4_claim_70 : ∀ w ∈ (vx_at0 RX4 70 "java/lang/IllegalStateException" ["java/lang/RuntimeException", "java/lang/Exception"]).filter goodWord, w ∈ wsX4_claim := by decide +kernel
def rX4_claim_none : Room := { frames := 6, cells := 1, slots := 6, locals := 90 }
set_option maxHeartbeats 4000000 in
set_option maxRecDepth 100000 in
theorem x_X4_claim_none (l : Launch) (hlt : l.stackTraces = false) (D : va_G) (cI : ClassId) (A : Nat → Prop) (ad : Nat → Nat) (σ : Nat → Nat → Nat)  (hd0 : σ 0 0 = 0) : vx_Met l yX4_claim wsX4_claim rX4_claim_none (va_Pc [.ref (ad 0)] (Wx D cI A ad σ)) (va_Qi (fun _ (_ : Unit) => False) (fun _ _ => True) A) (vx_X (fun u => u = σ) (fun E u t => E = "java/lang/IllegalStateException" ∧ va_P D vwCl (WC ad cI u) t.heap ∧ va_D A (WC ad cI u)) A) 1 6 A := by
  refine vx_ofW (cc := cX4_claim) (maxL := 1) (ret := (some .int)) (by decide) rfl ?_
  intro p e s m args below meth c s₁ B hml htab hv
  obtain ⟨rfl, ⟨hP, hK, hD, hN, hZ⟩, hTh, hTw⟩ := hv
  have hx := B.exec
  have hb := B.bytes
  have hr := B.returns
  have hts := atoms_spec (ws := wsX4_claim) B.pre
  have hown : s.vm.findClass RX4 = some m.cls := findClass_of_methodNamed B.named
  have hlocks := B.notSynchronized
  have hS : va_S A s.heap s.heap [] := va_S.rf
  have hl := lv_entry ([.ref (ad 0)]) (n := 1) (Nat.le_of_ble_eq_true rfl)
  rw [lg_entry_eq]
  generalize (lg_sl ([.ref (ad 0)]) ++ List.replicate (1 - (lg_sl ([.ref (ad 0)])).length) Slot.unset).toArray = ls at hl ⊢
  have hl : lv_has ls 1 [(0, .ref (ad 0))] := hl
  refine lv_aload_n hx hb dX4_claim_0 rfl (lv_at hl 0 rfl) ?_
  refine va_get (D := D) (ci := 3) (v := .int (nI (σ 0 0))) (C := RX4) (T := TX4) (N := 6) hx hb hts in_X4_claim_X4 hown hK hP 0 rfl rfl 3 (by decide) (hts _ lk_X4_claim_29) (fun _ h9 => h9) rfl dX4_claim_1 ?_
  refine q_if_ne hx hb (tgt := 15) (nI_z (by omega)) dX4_claim_4 (by decide) (fun c_4 => ?_) (fun c_4 => ?_)
  · exact absurd hd0 c_4
  · exact vx_throw0 hx hb hlt hown (own := RX4) (cls := "java/lang/IllegalStateException") (names := ["java/lang/RuntimeException", "java/lang/Exception"]) (ik := 68) (ic := 70) (by decide +kernel) (by decide +kernel) (hts _ mm_X4_claim_c68) (hts _ mm_X4_claim_i68) (vx_hat (fun w h => hts w (at_X4_claim_70 w h)) tw_70 (hTw.use)) tg_68 hTh.1 hTh.2 hS (by rw [hml]; exact hl.1) dX4_claim_7 dX4_claim_10 dX4_claim_11 dX4_claim_14 (fun x hx => (htab x hx).elim) (Nat.le_of_ble_eq_true rfl) (Nat.le_of_ble_eq_true rfl) (Nat.le_of_ble_eq_true rfl) (Nat.le_of_ble_eq_true rfl) hlocks (fun t hvm hz hk => ⟨σ, rfl, ⟨rfl, hP.kept (fun k q h => hk q.1 (hP k q h).lt), hD⟩, ⟨Nat.le_trans hS.1 hz, fun q h1 h2 => (hk q (Nat.lt_of_lt_of_le h1 hS.1)).trans (hS.2.1 q h1 h2)⟩⟩) hS.2.2 (Nat.le_of_ble_eq_true rfl) (Nat.le_of_ble_eq_true rfl)
theorem mm_X4_claim_c78 : Cond.classLink RX4 78 "java/lang/UnsupportedOperationException" ∈ wsX4_claim := by decide +kernel
theorem mm_X4_claim_i78 : Cond.initialized "java/lang/UnsupportedOperationException" ∈ wsX4_claim := by decide +kernel
theorem at_X4_claim_80 : ∀ w ∈ (vx_at0 RX4 80 "java/lang/UnsupportedOperationException" ["java/lang/RuntimeException", "java/lang/Exception"]).filter goodWord, w ∈ wsX4_claim := by decide +kernel
def rX4_claim_full : Room := { frames := 6, cells := 1, slots := 6, locals := 90 }
set_option maxHeartbeats 4000000 in
set_option maxRecDepth 100000 in
theorem x_X4_claim_full (l : Launch) (hlt : l.stackTraces = false) (D : va_G) (cI : ClassId) (A : Nat → Prop) (ad : Nat → Nat) (σ : Nat → Nat → Nat)  (hI : IC σ) (hd0 : σ 0 0 ≠ 0) (hc8 : σ 0 2 = 8) : vx_Met l yX4_claim wsX4_claim rX4_claim_full (va_Pc [.ref (ad 0)] (Wx D cI A ad σ)) (va_Qi (fun _ (_ : Unit) => False) (fun _ _ => True) A) (vx_X (fun u => u = σ) (fun E u t => E = "java/lang/UnsupportedOperationException" ∧ va_P D vwCl (WC ad cI u) t.heap ∧ va_D A (WC ad cI u)) A) 1 6 A := by
  refine vx_ofW (cc := cX4_claim) (maxL := 1) (ret := (some .int)) (by decide) rfl ?_
  intro p e s m args below meth c s₁ B hml htab hv
  obtain ⟨rfl, ⟨hP, hK, hD, hN, hZ⟩, hTh, hTw⟩ := hv
  have hx := B.exec
  have hb := B.bytes
  have hr := B.returns
  have hts := atoms_spec (ws := wsX4_claim) B.pre
  have hown : s.vm.findClass RX4 = some m.cls := findClass_of_methodNamed B.named
  have hlocks := B.notSynchronized
  have hS : va_S A s.heap s.heap [] := va_S.rf
  have hl := lv_entry ([.ref (ad 0)]) (n := 1) (Nat.le_of_ble_eq_true rfl)
  rw [lg_entry_eq]
  generalize (lg_sl ([.ref (ad 0)]) ++ List.replicate (1 - (lg_sl ([.ref (ad 0)])).length) Slot.unset).toArray = ls at hl ⊢
  have hl : lv_has ls 1 [(0, .ref (ad 0))] := hl
  have hdr := hI.draft
  refine lv_aload_n hx hb dX4_claim_0 rfl (lv_at hl 0 rfl) ?_
  refine va_get (D := D) (ci := 3) (v := .int (nI (σ 0 0))) (C := RX4) (T := TX4) (N := 6) hx hb hts in_X4_claim_X4 hown hK hP 0 rfl rfl 3 (by decide) (hts _ lk_X4_claim_29) (fun _ h9 => h9) rfl dX4_claim_1 ?_
  refine q_if_ne hx hb (tgt := 15) (nI_z (by omega)) dX4_claim_4 (by decide) (fun c_4 => ?_) (fun c_4 => ?_)
  · refine lv_aload_n hx hb dX4_claim_15 rfl (lv_at hl 0 rfl) ?_
    refine va_get (D := D) (ci := 3) (v := .ref (ad 2)) (C := RX4) (T := TX4) (N := 6) hx hb hts in_X4_claim_X4 hown hK hP 0 rfl rfl 1 (by decide) (hts _ lk_X4_claim_21) (fun _ h9 => h9) rfl dX4_claim_16 ?_
    refine va_getN (D := D) (ci := 0) (v := .int (nI (σ 0 2))) (C := RX0) (T := TX0) (N := 3) hx hb hts in_X4_claim_X0 hown hK hP 2 rfl rfl 2 (by decide) (hN.use 7 rfl) (fun _ h9 => h9) rfl dX4_claim_19 ?_
    refine lv_bipush (v := nI 8) hx hb dX4_claim_22 (by decide) ?_
    refine n_icmp_lt hx hb (tgt := 35) (by omega) (by omega) dX4_claim_24 (by decide) (fun c_24 => ?_) (fun c_24 => ?_)
    · omega
    · exact vx_throw0 hx hb hlt hown (own := RX4) (cls := "java/lang/UnsupportedOperationException") (names := ["java/lang/RuntimeException", "java/lang/Exception"]) (ik := 78) (ic := 80) (by decide +kernel) (by decide +kernel) (hts _ mm_X4_claim_c78) (hts _ mm_X4_claim_i78) (vx_hat (fun w h => hts w (at_X4_claim_80 w h)) tw_80 (hTw.use)) tg_78 hTh.1 hTh.2 hS (by rw [hml]; exact hl.1) dX4_claim_27 dX4_claim_30 dX4_claim_31 dX4_claim_34 (fun x hx => (htab x hx).elim) (Nat.le_of_ble_eq_true rfl) (Nat.le_of_ble_eq_true rfl) (Nat.le_of_ble_eq_true rfl) (Nat.le_of_ble_eq_true rfl) hlocks (fun t hvm hz hk => ⟨σ, rfl, ⟨rfl, hP.kept (fun k q h => hk q.1 (hP k q h).lt), hD⟩, ⟨Nat.le_trans hS.1 hz, fun q h1 h2 => (hk q (Nat.lt_of_lt_of_le h1 hS.1)).trans (hS.2.1 q h1 h2)⟩⟩) hS.2.2 (Nat.le_of_ble_eq_true rfl) (Nat.le_of_ble_eq_true rfl)
  · exact absurd c_4 hd0
theorem mm_X4_without_c47 : Cond.classLink RX4 47 "java/lang/IndexOutOfBoundsException" ∈ wsX4_without := by decide +kernel
theorem mm_X4_without_i47 : Cond.initialized "java/lang/IndexOutOfBoundsException" ∈ wsX4_without := by decide +kernel
theorem at_X4_without_49 : ∀ w ∈ (vx_at0 RX4 49 "java/lang/IndexOutOfBoundsException" ["java/lang/RuntimeException", "java/lang/Exception"]).filter goodWord, w ∈ wsX4_without := by decide +kernel
def rX4_without_out : Room := { frames := 6, cells := 1, slots := 6, locals := 90 }
set_option maxHeartbeats 4000000 in
set_option maxRecDepth 100000 in
theorem x_X4_without_out (l : Launch) (hlt : l.stackTraces = false) (D : va_G) (cI : ClassId) (A : Nat → Prop) (ad : Nat → Nat) (σ : Nat → Nat → Nat) (x : Int32) (hxo : x < 0 ∨ ¬ x < nI (σ 0 2)) : vx_Met l yX4_without wsX4_without rX4_without_out (va_Pc [.ref (ad 0), .int x] (Wx D cI A ad σ)) (va_Qi (fun _ (_ : Unit) => False) (fun _ _ => True) A) (vx_X (fun u => u = σ) (fun E u t => E = "java/lang/IndexOutOfBoundsException" ∧ va_P D vwCl (WC ad cI u) t.heap ∧ va_D A (WC ad cI u)) A) 1 6 A := by
  refine vx_ofW (cc := cX4_without) (maxL := 2) (ret := (some .boolean)) (by decide) rfl ?_
  intro p e s m args below meth c s₁ B hml htab hv
  obtain ⟨rfl, ⟨hP, hK, hD, hN, hZ⟩, hTh, hTw⟩ := hv
  have hx := B.exec
  have hb := B.bytes
  have hr := B.returns
  have hts := atoms_spec (ws := wsX4_without) B.pre
  have hown : s.vm.findClass RX4 = some m.cls := findClass_of_methodNamed B.named
  have hlocks := B.notSynchronized
  have hS : va_S A s.heap s.heap [] := va_S.rf
  have hl := lv_entry ([.ref (ad 0), .int x]) (n := 2) (Nat.le_of_ble_eq_true rfl)
  rw [lg_entry_eq]
  generalize (lg_sl ([.ref (ad 0), .int x]) ++ List.replicate (2 - (lg_sl ([.ref (ad 0), .int x])).length) Slot.unset).toArray = ls at hl ⊢
  have hl : lv_has ls 2 [(0, .ref (ad 0)), (1, .int x)] := hl
  refine lv_iload_n hx hb dX4_without_0 rfl (lv_at hl 1 rfl) ?_
  refine lv_if_lt hx hb (tgt := 15) dX4_without_1 (by decide) (fun c_1 => ?_) (fun c_1 => ?_)
  · exact vx_throw0 hx hb hlt hown (own := RX4) (cls := "java/lang/IndexOutOfBoundsException") (names := ["java/lang/RuntimeException", "java/lang/Exception"]) (ik := 47) (ic := 49) (by decide +kernel) (by decide +kernel) (hts _ mm_X4_without_c47) (hts _ mm_X4_without_i47) (vx_hat (fun w h => hts w (at_X4_without_49 w h)) tw_49 (hTw.use)) tg_47 hTh.1 hTh.2 hS (by rw [hml]; exact hl.1) dX4_without_15 dX4_without_18 dX4_without_19 dX4_without_22 (fun x hx => (htab x hx).elim) (Nat.le_of_ble_eq_true rfl) (Nat.le_of_ble_eq_true rfl) (Nat.le_of_ble_eq_true rfl) (Nat.le_of_ble_eq_true rfl) hlocks (fun t hvm hz hk => ⟨σ, rfl, ⟨rfl, hP.kept (fun k q h => hk q.1 (hP k q h).lt), hD⟩, ⟨Nat.le_trans hS.1 hz, fun q h1 h2 => (hk q (Nat.lt_of_lt_of_le h1 hS.1)).trans (hS.2.1 q h1 h2)⟩⟩) hS.2.2 (Nat.le_of_ble_eq_true rfl) (Nat.le_of_ble_eq_true rfl)
  · refine lv_iload_n hx hb dX4_without_4 rfl (lv_at hl 1 rfl) ?_
    refine lv_aload_n hx hb dX4_without_5 rfl (lv_at hl 0 rfl) ?_
    refine va_get (D := D) (ci := 3) (v := .ref (ad 2)) (C := RX4) (T := TX4) (N := 6) hx hb hts in_X4_without_X4 hown hK hP 0 rfl rfl 1 (by decide) (hts _ lk_X4_without_21) (fun _ h9 => h9) rfl dX4_without_6 ?_
    refine va_getN (D := D) (ci := 0) (v := .int (nI (σ 0 2))) (C := RX0) (T := TX0) (N := 3) hx hb hts in_X4_without_X0 hown hK hP 2 rfl rfl 2 (by decide) (hN.use 7 rfl) (fun _ h9 => h9) rfl dX4_without_9 ?_
    refine lv_icmp_lt hx hb (tgt := 23) dX4_without_12 (by decide) (fun c_12 => ?_) (fun c_12 => ?_)
    · exact absurd hxo (fun q => q.elim c_1 (fun z => z c_12))
    · exact vx_throw0 hx hb hlt hown (own := RX4) (cls := "java/lang/IndexOutOfBoundsException") (names := ["java/lang/RuntimeException", "java/lang/Exception"]) (ik := 47) (ic := 49) (by decide +kernel) (by decide +kernel) (hts _ mm_X4_without_c47) (hts _ mm_X4_without_i47) (vx_hat (fun w h => hts w (at_X4_without_49 w h)) tw_49 (hTw.use)) tg_47 hTh.1 hTh.2 hS (by rw [hml]; exact hl.1) dX4_without_15 dX4_without_18 dX4_without_19 dX4_without_22 (fun x hx => (htab x hx).elim) (Nat.le_of_ble_eq_true rfl) (Nat.le_of_ble_eq_true rfl) (Nat.le_of_ble_eq_true rfl) (Nat.le_of_ble_eq_true rfl) hlocks (fun t hvm hz hk => ⟨σ, rfl, ⟨rfl, hP.kept (fun k q h => hk q.1 (hP k q h).lt), hD⟩, ⟨Nat.le_trans hS.1 hz, fun q h1 h2 => (hk q (Nat.lt_of_lt_of_le h1 hS.1)).trans (hS.2.1 q h1 h2)⟩⟩) hS.2.2 (Nat.le_of_ble_eq_true rfl) (Nat.le_of_ble_eq_true rfl)
theorem mm_X4_follows_c68 : Cond.classLink RX4 68 "java/lang/IllegalStateException" ∈ wsX4_follows := by decide +kernel
theorem mm_X4_follows_i68 : Cond.initialized "java/lang/IllegalStateException" ∈ wsX4_follows := by decide +kernel
theorem at_X4_follows_70 : ∀ w ∈ (vx_at0 RX4 70 "java/lang/IllegalStateException" ["java/lang/RuntimeException", "java/lang/Exception"]).filter goodWord, w ∈ wsX4_follows := by decide +kernel
def rX4_follows_none : Room := { frames := 6, cells := 1, slots := 6, locals := 90 }
set_option maxHeartbeats 4000000 in
set_option maxRecDepth 100000 in
theorem x_X4_follows_none (l : Launch) (hlt : l.stackTraces = false) (D : va_G) (cI : ClassId) (A : Nat → Prop) (ad : Nat → Nat) (σ : Nat → Nat → Nat)  (hI : IC σ) (hd0 : σ 0 0 = 0) : vx_Met l yX4_follows wsX4_follows rX4_follows_none (va_Pc [.ref (ad 0)] (Wx D cI A ad σ)) (va_Qi (fun _ (_ : Unit) => False) (fun _ _ => True) A) (vx_X (fun u => KS σ u) (fun E u t => E = "java/lang/IllegalStateException" ∧ va_P D vwCl (WC ad cI u) t.heap ∧ va_D A (WC ad cI u)) A) 1 6 A := by
  refine vx_ofW (cc := cX4_follows) (maxL := 2) (ret := (some .boolean)) (by decide) rfl ?_
  intro p e s m args below meth c s₁ B hml htab hv
  obtain ⟨rfl, ⟨hP, hK, hD, hN, hZ⟩, hTh, hTw⟩ := hv
  have hx := B.exec
  have hb := B.bytes
  have hr := B.returns
  have hts := atoms_spec (ws := wsX4_follows) B.pre
  have hown : s.vm.findClass RX4 = some m.cls := findClass_of_methodNamed B.named
  have hlocks := B.notSynchronized
  have hS : va_S A s.heap s.heap [] := va_S.rf
  have hl := lv_entry ([.ref (ad 0)]) (n := 2) (Nat.le_of_ble_eq_true rfl)
  rw [lg_entry_eq]
  generalize (lg_sl ([.ref (ad 0)]) ++ List.replicate (2 - (lg_sl ([.ref (ad 0)])).length) Slot.unset).toArray = ls at hl ⊢
  have hl : lv_has ls 2 [(0, .ref (ad 0))] := hl
  refine lv_aload_n hx hb dX4_follows_0 rfl (lv_at hl 0 rfl) ?_
  refine va_get (D := D) (ci := 3) (v := .int (nI (σ 0 0))) (C := RX4) (T := TX4) (N := 6) hx hb hts in_X4_follows_X4 hown hK hP 0 rfl rfl 3 (by decide) (hts _ lk_X4_follows_29) (fun _ h9 => h9) rfl dX4_follows_1 ?_
  refine q_if_ne hx hb (tgt := 15) (nI_z (by omega)) dX4_follows_4 (by decide) (fun c_4 => ?_) (fun c_4 => ?_)
  · exact absurd hd0 c_4
  · exact vx_throw0 hx hb hlt hown (own := RX4) (cls := "java/lang/IllegalStateException") (names := ["java/lang/RuntimeException", "java/lang/Exception"]) (ik := 68) (ic := 70) (by decide +kernel) (by decide +kernel) (hts _ mm_X4_follows_c68) (hts _ mm_X4_follows_i68) (vx_hat (fun w h => hts w (at_X4_follows_70 w h)) tw_70 (hTw.use)) tg_68 hTh.1 hTh.2 hS (by rw [hml]; exact hl.1) dX4_follows_7 dX4_follows_10 dX4_follows_11 dX4_follows_14 (fun x hx => (htab x hx).elim) (Nat.le_of_ble_eq_true rfl) (Nat.le_of_ble_eq_true rfl) (Nat.le_of_ble_eq_true rfl) (Nat.le_of_ble_eq_true rfl) hlocks (fun t hvm hz hk => ⟨σ, KS.rf hI, ⟨rfl, hP.kept (fun k q h => hk q.1 (hP k q h).lt), hD⟩, ⟨Nat.le_trans hS.1 hz, fun q h1 h2 => (hk q (Nat.lt_of_lt_of_le h1 hS.1)).trans (hS.2.1 q h1 h2)⟩⟩) hS.2.2 (Nat.le_of_ble_eq_true rfl) (Nat.le_of_ble_eq_true rfl)
theorem mm_X4_apart_c68 : Cond.classLink RX4 68 "java/lang/IllegalStateException" ∈ wsX4_apart := by decide +kernel
theorem mm_X4_apart_i68 : Cond.initialized "java/lang/IllegalStateException" ∈ wsX4_apart := by decide +kernel
theorem at_X4_apart_70 : ∀ w ∈ (vx_at0 RX4 70 "java/lang/IllegalStateException" ["java/lang/RuntimeException", "java/lang/Exception"]).filter goodWord, w ∈ wsX4_apart := by decide +kernel
def rX4_apart_f_no : Room := { frames := 15, cells := 1, slots := 6, locals := 484 }
set_option maxHeartbeats 4000000 in
set_option maxRecDepth 100000 in
theorem x_X4_apart_f_no (l : Launch) (hlt : l.stackTraces = false) (D : va_G) (cI : ClassId) (A : Nat → Prop) (ad : Nat → Nat) (σ : Nat → Nat → Nat)  (hI : IC σ) (hW0 : WF σ) (hM0 : MadeW σ) (hcan : ¬ ∃ w, w < 5 ∧ SatM σ w (σ 0 2) 0) : vx_Met l yX4_apart wsX4_apart rX4_apart_f_no (va_Pc [.ref (ad 0), .int (nI 1)] (Wx D cI A ad σ)) (va_Qi (fun _ (_ : Unit) => False) (fun _ _ => True) A) (vx_X (fun u => KS σ u) (fun E u t => E = "java/lang/IllegalStateException" ∧ va_P D vwCl (WC ad cI u) t.heap ∧ va_D A (WC ad cI u)) A) 1 6 A := by
  refine vx_ofW (cc := cX4_apart) (maxL := 4) (ret := (some .int)) (by decide) rfl ?_
  intro p e s m args below meth c s₁ B hml htab hv
  obtain ⟨rfl, ⟨hP, hK, hD, hN, hZ⟩, hTh, hTw⟩ := hv
  have hx := B.exec
  have hb := B.bytes
  have hr := B.returns
  have hts := atoms_spec (ws := wsX4_apart) B.pre
  have hown : s.vm.findClass RX4 = some m.cls := findClass_of_methodNamed B.named
  have hlocks := B.notSynchronized
  have hS : va_S A s.heap s.heap [] := va_S.rf
  have hl := lv_entry ([.ref (ad 0), .int (nI 1)]) (n := 4) (Nat.le_of_ble_eq_true rfl)
  rw [lg_entry_eq]
  generalize (lg_sl ([.ref (ad 0), .int (nI 1)]) ++ List.replicate (4 - (lg_sl ([.ref (ad 0), .int (nI 1)])).length) Slot.unset).toArray = ls at hl ⊢
  have hl : lv_has ls 4 [(0, .ref (ad 0)), (1, .int (nI 1))] := hl
  have hcm := hI.claims
  refine lv_aload_n hx hb dX4_apart_0 rfl (lv_at hl 0 rfl) ?_
  refine lv_aload_n hx hb dX4_apart_1 rfl (lv_at hl 0 rfl) ?_
  refine va_get (D := D) (ci := 3) (v := .ref (ad 2)) (C := RX4) (T := TX4) (N := 6) hx hb hts in_X4_apart_X4 hown hK hP 0 rfl rfl 1 (by decide) (hts _ lk_X4_apart_21) (fun _ h9 => h9) rfl dX4_apart_2 ?_
  refine va_getN (D := D) (ci := 0) (v := .int (nI (σ 0 2))) (C := RX0) (T := TX0) (N := 3) hx hb hts in_X4_apart_X0 hown hK hP 2 rfl rfl 2 (by decide) (hN.use 7 rfl) (fun _ h9 => h9) rfl dX4_apart_5 ?_
  refine lv_iconst (v := mI 0) hx hb dX4_apart_8 (by decide) ?_
  refine va_callv (va_runV (As := [.int (nI (σ 0 2)), .int (mI 0)]) (rest := []) ⟨hx, hb, hml, hown, hts⟩ (c_X4_askClaims l D cI A ad σ (σ 0 2) 0 hI (Nat.le_refl _) (by omega)) (cwV 2 hts gX4_apart_X4_askClaims rfl rfl rfl (by decide +kernel) ⟨Nat.le_of_ble_eq_true rfl, Nat.le_of_ble_eq_true rfl⟩) ⟨Wc.blind, va_recv hK hP (ci := 3) (q0 := 0) rfl rfl, fun U hU hW => ⟨rfl, Wc.go hP hK hD hN hZ hS hU hW⟩⟩ rfl rfl hl.1 rfl (lv_room (Nat.le_of_ble_eq_true rfl)) dX4_apart_9 ⟨Nat.zero_le _, Nat.zero_le _⟩) hS (fun q _ h => h) (fun q h => h) (fun σ_1 t H1 locs ht hvm hwσ_1 hB hz1 hk1 hS => ?_)
  obtain ⟨hP, -, hD, -⟩ := hB
  rw [ht] at hP
  generalize H1 = H at hP hS ⊢
  have hks := KS.ofAQ hI (by omega) hwσ_1
  have hIs := hks.2.2
  have hAs := AQ.ask hI (Nat.le_refl _) hM0 hwσ_1
  have hsat := fun w => AQ.sat hI (by omega) hwσ_1 w
  refine lv_iconst (v := nI 0) hx hb dX4_apart_12 (by decide) ?_
  refine lv_istore_n (lv' := [(2, .int (nI 0)), (0, .ref (ad 0)), (1, .int (nI 1))]) hx hb dX4_apart_13 rfl hl (by decide) rfl (fun ls hl => ?_)
  have lp14 : ∀ (n : Nat) (k : Nat) (σ_2 : Nat → Nat → Nat) (H : Heap) (locs : List Loc) (ls : Array Slot), (k + n = 3) → (IC σ_2) → (AskW σ_2) → (∀ w, SatA σ_2 w ↔ SatM σ w (σ 0 2) 0) → (KS σ σ_2) → va_P D vwCl (WC ad cI σ_2) H → va_D A (WC ad cI σ_2) → va_S A s.heap H locs → lv_has ls 4 [(2, .int (nI k)), (0, .ref (ad 0)), (1, .int (nI 1))] → W p l e rX4_apart_f_no s m (([.ref (ad 0), .int (nI 1)] : List Value).toArray) below meth c H locs 0 0 (vx_MQ below (va_Qi (fun _ (_ : Unit) => False) (fun _ _ => True) A) (vx_X (fun u => KS σ u) (fun E u t => E = "java/lang/IllegalStateException" ∧ va_P D vwCl (WC ad cI u) t.heap ∧ va_D A (WC ad cI u)) A) (([.ref (ad 0), .int (nI 1)] : List Value).toArray) s 1 6 A) (F0 m 14 ls []) := by
    intro n
    induction n with
    | zero =>
      intro k σ_2 H locs ls hF1 hIs hAs hsat hks hP hD hS hl
      refine lv_iload_n hx hb dX4_apart_14 rfl (lv_at hl 0 rfl) ?_
      refine lv_iconst (v := nI 3) hx hb dX4_apart_15 (by decide) ?_
      refine n_icmp_ge hx hb (tgt := 61) (by omega) (by omega) dX4_apart_16 (by decide) (fun c_16 => ?_) (fun c_16 => ?_)
      · exact vx_throw0 hx hb hlt hown (own := RX4) (cls := "java/lang/IllegalStateException") (names := ["java/lang/RuntimeException", "java/lang/Exception"]) (ik := 68) (ic := 70) (by decide +kernel) (by decide +kernel) (hts _ mm_X4_apart_c68) (hts _ mm_X4_apart_i68) (vx_hat (fun w h => hts w (at_X4_apart_70 w h)) tw_70 (hTw.use)) tg_68 hTh.1 hTh.2 hS (by rw [hml]; exact hl.1) dX4_apart_61 dX4_apart_64 dX4_apart_65 dX4_apart_68 (fun x hx => (htab x hx).elim) (Nat.le_of_ble_eq_true rfl) (Nat.le_of_ble_eq_true rfl) (Nat.le_of_ble_eq_true rfl) (Nat.le_of_ble_eq_true rfl) hlocks (fun t hvm hz hk => ⟨σ_2, hks, ⟨rfl, hP.kept (fun k q h => hk q.1 (hP k q h).lt), hD⟩, ⟨Nat.le_trans hS.1 hz, fun q h1 h2 => (hk q (Nat.lt_of_lt_of_le h1 hS.1)).trans (hS.2.1 q h1 h2)⟩⟩) hS.2.2 (Nat.le_of_ble_eq_true rfl) (Nat.le_of_ble_eq_true rfl)
      · omega
    | succ n ih14 =>
      intro k σ_2 H locs ls hF1 hIs hAs hsat hks hP hD hS hl
      have hfdd : fdB σ_2 (1 + k) (1 + k) = true ↔ (∃ w, w < 5 ∧ difF w = (1 + k) ∧ SatM σ w (σ 0 2) 0) := fdd hsat
      refine lv_iload_n hx hb dX4_apart_14 rfl (lv_at hl 0 rfl) ?_
      refine lv_iconst (v := nI 3) hx hb dX4_apart_15 (by decide) ?_
      refine n_icmp_ge hx hb (tgt := 61) (by omega) (by omega) dX4_apart_16 (by decide) (fun c_16 => ?_) (fun c_16 => ?_)
      · omega
      · refine lv_iload_n hx hb dX4_apart_19 rfl (lv_at hl 2 rfl) ?_
        refine q_if_eq hx hb (tgt := 29) (nI_z (by omega)) dX4_apart_20 (by decide) (fun c_20 => ?_) (fun c_20 => ?_)
        · exact absurd c_20 (by decide)
        · refine lv_iconst (v := nI 1) hx hb dX4_apart_23 (by decide) ?_
          refine lv_iload_n hx hb dX4_apart_24 rfl (lv_at hl 0 rfl) ?_
          refine n_add hx hb dX4_apart_25 ?_
          refine lv_goto (tgt := 32) hx hb dX4_apart_26 (by decide) ?_
          refine lv_istore_n (lv' := [(3, .int (nI (1 + k))), (2, .int (nI k)), (0, .ref (ad 0)), (1, .int (nI 1))]) hx hb dX4_apart_32 rfl hl (by decide) rfl (fun ls hl => ?_)
          refine lv_aload_n hx hb dX4_apart_33 rfl (lv_at hl 2 rfl) ?_
          refine va_get (D := D) (ci := 3) (v := .ref (ad 5)) (C := RX4) (T := TX4) (N := 6) hx hb hts in_X4_apart_X4 hown hK hP 0 rfl rfl 5 (by decide) (hts _ lk_X4_apart_39) (fun _ h9 => h9) rfl dX4_apart_34 ?_
          refine lv_aload_n hx hb dX4_apart_37 rfl (lv_at hl 2 rfl) ?_
          refine va_get (D := D) (ci := 3) (v := .ref (ad 1)) (C := RX4) (T := TX4) (N := 6) hx hb hts in_X4_apart_X4 hown hK hP 0 rfl rfl 0 (by decide) (hts _ lk_X4_apart_12) (fun _ h9 => h9) rfl dX4_apart_38 ?_
          refine lv_aload_n hx hb dX4_apart_41 rfl (lv_at hl 2 rfl) ?_
          refine va_get (D := D) (ci := 3) (v := .ref (ad 4)) (C := RX4) (T := TX4) (N := 6) hx hb hts in_X4_apart_X4 hown hK hP 0 rfl rfl 4 (by decide) (hts _ lk_X4_apart_33) (fun _ h9 => h9) rfl dX4_apart_42 ?_
          refine lv_iload_n hx hb dX4_apart_45 rfl (lv_at hl 0 rfl) ?_
          refine lv_iload_n hx hb dX4_apart_46 rfl (lv_at hl 0 rfl) ?_
          refine va_calli (va_runV (As := [.ref (ad 1), .ref (ad 4), .int (nI (1 + k)), .int (nI (1 + k))]) (rest := []) ⟨hx, hb, hml, hown, hts⟩ (c_X2_finds l D cI A ad σ_2 (1 + k) (1 + k) hIs (hks.wf hW0) hAs (by omega) (by omega)) (cwV 4 hts gX4_apart_X2_finds rfl rfl rfl (by decide +kernel) ⟨Nat.le_of_ble_eq_true rfl, Nat.le_of_ble_eq_true rfl⟩) ⟨Wc.blind, va_recv hK hP (ci := 1) (q0 := 5) rfl rfl, fun U hU hW => ⟨rfl, Wc.go hP hK hD hN hZ hS hU hW⟩⟩ rfl rfl hl.1 rfl (lv_room (Nat.le_of_ble_eq_true rfl)) dX4_apart_47 ⟨Nat.zero_le _, Nat.zero_le _⟩) hS (fun q _ h => h) (fun q h => h) (fun r_4 σ_3 t H1 locs ht hvm hwσ_3 hB hz1 hk1 hS => ?_)
          obtain ⟨hr_4, hwσ_3⟩ := hwσ_3
          refine n_to (w := bI (fdB σ_2 (1 + k) (1 + k))) (hr_4) ?_
          obtain ⟨hP, -, hD, -⟩ := hB
          rw [ht] at hP
          generalize H1 = H at hP hS ⊢
          have hks2 := hks.tr (KS.ofFinds hIs hwσ_3)
          have hIs2 := hks2.2.2
          have hAs2 := AskW_of hwσ_3.1 hAs
          have hsat2 := fun w => (SatA_of hwσ_3.1 w).trans (hsat w)
          refine q_if_eq hx hb (tgt := 55) (bI_z) dX4_apart_50 (by decide) (fun c_50 => ?_) (fun c_50 => ?_)
          · refine lv_iinc (v := nI (k + 1)) (lv' := [(2, .int (nI (k + 1))), (3, .int (nI (1 + k))), (0, .ref (ad 0)), (1, .int (nI 1))]) hx hb dX4_apart_55 hl (k := 1) rfl (nI_add _ _) (by decide) rfl (fun ls hl => ?_)
            refine lv_goto (tgt := 14) hx hb dX4_apart_58 (by decide) ?_
            exact ih14 (k + 1)  _ _ _ _  (by omega) (hIs2) (hAs2) (hsat2) (hks2) hP hD hS (lv_sub hl [0, 2, 3] rfl)
          · exact absurd (hfdd.mp (ts_nf c_50)) (fun ⟨w, q1, _, q2⟩ => hcan ⟨w, q1, q2⟩)
  exact lp14 3 0  _ _ _ _ (by omega) (hIs) (hAs) (hsat) (hks) hP hD hS (lv_sub hl [0, 1, 2] rfl)
def rX4_apart_m_no : Room := { frames := 15, cells := 1, slots := 6, locals := 484 }
set_option maxHeartbeats 4000000 in
set_option maxRecDepth 100000 in
theorem x_X4_apart_m_no (l : Launch) (hlt : l.stackTraces = false) (D : va_G) (cI : ClassId) (A : Nat → Prop) (ad : Nat → Nat) (σ : Nat → Nat → Nat)  (hI : IC σ) (hW0 : WF σ) (hM0 : MadeW σ) (hcan : ¬ ∃ w, w < 5 ∧ SatM σ w (σ 0 2) 0) : vx_Met l yX4_apart wsX4_apart rX4_apart_m_no (va_Pc [.ref (ad 0), .int (nI 0)] (Wx D cI A ad σ)) (va_Qi (fun _ (_ : Unit) => False) (fun _ _ => True) A) (vx_X (fun u => KS σ u) (fun E u t => E = "java/lang/IllegalStateException" ∧ va_P D vwCl (WC ad cI u) t.heap ∧ va_D A (WC ad cI u)) A) 1 6 A := by
  refine vx_ofW (cc := cX4_apart) (maxL := 4) (ret := (some .int)) (by decide) rfl ?_
  intro p e s m args below meth c s₁ B hml htab hv
  obtain ⟨rfl, ⟨hP, hK, hD, hN, hZ⟩, hTh, hTw⟩ := hv
  have hx := B.exec
  have hb := B.bytes
  have hr := B.returns
  have hts := atoms_spec (ws := wsX4_apart) B.pre
  have hown : s.vm.findClass RX4 = some m.cls := findClass_of_methodNamed B.named
  have hlocks := B.notSynchronized
  have hS : va_S A s.heap s.heap [] := va_S.rf
  have hl := lv_entry ([.ref (ad 0), .int (nI 0)]) (n := 4) (Nat.le_of_ble_eq_true rfl)
  rw [lg_entry_eq]
  generalize (lg_sl ([.ref (ad 0), .int (nI 0)]) ++ List.replicate (4 - (lg_sl ([.ref (ad 0), .int (nI 0)])).length) Slot.unset).toArray = ls at hl ⊢
  have hl : lv_has ls 4 [(0, .ref (ad 0)), (1, .int (nI 0))] := hl
  have hcm := hI.claims
  refine lv_aload_n hx hb dX4_apart_0 rfl (lv_at hl 0 rfl) ?_
  refine lv_aload_n hx hb dX4_apart_1 rfl (lv_at hl 0 rfl) ?_
  refine va_get (D := D) (ci := 3) (v := .ref (ad 2)) (C := RX4) (T := TX4) (N := 6) hx hb hts in_X4_apart_X4 hown hK hP 0 rfl rfl 1 (by decide) (hts _ lk_X4_apart_21) (fun _ h9 => h9) rfl dX4_apart_2 ?_
  refine va_getN (D := D) (ci := 0) (v := .int (nI (σ 0 2))) (C := RX0) (T := TX0) (N := 3) hx hb hts in_X4_apart_X0 hown hK hP 2 rfl rfl 2 (by decide) (hN.use 7 rfl) (fun _ h9 => h9) rfl dX4_apart_5 ?_
  refine lv_iconst (v := mI 0) hx hb dX4_apart_8 (by decide) ?_
  refine va_callv (va_runV (As := [.int (nI (σ 0 2)), .int (mI 0)]) (rest := []) ⟨hx, hb, hml, hown, hts⟩ (c_X4_askClaims l D cI A ad σ (σ 0 2) 0 hI (Nat.le_refl _) (by omega)) (cwV 2 hts gX4_apart_X4_askClaims rfl rfl rfl (by decide +kernel) ⟨Nat.le_of_ble_eq_true rfl, Nat.le_of_ble_eq_true rfl⟩) ⟨Wc.blind, va_recv hK hP (ci := 3) (q0 := 0) rfl rfl, fun U hU hW => ⟨rfl, Wc.go hP hK hD hN hZ hS hU hW⟩⟩ rfl rfl hl.1 rfl (lv_room (Nat.le_of_ble_eq_true rfl)) dX4_apart_9 ⟨Nat.zero_le _, Nat.zero_le _⟩) hS (fun q _ h => h) (fun q h => h) (fun σ_1 t H1 locs ht hvm hwσ_1 hB hz1 hk1 hS => ?_)
  obtain ⟨hP, -, hD, -⟩ := hB
  rw [ht] at hP
  generalize H1 = H at hP hS ⊢
  have hks := KS.ofAQ hI (by omega) hwσ_1
  have hIs := hks.2.2
  have hAs := AQ.ask hI (Nat.le_refl _) hM0 hwσ_1
  have hsat := fun w => AQ.sat hI (by omega) hwσ_1 w
  refine lv_iconst (v := nI 0) hx hb dX4_apart_12 (by decide) ?_
  refine lv_istore_n (lv' := [(2, .int (nI 0)), (0, .ref (ad 0)), (1, .int (nI 0))]) hx hb dX4_apart_13 rfl hl (by decide) rfl (fun ls hl => ?_)
  have lp14 : ∀ (n : Nat) (k : Nat) (σ_2 : Nat → Nat → Nat) (H : Heap) (locs : List Loc) (ls : Array Slot), (k + n = 3) → (IC σ_2) → (AskW σ_2) → (∀ w, SatA σ_2 w ↔ SatM σ w (σ 0 2) 0) → (KS σ σ_2) → va_P D vwCl (WC ad cI σ_2) H → va_D A (WC ad cI σ_2) → va_S A s.heap H locs → lv_has ls 4 [(2, .int (nI k)), (0, .ref (ad 0)), (1, .int (nI 0))] → W p l e rX4_apart_m_no s m (([.ref (ad 0), .int (nI 0)] : List Value).toArray) below meth c H locs 0 0 (vx_MQ below (va_Qi (fun _ (_ : Unit) => False) (fun _ _ => True) A) (vx_X (fun u => KS σ u) (fun E u t => E = "java/lang/IllegalStateException" ∧ va_P D vwCl (WC ad cI u) t.heap ∧ va_D A (WC ad cI u)) A) (([.ref (ad 0), .int (nI 0)] : List Value).toArray) s 1 6 A) (F0 m 14 ls []) := by
    intro n
    induction n with
    | zero =>
      intro k σ_2 H locs ls hF1 hIs hAs hsat hks hP hD hS hl
      refine lv_iload_n hx hb dX4_apart_14 rfl (lv_at hl 0 rfl) ?_
      refine lv_iconst (v := nI 3) hx hb dX4_apart_15 (by decide) ?_
      refine n_icmp_ge hx hb (tgt := 61) (by omega) (by omega) dX4_apart_16 (by decide) (fun c_16 => ?_) (fun c_16 => ?_)
      · exact vx_throw0 hx hb hlt hown (own := RX4) (cls := "java/lang/IllegalStateException") (names := ["java/lang/RuntimeException", "java/lang/Exception"]) (ik := 68) (ic := 70) (by decide +kernel) (by decide +kernel) (hts _ mm_X4_apart_c68) (hts _ mm_X4_apart_i68) (vx_hat (fun w h => hts w (at_X4_apart_70 w h)) tw_70 (hTw.use)) tg_68 hTh.1 hTh.2 hS (by rw [hml]; exact hl.1) dX4_apart_61 dX4_apart_64 dX4_apart_65 dX4_apart_68 (fun x hx => (htab x hx).elim) (Nat.le_of_ble_eq_true rfl) (Nat.le_of_ble_eq_true rfl) (Nat.le_of_ble_eq_true rfl) (Nat.le_of_ble_eq_true rfl) hlocks (fun t hvm hz hk => ⟨σ_2, hks, ⟨rfl, hP.kept (fun k q h => hk q.1 (hP k q h).lt), hD⟩, ⟨Nat.le_trans hS.1 hz, fun q h1 h2 => (hk q (Nat.lt_of_lt_of_le h1 hS.1)).trans (hS.2.1 q h1 h2)⟩⟩) hS.2.2 (Nat.le_of_ble_eq_true rfl) (Nat.le_of_ble_eq_true rfl)
      · omega
    | succ n ih14 =>
      intro k σ_2 H locs ls hF1 hIs hAs hsat hks hP hD hS hl
      have hfdd : fdB σ_2 (3 - k) (3 - k) = true ↔ (∃ w, w < 5 ∧ difF w = (3 - k) ∧ SatM σ w (σ 0 2) 0) := fdd hsat
      refine lv_iload_n hx hb dX4_apart_14 rfl (lv_at hl 0 rfl) ?_
      refine lv_iconst (v := nI 3) hx hb dX4_apart_15 (by decide) ?_
      refine n_icmp_ge hx hb (tgt := 61) (by omega) (by omega) dX4_apart_16 (by decide) (fun c_16 => ?_) (fun c_16 => ?_)
      · omega
      · refine lv_iload_n hx hb dX4_apart_19 rfl (lv_at hl 2 rfl) ?_
        refine q_if_eq hx hb (tgt := 29) (nI_z (by omega)) dX4_apart_20 (by decide) (fun c_20 => ?_) (fun c_20 => ?_)
        · refine lv_iconst (v := nI 3) hx hb dX4_apart_29 (by decide) ?_
          refine lv_iload_n hx hb dX4_apart_30 rfl (lv_at hl 0 rfl) ?_
          refine n_sub hx hb (by omega) dX4_apart_31 ?_
          refine lv_istore_n (lv' := [(3, .int (nI (3 - k))), (2, .int (nI k)), (0, .ref (ad 0)), (1, .int (nI 0))]) hx hb dX4_apart_32 rfl hl (by decide) rfl (fun ls hl => ?_)
          refine lv_aload_n hx hb dX4_apart_33 rfl (lv_at hl 2 rfl) ?_
          refine va_get (D := D) (ci := 3) (v := .ref (ad 5)) (C := RX4) (T := TX4) (N := 6) hx hb hts in_X4_apart_X4 hown hK hP 0 rfl rfl 5 (by decide) (hts _ lk_X4_apart_39) (fun _ h9 => h9) rfl dX4_apart_34 ?_
          refine lv_aload_n hx hb dX4_apart_37 rfl (lv_at hl 2 rfl) ?_
          refine va_get (D := D) (ci := 3) (v := .ref (ad 1)) (C := RX4) (T := TX4) (N := 6) hx hb hts in_X4_apart_X4 hown hK hP 0 rfl rfl 0 (by decide) (hts _ lk_X4_apart_12) (fun _ h9 => h9) rfl dX4_apart_38 ?_
          refine lv_aload_n hx hb dX4_apart_41 rfl (lv_at hl 2 rfl) ?_
          refine va_get (D := D) (ci := 3) (v := .ref (ad 4)) (C := RX4) (T := TX4) (N := 6) hx hb hts in_X4_apart_X4 hown hK hP 0 rfl rfl 4 (by decide) (hts _ lk_X4_apart_33) (fun _ h9 => h9) rfl dX4_apart_42 ?_
          refine lv_iload_n hx hb dX4_apart_45 rfl (lv_at hl 0 rfl) ?_
          refine lv_iload_n hx hb dX4_apart_46 rfl (lv_at hl 0 rfl) ?_
          refine va_calli (va_runV (As := [.ref (ad 1), .ref (ad 4), .int (nI (3 - k)), .int (nI (3 - k))]) (rest := []) ⟨hx, hb, hml, hown, hts⟩ (c_X2_finds l D cI A ad σ_2 (3 - k) (3 - k) hIs (hks.wf hW0) hAs (by omega) (by omega)) (cwV 4 hts gX4_apart_X2_finds rfl rfl rfl (by decide +kernel) ⟨Nat.le_of_ble_eq_true rfl, Nat.le_of_ble_eq_true rfl⟩) ⟨Wc.blind, va_recv hK hP (ci := 1) (q0 := 5) rfl rfl, fun U hU hW => ⟨rfl, Wc.go hP hK hD hN hZ hS hU hW⟩⟩ rfl rfl hl.1 rfl (lv_room (Nat.le_of_ble_eq_true rfl)) dX4_apart_47 ⟨Nat.zero_le _, Nat.zero_le _⟩) hS (fun q _ h => h) (fun q h => h) (fun r_4 σ_3 t H1 locs ht hvm hwσ_3 hB hz1 hk1 hS => ?_)
          obtain ⟨hr_4, hwσ_3⟩ := hwσ_3
          refine n_to (w := bI (fdB σ_2 (3 - k) (3 - k))) (hr_4) ?_
          obtain ⟨hP, -, hD, -⟩ := hB
          rw [ht] at hP
          generalize H1 = H at hP hS ⊢
          have hks2 := hks.tr (KS.ofFinds hIs hwσ_3)
          have hIs2 := hks2.2.2
          have hAs2 := AskW_of hwσ_3.1 hAs
          have hsat2 := fun w => (SatA_of hwσ_3.1 w).trans (hsat w)
          refine q_if_eq hx hb (tgt := 55) (bI_z) dX4_apart_50 (by decide) (fun c_50 => ?_) (fun c_50 => ?_)
          · refine lv_iinc (v := nI (k + 1)) (lv' := [(2, .int (nI (k + 1))), (3, .int (nI (3 - k))), (0, .ref (ad 0)), (1, .int (nI 0))]) hx hb dX4_apart_55 hl (k := 1) rfl (nI_add _ _) (by decide) rfl (fun ls hl => ?_)
            refine lv_goto (tgt := 14) hx hb dX4_apart_58 (by decide) ?_
            exact ih14 (k + 1)  _ _ _ _  (by omega) (hIs2) (hAs2) (hsat2) (hks2) hP hD hS (lv_sub hl [0, 2, 3] rfl)
          · exact absurd (hfdd.mp (ts_nf c_50)) (fun ⟨w, q1, _, q2⟩ => hcan ⟨w, q1, q2⟩)
        · exact absurd c_20 (by decide)
  exact lp14 3 0  _ _ _ _ (by omega) (hIs) (hAs) (hsat) (hks) hP hD hS (lv_sub hl [0, 1, 2] rfl)
