theorem ts_nf {x : Bool} (h : ¬ x = false) : x = true := by cases x <;> simp_all
def rX1_left : Room := { frames := 0, cells := 0, slots := 0, locals := 0 }
set_option maxHeartbeats 4000000 in
set_option maxRecDepth 100000 in
theorem c_X1_left (l : Launch)   (v : Nat) (hv0 : v < 2048) : Met l yX1_left wsX1_left rX1_left (va_Pc [.int (nI v)] (fun _ => True)) (vp_Si (fun r => r = nI (v % 32))) 0 0 (fun _ => False) := by
  refine Met.ofW (cc := cX1_left) (maxL := 1) (ret := (some .int)) (by decide) rfl ?_
  intro p e s m args below meth c s₁ B hml hv
  obtain ⟨rfl, -⟩ := hv
  have hx := B.exec
  have hb := B.bytes
  have hr := B.returns
  have hts := atoms_spec (ws := wsX1_left) B.pre
  have hown : s.vm.findClass RX1 = some m.cls := findClass_of_methodNamed B.named
  have hlocks := B.notSynchronized
  have hl := lv_entry ([.int (nI v)]) (n := 1) (Nat.le_of_ble_eq_true rfl)
  rw [lg_entry_eq]
  generalize (lg_sl ([.int (nI v)]) ++ List.replicate (1 - (lg_sl ([.int (nI v)])).length) Slot.unset).toArray = ls at hl ⊢
  have hl : lv_has ls 1 [(0, .int (nI v))] := hl
  refine lv_iload_n hx hb dX1_left_0 rfl (lv_at hl 0 rfl) ?_
  refine lv_bipush (v := nI 31) hx hb dX1_left_1 (by decide) ?_
  refine lv_iand hx hb dX1_left_3 ?_
  refine n_to (w := nI (v % 32)) (lit_left hv0) ?_
  exact W.iret (v := nI (v % 32)) hx hb hr (fun t ht hW => ⟨_, rfl, rfl, ht⟩) no_locs dX1_left_4
def rX1_right : Room := { frames := 0, cells := 0, slots := 0, locals := 0 }
set_option maxHeartbeats 4000000 in
set_option maxRecDepth 100000 in
theorem c_X1_right (l : Launch)   (v : Nat) (hv0 : v < 2048) : Met l yX1_right wsX1_right rX1_right (va_Pc [.int (nI v)] (fun _ => True)) (vp_Si (fun r => r = nI (v / 32 % 32))) 0 0 (fun _ => False) := by
  refine Met.ofW (cc := cX1_right) (maxL := 1) (ret := (some .int)) (by decide) rfl ?_
  intro p e s m args below meth c s₁ B hml hv
  obtain ⟨rfl, -⟩ := hv
  have hx := B.exec
  have hb := B.bytes
  have hr := B.returns
  have hts := atoms_spec (ws := wsX1_right) B.pre
  have hown : s.vm.findClass RX1 = some m.cls := findClass_of_methodNamed B.named
  have hlocks := B.notSynchronized
  have hl := lv_entry ([.int (nI v)]) (n := 1) (Nat.le_of_ble_eq_true rfl)
  rw [lg_entry_eq]
  generalize (lg_sl ([.int (nI v)]) ++ List.replicate (1 - (lg_sl ([.int (nI v)])).length) Slot.unset).toArray = ls at hl ⊢
  have hl : lv_has ls 1 [(0, .int (nI v))] := hl
  refine lv_iload_n hx hb dX1_right_0 rfl (lv_at hl 0 rfl) ?_
  refine lv_iconst (v := nI 5) hx hb dX1_right_1 (by decide) ?_
  refine lv_ishr hx hb dX1_right_2 ?_
  refine n_to (w := nI (v / 32)) (lit_shr hv0) ?_
  refine lv_bipush (v := nI 31) hx hb dX1_right_3 (by decide) ?_
  refine lv_iand hx hb dX1_right_5 ?_
  refine n_to (w := nI (v / 32 % 32)) (lit_left (by omega)) ?_
  exact W.iret (v := nI (v / 32 % 32)) hx hb hr (fun t ht hW => ⟨_, rfl, rfl, ht⟩) no_locs dX1_right_6
def rX1_saysSame : Room := { frames := 0, cells := 0, slots := 0, locals := 0 }
set_option maxHeartbeats 4000000 in
set_option maxRecDepth 100000 in
theorem c_X1_saysSame (l : Launch)   (v : Nat) (hv0 : v < 2048) : Met l yX1_saysSame wsX1_saysSame rX1_saysSame (va_Pc [.int (nI v)] (fun _ => True)) (vp_Si (fun r => r = bI (saysB v))) 0 0 (fun _ => False) := by
  refine Met.ofW (cc := cX1_saysSame) (maxL := 1) (ret := (some .boolean)) (by decide) rfl ?_
  intro p e s m args below meth c s₁ B hml hv
  obtain ⟨rfl, -⟩ := hv
  have hx := B.exec
  have hb := B.bytes
  have hr := B.returns
  have hts := atoms_spec (ws := wsX1_saysSame) B.pre
  have hown : s.vm.findClass RX1 = some m.cls := findClass_of_methodNamed B.named
  have hlocks := B.notSynchronized
  have hl := lv_entry ([.int (nI v)]) (n := 1) (Nat.le_of_ble_eq_true rfl)
  rw [lg_entry_eq]
  generalize (lg_sl ([.int (nI v)]) ++ List.replicate (1 - (lg_sl ([.int (nI v)])).length) Slot.unset).toArray = ls at hl ⊢
  have hl : lv_has ls 1 [(0, .int (nI v))] := hl
  refine lv_iload_n hx hb dX1_saysSame_0 rfl (lv_at hl 0 rfl) ?_
  refine lv_sipush (v := nI 1024) hx hb dX1_saysSame_1 (by decide) ?_
  refine lv_iand hx hb dX1_saysSame_4 ?_
  refine n_to (w := nI (1024 * (v / 1024))) (lit_says hv0) ?_
  refine q_if_eq hx hb (tgt := 12) (nI_z (by omega)) dX1_saysSame_5 (by decide) (fun c_5 => ?_) (fun c_5 => ?_)
  · refine lv_iconst (v := nI 0) hx hb dX1_saysSame_12 (by decide) ?_
    exact W.zret (v := nI 0) hx hb hr (n_nar0) (fun t ht hW => ⟨_, rfl, by have : saysB v = decide (1024 ≤ v) := rfl; first | (rw [this, decide_eq_true (by omega)]; rfl) | (rw [this, decide_eq_false (by omega)]; rfl), ht⟩) no_locs dX1_saysSame_13
  · refine lv_iconst (v := nI 1) hx hb dX1_saysSame_8 (by decide) ?_
    refine lv_goto (tgt := 13) hx hb dX1_saysSame_9 (by decide) ?_
    exact W.zret (v := nI 1) hx hb hr (n_nar1) (fun t ht hW => ⟨_, rfl, by have : saysB v = decide (1024 ≤ v) := rfl; first | (rw [this, decide_eq_true (by omega)]; rfl) | (rw [this, decide_eq_false (by omega)]; rfl), ht⟩) no_locs dX1_saysSame_13
def rX1_opposite : Room := { frames := 0, cells := 0, slots := 0, locals := 0 }
set_option maxHeartbeats 4000000 in
set_option maxRecDepth 100000 in
theorem c_X1_opposite (l : Launch)   (v : Nat) (hv0 : v < 2048) : Met l yX1_opposite wsX1_opposite rX1_opposite (va_Pc [.int (nI v)] (fun _ => True)) (vp_Si (fun r => r = nI (oppF v))) 0 0 (fun _ => False) := by
  refine Met.ofW (cc := cX1_opposite) (maxL := 1) (ret := (some .int)) (by decide) rfl ?_
  intro p e s m args below meth c s₁ B hml hv
  obtain ⟨rfl, -⟩ := hv
  have hx := B.exec
  have hb := B.bytes
  have hr := B.returns
  have hts := atoms_spec (ws := wsX1_opposite) B.pre
  have hown : s.vm.findClass RX1 = some m.cls := findClass_of_methodNamed B.named
  have hlocks := B.notSynchronized
  have hl := lv_entry ([.int (nI v)]) (n := 1) (Nat.le_of_ble_eq_true rfl)
  rw [lg_entry_eq]
  generalize (lg_sl ([.int (nI v)]) ++ List.replicate (1 - (lg_sl ([.int (nI v)])).length) Slot.unset).toArray = ls at hl ⊢
  have hl : lv_has ls 1 [(0, .int (nI v))] := hl
  refine lv_iload_n hx hb dX1_opposite_0 rfl (lv_at hl 0 rfl) ?_
  refine lv_sipush (v := nI 1024) hx hb dX1_opposite_1 (by decide) ?_
  refine lv_ixor hx hb dX1_opposite_4 ?_
  refine n_to (w := nI (oppF v)) (lit_xor hv0) ?_
  exact W.iret (v := nI (oppF v)) hx hb hr (fun t ht hW => ⟨_, rfl, rfl, ht⟩) no_locs dX1_opposite_5
def rX1_of : Room := { frames := 0, cells := 0, slots := 0, locals := 0 }
set_option maxHeartbeats 4000000 in
set_option maxRecDepth 100000 in
theorem c_X1_of (l : Launch)   (t u : Nat) (b : Bool) (ht0 : t < 32) (hu0 : u < 32) : Met l yX1_of wsX1_of rX1_of (va_Pc [.int (nI t), .int (nI u), .int (bI b)] (fun _ => True)) (vp_Si (fun r => r = nI (litF t u b))) 0 0 (fun _ => False) := by
  refine Met.ofW (cc := cX1_of) (maxL := 3) (ret := (some .int)) (by decide) rfl ?_
  intro p e s m args below meth c s₁ B hml hv
  obtain ⟨rfl, -⟩ := hv
  have hx := B.exec
  have hb := B.bytes
  have hr := B.returns
  have hts := atoms_spec (ws := wsX1_of) B.pre
  have hown : s.vm.findClass RX1 = some m.cls := findClass_of_methodNamed B.named
  have hlocks := B.notSynchronized
  have hl := lv_entry ([.int (nI t), .int (nI u), .int (bI b)]) (n := 3) (Nat.le_of_ble_eq_true rfl)
  rw [lg_entry_eq]
  generalize (lg_sl ([.int (nI t), .int (nI u), .int (bI b)]) ++ List.replicate (3 - (lg_sl ([.int (nI t), .int (nI u), .int (bI b)])).length) Slot.unset).toArray = ls at hl ⊢
  have hl : lv_has ls 3 [(0, .int (nI t)), (1, .int (nI u)), (2, .int (bI b))] := hl
  refine lv_iload_n hx hb dX1_of_0 rfl (lv_at hl 0 rfl) ?_
  refine lv_iload_n hx hb dX1_of_1 rfl (lv_at hl 1 rfl) ?_
  refine lv_iconst (v := nI 5) hx hb dX1_of_2 (by decide) ?_
  refine lv_ishl hx hb dX1_of_3 ?_
  refine n_to (w := nI (u * 32)) (lit_shl hu0) ?_
  refine lv_ior hx hb dX1_of_4 ?_
  refine n_to (w := nI (t + u * 32)) (lit_or1 ht0 hu0) ?_
  refine lv_iload_n hx hb dX1_of_5 rfl (lv_at hl 2 rfl) ?_
  refine q_if_eq hx hb (tgt := 15) (bI_z) dX1_of_6 (by decide) (fun c_6 => ?_) (fun c_6 => ?_)
  · refine lv_iconst (v := nI 0) hx hb dX1_of_15 (by decide) ?_
    refine lv_ior hx hb dX1_of_16 ?_
    refine n_to (w := nI (litF t u false)) (lit_or3 t u) ?_
    exact W.iret (v := nI (litF t u false)) hx hb hr (fun t ht hW => ⟨_, rfl, by first | (rw [c_6]) | (rw [ts_nf c_6]), ht⟩) no_locs dX1_of_17
  · refine lv_sipush (v := nI 1024) hx hb dX1_of_9 (by decide) ?_
    refine lv_goto (tgt := 16) hx hb dX1_of_12 (by decide) ?_
    refine lv_ior hx hb dX1_of_16 ?_
    refine n_to (w := nI (litF t u true)) (lit_or2 ht0 hu0) ?_
    exact W.iret (v := nI (litF t u true)) hx hb hr (fun t ht hW => ⟨_, rfl, by first | (rw [c_6]) | (rw [ts_nf c_6]), ht⟩) no_locs dX1_of_17
theorem in_X3_has_X3 : ∀ w ∈ wsX30, w ∈ wsX3_has := by decide +kernel
theorem lk_X3_has_24 : Cond.fieldLink RX3 24 "ArrayClaims$TermTable" "count" "I" ∈ wsX3_has := by decide +kernel
def rX3_has_in : Room := { frames := 0, cells := 0, slots := 0, locals := 0 }
set_option maxHeartbeats 4000000 in
set_option maxRecDepth 100000 in
theorem c_X3_has_in (l : Launch) (D : va_G) (cI : ClassId) (A : Nat → Prop) (ad : Nat → Nat) (σ : Nat → Nat → Nat) (j : Nat) (hj : j < σ 0 1) (hc : σ 0 1 ≤ 24) : Met l yX3_has wsX3_has rX3_has_in (va_Pc [.ref (ad 1), .int (nI j)] (Wc D cI A ad σ)) (vp_Si (fun r => r = bI true)) 0 0 (fun _ => False) := by
  refine Met.ofW (cc := cX3_has) (maxL := 2) (ret := (some .boolean)) (by decide) rfl ?_
  intro p e s m args below meth c s₁ B hml hv
  obtain ⟨rfl, hP, hK, hD, hN, hZ⟩ := hv
  have hx := B.exec
  have hb := B.bytes
  have hr := B.returns
  have hts := atoms_spec (ws := wsX3_has) B.pre
  have hown : s.vm.findClass RX3 = some m.cls := findClass_of_methodNamed B.named
  have hlocks := B.notSynchronized
  have hS : va_S A s.heap s.heap [] := va_S.rf
  have hl := lv_entry ([.ref (ad 1), .int (nI j)]) (n := 2) (Nat.le_of_ble_eq_true rfl)
  rw [lg_entry_eq]
  generalize (lg_sl ([.ref (ad 1), .int (nI j)]) ++ List.replicate (2 - (lg_sl ([.ref (ad 1), .int (nI j)])).length) Slot.unset).toArray = ls at hl ⊢
  have hl : lv_has ls 2 [(0, .ref (ad 1)), (1, .int (nI j))] := hl
  refine lv_iload_n hx hb dX3_has_0 rfl (lv_at hl 1 rfl) ?_
  refine lv_if_lt hx hb (tgt := 16) dX3_has_1 (by decide) (fun c_1 => ?_) (fun c_1 => ?_)
  · exact absurd c_1 (nI_pos (by omega))
  · refine lv_iload_n hx hb dX3_has_4 rfl (lv_at hl 1 rfl) ?_
    refine lv_aload_n hx hb dX3_has_5 rfl (lv_at hl 0 rfl) ?_
    refine va_get (D := D) (ci := 2) (v := .int (nI (σ 0 1))) (C := RX3) (T := TX3) (N := 5) hx hb hts in_X3_has_X3 hown hK hP 1 rfl rfl 4 (by decide) (hts _ lk_X3_has_24) (fun _ h9 => h9) rfl dX3_has_6 ?_
    refine n_icmp_ge hx hb (tgt := 16) (by omega) (by omega) dX3_has_9 (by decide) (fun c_9 => ?_) (fun c_9 => ?_)
    · omega
    · refine lv_iconst (v := nI 1) hx hb dX3_has_12 (by decide) ?_
      refine lv_goto (tgt := 17) hx hb dX3_has_13 (by decide) ?_
      exact W.zret (v := nI 1) hx hb hr (n_nar1) (fun t ht hW => ⟨_, rfl, rfl, ht⟩) no_locs dX3_has_17
def rX3_has_out : Room := { frames := 0, cells := 0, slots := 0, locals := 0 }
set_option maxHeartbeats 4000000 in
set_option maxRecDepth 100000 in
theorem c_X3_has_out (l : Launch) (D : va_G) (cI : ClassId) (A : Nat → Prop) (ad : Nat → Nat) (σ : Nat → Nat → Nat) (x : Int32) (hxo : x < 0 ∨ nI (σ 0 1) ≤ x) : Met l yX3_has wsX3_has rX3_has_out (va_Pc [.ref (ad 1), .int x] (Wc D cI A ad σ)) (vp_Si (fun r => r = bI false)) 0 0 (fun _ => False) := by
  refine Met.ofW (cc := cX3_has) (maxL := 2) (ret := (some .boolean)) (by decide) rfl ?_
  intro p e s m args below meth c s₁ B hml hv
  obtain ⟨rfl, hP, hK, hD, hN, hZ⟩ := hv
  have hx := B.exec
  have hb := B.bytes
  have hr := B.returns
  have hts := atoms_spec (ws := wsX3_has) B.pre
  have hown : s.vm.findClass RX3 = some m.cls := findClass_of_methodNamed B.named
  have hlocks := B.notSynchronized
  have hS : va_S A s.heap s.heap [] := va_S.rf
  have hl := lv_entry ([.ref (ad 1), .int x]) (n := 2) (Nat.le_of_ble_eq_true rfl)
  rw [lg_entry_eq]
  generalize (lg_sl ([.ref (ad 1), .int x]) ++ List.replicate (2 - (lg_sl ([.ref (ad 1), .int x])).length) Slot.unset).toArray = ls at hl ⊢
  have hl : lv_has ls 2 [(0, .ref (ad 1)), (1, .int x)] := hl
  refine lv_iload_n hx hb dX3_has_0 rfl (lv_at hl 1 rfl) ?_
  refine lv_if_lt hx hb (tgt := 16) dX3_has_1 (by decide) (fun c_1 => ?_) (fun c_1 => ?_)
  · refine lv_iconst (v := nI 0) hx hb dX3_has_16 (by decide) ?_
    exact W.zret (v := nI 0) hx hb hr (n_nar0) (fun t ht hW => ⟨_, rfl, rfl, ht⟩) no_locs dX3_has_17
  · refine lv_iload_n hx hb dX3_has_4 rfl (lv_at hl 1 rfl) ?_
    refine lv_aload_n hx hb dX3_has_5 rfl (lv_at hl 0 rfl) ?_
    refine va_get (D := D) (ci := 2) (v := .int (nI (σ 0 1))) (C := RX3) (T := TX3) (N := 5) hx hb hts in_X3_has_X3 hown hK hP 1 rfl rfl 4 (by decide) (hts _ lk_X3_has_24) (fun _ h9 => h9) rfl dX3_has_6 ?_
    refine lv_icmp_ge hx hb (tgt := 16) dX3_has_9 (by decide) (fun c_9 => ?_) (fun c_9 => ?_)
    · refine lv_iconst (v := nI 0) hx hb dX3_has_16 (by decide) ?_
      exact W.zret (v := nI 0) hx hb hr (n_nar0) (fun t ht hW => ⟨_, rfl, rfl, ht⟩) no_locs dX3_has_17
    · exact absurd hxo (fun q => q.elim c_1 c_9)
theorem in_X3_sortOf_X3 : ∀ w ∈ wsX30, w ∈ wsX3_sortOf := by decide +kernel
theorem lk_X3_sortOf_9 : Cond.fieldLink RX3 9 "ArrayClaims$TermTable" "sorts" "[I" ∈ wsX3_sortOf := by decide +kernel
def rX3_sortOf_in : Room := { frames := 1, cells := 0, slots := 0, locals := 21 }
set_option maxHeartbeats 4000000 in
set_option maxRecDepth 100000 in
theorem c_X3_sortOf_in (l : Launch) (D : va_G) (cI : ClassId) (A : Nat → Prop) (ad : Nat → Nat) (σ : Nat → Nat → Nat) (j : Nat) (hj : j < σ 0 1) (hc : σ 0 1 ≤ 24) : Met l yX3_sortOf wsX3_sortOf rX3_sortOf_in (va_Pc [.ref (ad 1), .int (nI j)] (Wc D cI A ad σ)) (vp_Si (fun r => r = nI (σ 6 j))) 0 0 (fun _ => False) := by
  refine Met.ofW (cc := cX3_sortOf) (maxL := 2) (ret := (some .int)) (by decide) rfl ?_
  intro p e s m args below meth c s₁ B hml hv
  obtain ⟨rfl, hP, hK, hD, hN, hZ⟩ := hv
  have hx := B.exec
  have hb := B.bytes
  have hr := B.returns
  have hts := atoms_spec (ws := wsX3_sortOf) B.pre
  have hown : s.vm.findClass RX3 = some m.cls := findClass_of_methodNamed B.named
  have hlocks := B.notSynchronized
  have hS : va_S A s.heap s.heap [] := va_S.rf
  have hl := lv_entry ([.ref (ad 1), .int (nI j)]) (n := 2) (Nat.le_of_ble_eq_true rfl)
  rw [lg_entry_eq]
  generalize (lg_sl ([.ref (ad 1), .int (nI j)]) ++ List.replicate (2 - (lg_sl ([.ref (ad 1), .int (nI j)])).length) Slot.unset).toArray = ls at hl ⊢
  have hl : lv_has ls 2 [(0, .ref (ad 1)), (1, .int (nI j))] := hl
  refine lv_aload_n hx hb dX3_sortOf_0 rfl (lv_at hl 0 rfl) ?_
  refine lv_iload_n hx hb dX3_sortOf_1 rfl (lv_at hl 1 rfl) ?_
  refine vp_callSi (va_Run.run (va_runV (As := [.int (nI j)]) (rest := []) ⟨hx, hb, hml, hown, hts⟩ (c_X3_has_in l D cI A ad σ j hj hc) (cwV 1 hts gX3_sortOf_X3_has rfl rfl rfl (by decide +kernel) ⟨Nat.le_of_ble_eq_true rfl, Nat.le_of_ble_eq_true rfl⟩) ⟨Wc.blind, va_recv hK hP (ci := 2) (q0 := 1) rfl rfl, fun U hU hW => ⟨rfl, Wc.go hP hK hD hN hZ hS hU hW⟩⟩ rfl rfl hl.1 rfl (lv_room (Nat.le_of_ble_eq_true rfl)) dX3_sortOf_2 ⟨Nat.zero_le _, Nat.zero_le _⟩)) (fun r_1 hr_1 => ?_)
  refine n_to (w := bI true) (hr_1.trans rfl) ?_
  refine q_if_eq hx hb (tgt := 17) (bI_z) dX3_sortOf_5 (by decide) (fun c_5 => ?_) (fun c_5 => ?_)
  · cases c_5
  · refine lv_aload_n hx hb dX3_sortOf_8 rfl (lv_at hl 0 rfl) ?_
    refine va_get (D := D) (ci := 2) (v := .ref (ad 6)) (C := RX3) (T := TX3) (N := 5) hx hb hts in_X3_sortOf_X3 hown hK hP 1 rfl rfl 0 (by decide) (hts _ lk_X3_sortOf_9) (fun _ h9 => h9) rfl dX3_sortOf_9 ?_
    refine lv_iload_n hx hb dX3_sortOf_12 rfl (lv_at hl 1 rfl) ?_
    refine n_ald hx hb hK hP 6 0 rfl rfl (i := j) (by omega) (by decide) (v := nI (σ 6 j)) rfl dX3_sortOf_13 ?_
    refine lv_goto (tgt := 18) hx hb dX3_sortOf_14 (by decide) ?_
    exact W.iret (v := nI (σ 6 j)) hx hb hr (fun t ht hW => ⟨_, rfl, rfl, ht⟩) no_locs dX3_sortOf_18
def rX3_sortOf_out : Room := { frames := 1, cells := 0, slots := 0, locals := 21 }
set_option maxHeartbeats 4000000 in
set_option maxRecDepth 100000 in
theorem c_X3_sortOf_out (l : Launch) (D : va_G) (cI : ClassId) (A : Nat → Prop) (ad : Nat → Nat) (σ : Nat → Nat → Nat) (x : Int32) (hxo : x < 0 ∨ nI (σ 0 1) ≤ x) : Met l yX3_sortOf wsX3_sortOf rX3_sortOf_out (va_Pc [.ref (ad 1), .int x] (Wc D cI A ad σ)) (vp_Si (fun r => r = mI 0)) 0 0 (fun _ => False) := by
  refine Met.ofW (cc := cX3_sortOf) (maxL := 2) (ret := (some .int)) (by decide) rfl ?_
  intro p e s m args below meth c s₁ B hml hv
  obtain ⟨rfl, hP, hK, hD, hN, hZ⟩ := hv
  have hx := B.exec
  have hb := B.bytes
  have hr := B.returns
  have hts := atoms_spec (ws := wsX3_sortOf) B.pre
  have hown : s.vm.findClass RX3 = some m.cls := findClass_of_methodNamed B.named
  have hlocks := B.notSynchronized
  have hS : va_S A s.heap s.heap [] := va_S.rf
  have hl := lv_entry ([.ref (ad 1), .int x]) (n := 2) (Nat.le_of_ble_eq_true rfl)
  rw [lg_entry_eq]
  generalize (lg_sl ([.ref (ad 1), .int x]) ++ List.replicate (2 - (lg_sl ([.ref (ad 1), .int x])).length) Slot.unset).toArray = ls at hl ⊢
  have hl : lv_has ls 2 [(0, .ref (ad 1)), (1, .int x)] := hl
  refine lv_aload_n hx hb dX3_sortOf_0 rfl (lv_at hl 0 rfl) ?_
  refine lv_iload_n hx hb dX3_sortOf_1 rfl (lv_at hl 1 rfl) ?_
  refine vp_callSi (va_Run.run (va_runV (As := [.int x]) (rest := []) ⟨hx, hb, hml, hown, hts⟩ (c_X3_has_out l D cI A ad σ x hxo) (cwV 1 hts gX3_sortOf_X3_has rfl rfl rfl (by decide +kernel) ⟨Nat.le_of_ble_eq_true rfl, Nat.le_of_ble_eq_true rfl⟩) ⟨Wc.blind, va_recv hK hP (ci := 2) (q0 := 1) rfl rfl, fun U hU hW => ⟨rfl, Wc.go hP hK hD hN hZ hS hU hW⟩⟩ rfl rfl hl.1 rfl (lv_room (Nat.le_of_ble_eq_true rfl)) dX3_sortOf_2 ⟨Nat.zero_le _, Nat.zero_le _⟩)) (fun r_1 hr_1 => ?_)
  refine n_to (w := bI false) (hr_1.trans rfl) ?_
  refine q_if_eq hx hb (tgt := 17) (bI_z) dX3_sortOf_5 (by decide) (fun c_5 => ?_) (fun c_5 => ?_)
  · refine lv_iconst (v := mI 0) hx hb dX3_sortOf_17 (by decide) ?_
    exact W.iret (v := mI 0) hx hb hr (fun t ht hW => ⟨_, rfl, rfl, ht⟩) no_locs dX3_sortOf_18
  · exact absurd rfl c_5
theorem in_X3_find_X3 : ∀ w ∈ wsX30, w ∈ wsX3_find := by decide +kernel
theorem lk_X3_find_24 : Cond.fieldLink RX3 24 "ArrayClaims$TermTable" "count" "I" ∈ wsX3_find := by decide +kernel
theorem lk_X3_find_9 : Cond.fieldLink RX3 9 "ArrayClaims$TermTable" "sorts" "[I" ∈ wsX3_find := by decide +kernel
theorem lk_X3_find_15 : Cond.fieldLink RX3 15 "ArrayClaims$TermTable" "arrays" "[I" ∈ wsX3_find := by decide +kernel
theorem lk_X3_find_18 : Cond.fieldLink RX3 18 "ArrayClaims$TermTable" "indices" "[I" ∈ wsX3_find := by decide +kernel
theorem lk_X3_find_21 : Cond.fieldLink RX3 21 "ArrayClaims$TermTable" "elements" "[I" ∈ wsX3_find := by decide +kernel
def rX3_find : Room := { frames := 0, cells := 0, slots := 0, locals := 0 }
set_option maxHeartbeats 4000000 in
set_option maxRecDepth 100000 in
theorem c_X3_find (l : Launch) (D : va_G) (cI : ClassId) (A : Nat → Prop) (ad : Nat → Nat) (σ : Nat → Nat → Nat) (q a i x : Nat) (hI : IC σ) (hq : q ≤ 2) (ha : a ≤ 24) (hi : i ≤ 24) (hx0 : x ≤ 24) : Met l yX3_find wsX3_find rX3_find (va_Pc [.ref (ad 1), .int (nI q), .int (mI a), .int (mI i), .int (mI x)] (Wc D cI A ad σ)) (vp_Si (fun r => r = mI (findF σ q a i x (σ 0 1 - 7) 7))) 0 0 (fun _ => False) := by
  refine Met.ofW (cc := cX3_find) (maxL := 6) (ret := (some .int)) (by decide) rfl ?_
  intro p e s m args below meth c s₁ B hml hv
  obtain ⟨rfl, hP, hK, hD, hN, hZ⟩ := hv
  have hx := B.exec
  have hb := B.bytes
  have hr := B.returns
  have hts := atoms_spec (ws := wsX3_find) B.pre
  have hown : s.vm.findClass RX3 = some m.cls := findClass_of_methodNamed B.named
  have hlocks := B.notSynchronized
  have hS : va_S A s.heap s.heap [] := va_S.rf
  have hl := lv_entry ([.ref (ad 1), .int (nI q), .int (mI a), .int (mI i), .int (mI x)]) (n := 6) (Nat.le_of_ble_eq_true rfl)
  rw [lg_entry_eq]
  generalize (lg_sl ([.ref (ad 1), .int (nI q), .int (mI a), .int (mI i), .int (mI x)]) ++ List.replicate (6 - (lg_sl ([.ref (ad 1), .int (nI q), .int (mI a), .int (mI i), .int (mI x)])).length) Slot.unset).toArray = ls at hl ⊢
  have hl : lv_has ls 6 [(0, .ref (ad 1)), (1, .int (nI q)), (2, .int (mI a)), (3, .int (mI i)), (4, .int (mI x))] := hl
  have hc := hI.terms
  refine lv_bipush (v := nI 7) hx hb dX3_find_0 (by decide) ?_
  refine lv_istore (lv' := [(5, .int (nI 7)), (0, .ref (ad 1)), (1, .int (nI q)), (2, .int (mI a)), (3, .int (mI i)), (4, .int (mI x))]) hx hb dX3_find_2 hl (by decide) rfl (fun ls hl => ?_)
  have lp4 : ∀ (n : Nat) (t : Nat) (ls : Array Slot), (t + n = σ 0 1 ∧ 7 ≤ t) → (mI (findF σ q a i x (σ 0 1 - 7) 7) = mI (findF σ q a i x n t)) → lv_has ls 6 [(5, .int (nI t)), (0, .ref (ad 1)), (1, .int (nI q)), (2, .int (mI a)), (3, .int (mI i)), (4, .int (mI x))] → WR p l e rX3_find s m (([.ref (ad 1), .int (nI q), .int (mI a), .int (mI i), .int (mI x)] : List Value).toArray) below meth c s.heap (fun r => r = mI (findF σ q a i x (σ 0 1 - 7) 7)) (F0 m 4 ls []) := by
    intro n
    induction n with
    | zero =>
      intro t ls hF1 hF hl
      obtain ⟨hF0, hF7⟩ := hF1
      refine lv_iload hx hb dX3_find_4 (lv_at hl 0 rfl) ?_
      refine lv_aload_n hx hb dX3_find_6 rfl (lv_at hl 1 rfl) ?_
      refine va_get (D := D) (ci := 2) (v := .int (nI (σ 0 1))) (C := RX3) (T := TX3) (N := 5) hx hb hts in_X3_find_X3 hown hK hP 1 rfl rfl 4 (by decide) (hts _ lk_X3_find_24) (fun _ h9 => h9) rfl dX3_find_7 ?_
      refine n_icmp_ge hx hb (tgt := 67) (by omega) (by omega) dX3_find_10 (by decide) (fun c_10 => ?_) (fun c_10 => ?_)
      · refine lv_iconst (v := mI 0) hx hb dX3_find_67 (by decide) ?_
        exact W.iret (v := mI 0) hx hb hr (fun t ht hW => ⟨_, rfl, by rw [hF]; rfl, ht⟩) no_locs dX3_find_68
      · omega
    | succ n ih4 =>
      intro t ls hF1 hF hl
      obtain ⟨hF0, hF7⟩ := hF1
      have hr1 := hI.rows (j := t) (by omega)
      have hr2 := hI.sorts (j := t) (by omega)
      refine lv_iload hx hb dX3_find_4 (lv_at hl 0 rfl) ?_
      refine lv_aload_n hx hb dX3_find_6 rfl (lv_at hl 1 rfl) ?_
      refine va_get (D := D) (ci := 2) (v := .int (nI (σ 0 1))) (C := RX3) (T := TX3) (N := 5) hx hb hts in_X3_find_X3 hown hK hP 1 rfl rfl 4 (by decide) (hts _ lk_X3_find_24) (fun _ h9 => h9) rfl dX3_find_7 ?_
      refine n_icmp_ge hx hb (tgt := 67) (by omega) (by omega) dX3_find_10 (by decide) (fun c_10 => ?_) (fun c_10 => ?_)
      · omega
      · refine lv_aload_n hx hb dX3_find_13 rfl (lv_at hl 1 rfl) ?_
        refine va_get (D := D) (ci := 2) (v := .ref (ad 6)) (C := RX3) (T := TX3) (N := 5) hx hb hts in_X3_find_X3 hown hK hP 1 rfl rfl 0 (by decide) (hts _ lk_X3_find_9) (fun _ h9 => h9) rfl dX3_find_14 ?_
        refine lv_iload hx hb dX3_find_17 (lv_at hl 0 rfl) ?_
        refine n_ald hx hb hK hP 6 0 rfl rfl (i := t) (by omega) (by decide) (v := nI (σ 6 t)) rfl dX3_find_19 ?_
        refine lv_iload_n hx hb dX3_find_20 rfl (lv_at hl 2 rfl) ?_
        refine q_icmp_ne hx hb (tgt := 61) (nI_eq (by omega) (by omega)) dX3_find_21 (by decide) (fun c_21 => ?_) (fun c_21 => ?_)
        · refine lv_iinc (v := nI (t + 1)) (lv' := [(5, .int (nI (t + 1))), (0, .ref (ad 1)), (1, .int (nI q)), (2, .int (mI a)), (3, .int (mI i)), (4, .int (mI x))]) hx hb dX3_find_61 hl (k := 0) rfl (nI_add _ _) (by decide) rfl (fun ls hl => ?_)
          refine lv_goto (tgt := 4) hx hb dX3_find_64 (by decide) ?_
          exact ih4 (t + 1)  _  (by omega) (by rw [hF]; simp [findF, *]) (lv_sub hl [0, 1, 2, 3, 4, 5] rfl)
        · refine lv_aload_n hx hb dX3_find_24 rfl (lv_at hl 1 rfl) ?_
          refine va_get (D := D) (ci := 2) (v := .ref (ad 7)) (C := RX3) (T := TX3) (N := 5) hx hb hts in_X3_find_X3 hown hK hP 1 rfl rfl 1 (by decide) (hts _ lk_X3_find_15) (fun _ h9 => h9) rfl dX3_find_25 ?_
          refine lv_iload hx hb dX3_find_28 (lv_at hl 0 rfl) ?_
          refine n_ald hx hb hK hP 7 0 rfl rfl (i := t) (by omega) (by decide) (v := mI (σ 7 t)) rfl dX3_find_30 ?_
          refine lv_iload_n hx hb dX3_find_31 rfl (lv_at hl 3 rfl) ?_
          refine q_icmp_ne hx hb (tgt := 61) (mI_eq (by omega) (by omega)) dX3_find_32 (by decide) (fun c_32 => ?_) (fun c_32 => ?_)
          · refine lv_iinc (v := nI (t + 1)) (lv' := [(5, .int (nI (t + 1))), (0, .ref (ad 1)), (1, .int (nI q)), (2, .int (mI a)), (3, .int (mI i)), (4, .int (mI x))]) hx hb dX3_find_61 hl (k := 0) rfl (nI_add _ _) (by decide) rfl (fun ls hl => ?_)
            refine lv_goto (tgt := 4) hx hb dX3_find_64 (by decide) ?_
            exact ih4 (t + 1)  _  (by omega) (by rw [hF]; simp [findF, *]) (lv_sub hl [0, 1, 2, 3, 4, 5] rfl)
          · refine lv_aload_n hx hb dX3_find_35 rfl (lv_at hl 1 rfl) ?_
            refine va_get (D := D) (ci := 2) (v := .ref (ad 8)) (C := RX3) (T := TX3) (N := 5) hx hb hts in_X3_find_X3 hown hK hP 1 rfl rfl 2 (by decide) (hts _ lk_X3_find_18) (fun _ h9 => h9) rfl dX3_find_36 ?_
            refine lv_iload hx hb dX3_find_39 (lv_at hl 0 rfl) ?_
            refine n_ald hx hb hK hP 8 0 rfl rfl (i := t) (by omega) (by decide) (v := mI (σ 8 t)) rfl dX3_find_41 ?_
            refine lv_iload_n hx hb dX3_find_42 rfl (lv_at hl 4 rfl) ?_
            refine q_icmp_ne hx hb (tgt := 61) (mI_eq (by omega) (by omega)) dX3_find_43 (by decide) (fun c_43 => ?_) (fun c_43 => ?_)
            · refine lv_iinc (v := nI (t + 1)) (lv' := [(5, .int (nI (t + 1))), (0, .ref (ad 1)), (1, .int (nI q)), (2, .int (mI a)), (3, .int (mI i)), (4, .int (mI x))]) hx hb dX3_find_61 hl (k := 0) rfl (nI_add _ _) (by decide) rfl (fun ls hl => ?_)
              refine lv_goto (tgt := 4) hx hb dX3_find_64 (by decide) ?_
              exact ih4 (t + 1)  _  (by omega) (by rw [hF]; simp [findF, *]) (lv_sub hl [0, 1, 2, 3, 4, 5] rfl)
            · refine lv_aload_n hx hb dX3_find_46 rfl (lv_at hl 1 rfl) ?_
              refine va_get (D := D) (ci := 2) (v := .ref (ad 9)) (C := RX3) (T := TX3) (N := 5) hx hb hts in_X3_find_X3 hown hK hP 1 rfl rfl 3 (by decide) (hts _ lk_X3_find_21) (fun _ h9 => h9) rfl dX3_find_47 ?_
              refine lv_iload hx hb dX3_find_50 (lv_at hl 0 rfl) ?_
              refine n_ald hx hb hK hP 9 0 rfl rfl (i := t) (by omega) (by decide) (v := mI (σ 9 t)) rfl dX3_find_52 ?_
              refine lv_iload hx hb dX3_find_53 (lv_at hl 5 rfl) ?_
              refine q_icmp_ne hx hb (tgt := 61) (mI_eq (by omega) (by omega)) dX3_find_55 (by decide) (fun c_55 => ?_) (fun c_55 => ?_)
              · refine lv_iinc (v := nI (t + 1)) (lv' := [(5, .int (nI (t + 1))), (0, .ref (ad 1)), (1, .int (nI q)), (2, .int (mI a)), (3, .int (mI i)), (4, .int (mI x))]) hx hb dX3_find_61 hl (k := 0) rfl (nI_add _ _) (by decide) rfl (fun ls hl => ?_)
                refine lv_goto (tgt := 4) hx hb dX3_find_64 (by decide) ?_
                exact ih4 (t + 1)  _  (by omega) (by rw [hF]; simp [findF, *]) (lv_sub hl [0, 1, 2, 3, 4, 5] rfl)
              · refine lv_iload hx hb dX3_find_58 (lv_at hl 0 rfl) ?_
                exact W.iret (v := nI t) hx hb hr (fun t ht hW => ⟨_, rfl, by rw [hF]; simp [findF, *, mI_succ], ht⟩) no_locs dX3_find_60
  exact lp4 (σ 0 1 - 7) 7  _ (by omega) (rfl) (lv_sub hl [0, 1, 2, 3, 4, 5] rfl)
theorem in_X0_sizeOf_X0 : ∀ w ∈ wsX00, w ∈ wsX0_sizeOf := by decide +kernel
theorem lk_X0_sizeOf_15 : Cond.fieldLink RX0 15 "ArrayClaims$ClaimList" "sizes" "[I" ∈ wsX0_sizeOf := by decide +kernel
def rX0_sizeOf : Room := { frames := 0, cells := 0, slots := 0, locals := 0 }
set_option maxHeartbeats 4000000 in
set_option maxRecDepth 100000 in
theorem c_X0_sizeOf (l : Launch) (D : va_G) (cI : ClassId) (A : Nat → Prop) (ad : Nat → Nat) (σ : Nat → Nat → Nat) (k : Nat) (hk : k < 11) : Met l yX0_sizeOf wsX0_sizeOf rX0_sizeOf (va_Pc [.ref (ad 4), .int (nI k)] (Wc D cI A ad σ)) (vp_Si (fun r => r = nI (σ 13 k))) 0 0 (fun _ => False) := by
  refine Met.ofW (cc := cX0_sizeOf) (maxL := 2) (ret := (some .int)) (by decide) rfl ?_
  intro p e s m args below meth c s₁ B hml hv
  obtain ⟨rfl, hP, hK, hD, hN, hZ⟩ := hv
  have hx := B.exec
  have hb := B.bytes
  have hr := B.returns
  have hts := atoms_spec (ws := wsX0_sizeOf) B.pre
  have hown : s.vm.findClass RX0 = some m.cls := findClass_of_methodNamed B.named
  have hlocks := B.notSynchronized
  have hS : va_S A s.heap s.heap [] := va_S.rf
  have hl := lv_entry ([.ref (ad 4), .int (nI k)]) (n := 2) (Nat.le_of_ble_eq_true rfl)
  rw [lg_entry_eq]
  generalize (lg_sl ([.ref (ad 4), .int (nI k)]) ++ List.replicate (2 - (lg_sl ([.ref (ad 4), .int (nI k)])).length) Slot.unset).toArray = ls at hl ⊢
  have hl : lv_has ls 2 [(0, .ref (ad 4)), (1, .int (nI k))] := hl
  refine lv_aload_n hx hb dX0_sizeOf_0 rfl (lv_at hl 0 rfl) ?_
  refine va_get (D := D) (ci := 0) (v := .ref (ad 13)) (C := RX0) (T := TX0) (N := 3) hx hb hts in_X0_sizeOf_X0 hown hK hP 4 rfl rfl 1 (by decide) (hts _ lk_X0_sizeOf_15) (fun _ h9 => h9) rfl dX0_sizeOf_1 ?_
  refine lv_iload_n hx hb dX0_sizeOf_4 rfl (lv_at hl 1 rfl) ?_
  refine n_ald hx hb hK hP 13 0 rfl rfl (i := k) (by omega) (by decide) (v := nI (σ 13 k)) rfl dX0_sizeOf_5 ?_
  exact W.iret (v := nI (σ 13 k)) hx hb hr (fun t ht hW => ⟨_, rfl, rfl, ht⟩) no_locs dX0_sizeOf_6
theorem in_X0_at_X0 : ∀ w ∈ wsX00, w ∈ wsX0_at := by decide +kernel
theorem lk_X0_at_9 : Cond.fieldLink RX0 9 "ArrayClaims$ClaimList" "literals" "[I" ∈ wsX0_at := by decide +kernel
def rX0_at : Room := { frames := 0, cells := 0, slots := 0, locals := 0 }
set_option maxHeartbeats 4000000 in
set_option maxRecDepth 100000 in
theorem c_X0_at (l : Launch) (D : va_G) (cI : ClassId) (A : Nat → Prop) (ad : Nat → Nat) (σ : Nat → Nat → Nat) (k j : Nat) (hk : k * 3 + j < 33) : Met l yX0_at wsX0_at rX0_at (va_Pc [.ref (ad 4), .int (nI k), .int (nI j)] (Wc D cI A ad σ)) (vp_Si (fun r => r = nI (σ 12 (k * 3 + j)))) 0 0 (fun _ => False) := by
  refine Met.ofW (cc := cX0_at) (maxL := 3) (ret := (some .int)) (by decide) rfl ?_
  intro p e s m args below meth c s₁ B hml hv
  obtain ⟨rfl, hP, hK, hD, hN, hZ⟩ := hv
  have hx := B.exec
  have hb := B.bytes
  have hr := B.returns
  have hts := atoms_spec (ws := wsX0_at) B.pre
  have hown : s.vm.findClass RX0 = some m.cls := findClass_of_methodNamed B.named
  have hlocks := B.notSynchronized
  have hS : va_S A s.heap s.heap [] := va_S.rf
  have hl := lv_entry ([.ref (ad 4), .int (nI k), .int (nI j)]) (n := 3) (Nat.le_of_ble_eq_true rfl)
  rw [lg_entry_eq]
  generalize (lg_sl ([.ref (ad 4), .int (nI k), .int (nI j)]) ++ List.replicate (3 - (lg_sl ([.ref (ad 4), .int (nI k), .int (nI j)])).length) Slot.unset).toArray = ls at hl ⊢
  have hl : lv_has ls 3 [(0, .ref (ad 4)), (1, .int (nI k)), (2, .int (nI j))] := hl
  refine lv_aload_n hx hb dX0_at_0 rfl (lv_at hl 0 rfl) ?_
  refine va_get (D := D) (ci := 0) (v := .ref (ad 12)) (C := RX0) (T := TX0) (N := 3) hx hb hts in_X0_at_X0 hown hK hP 4 rfl rfl 0 (by decide) (hts _ lk_X0_at_9) (fun _ h9 => h9) rfl dX0_at_1 ?_
  refine lv_iload_n hx hb dX0_at_4 rfl (lv_at hl 1 rfl) ?_
  refine lv_iconst (v := nI 3) hx hb dX0_at_5 (by decide) ?_
  refine n_mul hx hb dX0_at_6 ?_
  refine lv_iload_n hx hb dX0_at_7 rfl (lv_at hl 2 rfl) ?_
  refine n_add hx hb dX0_at_8 ?_
  refine n_ald hx hb hK hP 12 0 rfl rfl (i := (k * 3) + j) (by omega) (by decide) (v := nI (σ 12 ((k * 3) + j))) rfl dX0_at_9 ?_
  exact W.iret (v := nI (σ 12 ((k * 3) + j))) hx hb hr (fun t ht hW => ⟨_, rfl, rfl, ht⟩) no_locs dX0_at_10
theorem lk_X2_lowest_35 : Cond.fieldLink RX2 35 "ArrayClaims$ReadingSearch" "LOWEST" "[I" ∈ wsX2_lowest := by decide +kernel
def rX2_lowest : Room := { frames := 0, cells := 0, slots := 0, locals := 0 }
set_option maxHeartbeats 4000000 in
set_option maxRecDepth 100000 in
theorem c_X2_lowest (l : Launch) (D : va_G) (cI : ClassId) (A : Nat → Prop) (ad : Nat → Nat) (σ : Nat → Nat → Nat) (w j : Nat) (hw : w * 3 + j < 15) : Met l yX2_lowest wsX2_lowest rX2_lowest (va_Pc [.int (nI w), .int (nI j)] (Wc D cI A ad σ)) (vp_Si (fun r => r = nI (lowF (w * 3 + j)))) 0 0 (fun _ => False) := by
  refine Met.ofW (cc := cX2_lowest) (maxL := 2) (ret := (some .int)) (by decide) rfl ?_
  intro p e s m args below meth c s₁ B hml hv
  obtain ⟨rfl, hP, hK, hD, hN, hZ⟩ := hv
  have hx := B.exec
  have hb := B.bytes
  have hr := B.returns
  have hts := atoms_spec (ws := wsX2_lowest) B.pre
  have hown : s.vm.findClass RX2 = some m.cls := findClass_of_methodNamed B.named
  have hlocks := B.notSynchronized
  have hS : va_S A s.heap s.heap [] := va_S.rf
  have hl := lv_entry ([.int (nI w), .int (nI j)]) (n := 2) (Nat.le_of_ble_eq_true rfl)
  rw [lg_entry_eq]
  generalize (lg_sl ([.int (nI w), .int (nI j)]) ++ List.replicate (2 - (lg_sl ([.int (nI w), .int (nI j)])).length) Slot.unset).toArray = ls at hl ⊢
  have hl : lv_has ls 2 [(0, .int (nI w)), (1, .int (nI j))] := hl
  obtain ⟨t1, t2, hZ1, hT1, hZ2, hT2⟩ := id hZ
  refine va_gets hx hb hZ1 hS hown (hts _ lk_X2_lowest_35) (fun _ h9 => h9) dX2_lowest_0 ?_
  refine lv_iload_n hx hb dX2_lowest_3 rfl (lv_at hl 0 rfl) ?_
  refine lv_iconst (v := nI 3) hx hb dX2_lowest_4 (by decide) ?_
  refine n_mul hx hb dX2_lowest_5 ?_
  refine lv_iload_n hx hb dX2_lowest_6 rfl (lv_at hl 1 rfl) ?_
  refine n_add hx hb dX2_lowest_7 ?_
  refine n_tld hx hb hT1 hS (i := (w * 3) + j) (by omega) (by decide) dX2_lowest_8 ?_
  exact W.iret (v := nI (lowF ((w * 3) + j))) hx hb hr (fun t ht hW => ⟨_, rfl, rfl, ht⟩) no_locs dX2_lowest_9
def rX2_width : Room := { frames := 0, cells := 0, slots := 0, locals := 0 }
set_option maxHeartbeats 4000000 in
set_option maxRecDepth 100000 in
theorem c_X2_width (l : Launch)   (q : Nat) (hq : q ≤ 2) : Met l yX2_width wsX2_width rX2_width (va_Pc [.int (nI q)] (fun _ => True)) (vp_Si (fun r => r = nI (widF q))) 0 0 (fun _ => False) := by
  refine Met.ofW (cc := cX2_width) (maxL := 1) (ret := (some .int)) (by decide) rfl ?_
  intro p e s m args below meth c s₁ B hml hv
  obtain ⟨rfl, -⟩ := hv
  have hx := B.exec
  have hb := B.bytes
  have hr := B.returns
  have hts := atoms_spec (ws := wsX2_width) B.pre
  have hown : s.vm.findClass RX2 = some m.cls := findClass_of_methodNamed B.named
  have hlocks := B.notSynchronized
  have hl := lv_entry ([.int (nI q)]) (n := 1) (Nat.le_of_ble_eq_true rfl)
  rw [lg_entry_eq]
  generalize (lg_sl ([.int (nI q)]) ++ List.replicate (1 - (lg_sl ([.int (nI q)])).length) Slot.unset).toArray = ls at hl ⊢
  have hl : lv_has ls 1 [(0, .int (nI q))] := hl
  refine lv_iload_n hx hb dX2_width_0 rfl (lv_at hl 0 rfl) ?_
  refine lv_iconst (v := nI 2) hx hb dX2_width_1 (by decide) ?_
  refine q_icmp_ne hx hb (tgt := 9) (nI_eq (by omega) (by omega)) dX2_width_2 (by decide) (fun c_2 => ?_) (fun c_2 => ?_)
  · refine lv_iconst (v := nI 1) hx hb dX2_width_9 (by decide) ?_
    exact W.iret (v := nI 1) hx hb hr (fun t ht hW => ⟨_, rfl, by unfold widF; first | (rw [if_pos c_2]) | (rw [if_neg c_2]), ht⟩) no_locs dX2_width_10
  · refine lv_iconst (v := nI 4) hx hb dX2_width_5 (by decide) ?_
    refine lv_goto (tgt := 10) hx hb dX2_width_6 (by decide) ?_
    exact W.iret (v := nI 4) hx hb hr (fun t ht hW => ⟨_, rfl, by unfold widF; first | (rw [if_pos c_2]) | (rw [if_neg c_2]), ht⟩) no_locs dX2_width_10
theorem in_X2_partLikeness_X2 : ∀ w ∈ wsX20, w ∈ wsX2_partLikeness := by decide +kernel
theorem lk_X2_partLikeness_15 : Cond.fieldLink RX2 15 "ArrayClaims$ReadingSearch" "chosen" "[I" ∈ wsX2_partLikeness := by decide +kernel
def rX2_partLikeness : Room := { frames := 0, cells := 0, slots := 0, locals := 0 }
set_option maxHeartbeats 4000000 in
set_option maxRecDepth 100000 in
theorem c_X2_partLikeness (l : Launch) (D : va_G) (cI : ClassId) (A : Nat → Prop) (ad : Nat → Nat) (σ : Nat → Nat → Nat) (q x y : Nat) (hI : IC σ) (hq : q ≤ 2) (hx0 : x < 10) (hy0 : y < 10) : Met l yX2_partLikeness wsX2_partLikeness rX2_partLikeness (va_Pc [.ref (ad 5), .int (nI q), .int (nI x), .int (nI y)] (Wc D cI A ad σ)) (vp_Si (fun r => r = nI (plF σ q x y))) 0 0 (fun _ => False) := by
  refine Met.ofW (cc := cX2_partLikeness) (maxL := 4) (ret := (some .int)) (by decide) rfl ?_
  intro p e s m args below meth c s₁ B hml hv
  obtain ⟨rfl, hP, hK, hD, hN, hZ⟩ := hv
  have hx := B.exec
  have hb := B.bytes
  have hr := B.returns
  have hts := atoms_spec (ws := wsX2_partLikeness) B.pre
  have hown : s.vm.findClass RX2 = some m.cls := findClass_of_methodNamed B.named
  have hlocks := B.notSynchronized
  have hS : va_S A s.heap s.heap [] := va_S.rf
  have hl := lv_entry ([.ref (ad 5), .int (nI q), .int (nI x), .int (nI y)]) (n := 4) (Nat.le_of_ble_eq_true rfl)
  rw [lg_entry_eq]
  generalize (lg_sl ([.ref (ad 5), .int (nI q), .int (nI x), .int (nI y)]) ++ List.replicate (4 - (lg_sl ([.ref (ad 5), .int (nI q), .int (nI x), .int (nI y)])).length) Slot.unset).toArray = ls at hl ⊢
  have hl : lv_has ls 4 [(0, .ref (ad 5)), (1, .int (nI q)), (2, .int (nI x)), (3, .int (nI y))] := hl
  have hcx := hI.chosen hx0
  have hcy := hI.chosen hy0
  refine lv_iload_n hx hb dX2_partLikeness_0 rfl (lv_at hl 2 rfl) ?_
  refine lv_iload_n hx hb dX2_partLikeness_1 rfl (lv_at hl 3 rfl) ?_
  refine q_icmp_ne hx hb (tgt := 7) (nI_eq (by omega) (by omega)) dX2_partLikeness_2 (by decide) (fun c_2 => ?_) (fun c_2 => ?_)
  · refine lv_iload_n hx hb dX2_partLikeness_7 rfl (lv_at hl 1 rfl) ?_
    refine q_if_ne hx hb (tgt := 13) (nI_z (by omega)) dX2_partLikeness_8 (by decide) (fun c_8 => ?_) (fun c_8 => ?_)
    · refine lv_aload_n hx hb dX2_partLikeness_13 rfl (lv_at hl 0 rfl) ?_
      refine va_get (D := D) (ci := 1) (v := .ref (ad 15)) (C := RX2) (T := TX2) (N := 2) hx hb hts in_X2_partLikeness_X2 hown hK hP 5 rfl rfl 1 (by decide) (hts _ lk_X2_partLikeness_15) (fun _ h9 => h9) rfl dX2_partLikeness_14 ?_
      refine lv_iload_n hx hb dX2_partLikeness_17 rfl (lv_at hl 2 rfl) ?_
      refine n_ald hx hb hK hP 15 0 rfl rfl (i := x) (by omega) (by decide) (v := mI (σ 15 x)) rfl dX2_partLikeness_18 ?_
      refine lv_iconst (v := mI 0) hx hb dX2_partLikeness_19 (by decide) ?_
      refine q_icmp_eq hx hb (tgt := 33) (mI_eq (by omega) (by omega)) dX2_partLikeness_20 (by decide) (fun c_20 => ?_) (fun c_20 => ?_)
      · refine lv_iconst (v := nI 2) hx hb dX2_partLikeness_33 (by decide) ?_
        exact W.iret (v := nI 2) hx hb hr (fun t ht hW => ⟨_, rfl, by simp [plF, *], ht⟩) no_locs dX2_partLikeness_34
      · refine lv_aload_n hx hb dX2_partLikeness_23 rfl (lv_at hl 0 rfl) ?_
        refine va_get (D := D) (ci := 1) (v := .ref (ad 15)) (C := RX2) (T := TX2) (N := 2) hx hb hts in_X2_partLikeness_X2 hown hK hP 5 rfl rfl 1 (by decide) (hts _ lk_X2_partLikeness_15) (fun _ h9 => h9) rfl dX2_partLikeness_24 ?_
        refine lv_iload_n hx hb dX2_partLikeness_27 rfl (lv_at hl 3 rfl) ?_
        refine n_ald hx hb hK hP 15 0 rfl rfl (i := y) (by omega) (by decide) (v := mI (σ 15 y)) rfl dX2_partLikeness_28 ?_
        refine lv_iconst (v := mI 0) hx hb dX2_partLikeness_29 (by decide) ?_
        refine q_icmp_ne hx hb (tgt := 35) (mI_eq (by omega) (by omega)) dX2_partLikeness_30 (by decide) (fun c_30 => ?_) (fun c_30 => ?_)
        · refine lv_aload_n hx hb dX2_partLikeness_35 rfl (lv_at hl 0 rfl) ?_
          refine va_get (D := D) (ci := 1) (v := .ref (ad 15)) (C := RX2) (T := TX2) (N := 2) hx hb hts in_X2_partLikeness_X2 hown hK hP 5 rfl rfl 1 (by decide) (hts _ lk_X2_partLikeness_15) (fun _ h9 => h9) rfl dX2_partLikeness_36 ?_
          refine lv_iload_n hx hb dX2_partLikeness_39 rfl (lv_at hl 2 rfl) ?_
          refine n_ald hx hb hK hP 15 0 rfl rfl (i := x) (by omega) (by decide) (v := mI (σ 15 x)) rfl dX2_partLikeness_40 ?_
          refine lv_aload_n hx hb dX2_partLikeness_41 rfl (lv_at hl 0 rfl) ?_
          refine va_get (D := D) (ci := 1) (v := .ref (ad 15)) (C := RX2) (T := TX2) (N := 2) hx hb hts in_X2_partLikeness_X2 hown hK hP 5 rfl rfl 1 (by decide) (hts _ lk_X2_partLikeness_15) (fun _ h9 => h9) rfl dX2_partLikeness_42 ?_
          refine lv_iload_n hx hb dX2_partLikeness_45 rfl (lv_at hl 3 rfl) ?_
          refine n_ald hx hb hK hP 15 0 rfl rfl (i := y) (by omega) (by decide) (v := mI (σ 15 y)) rfl dX2_partLikeness_46 ?_
          refine q_icmp_ne hx hb (tgt := 54) (mI_eq (by omega) (by omega)) dX2_partLikeness_47 (by decide) (fun c_47 => ?_) (fun c_47 => ?_)
          · refine lv_iconst (v := nI 0) hx hb dX2_partLikeness_54 (by decide) ?_
            exact W.iret (v := nI 0) hx hb hr (fun t ht hW => ⟨_, rfl, by simp [plF, *], ht⟩) no_locs dX2_partLikeness_55
          · refine lv_iconst (v := nI 1) hx hb dX2_partLikeness_50 (by decide) ?_
            refine lv_goto (tgt := 55) hx hb dX2_partLikeness_51 (by decide) ?_
            exact W.iret (v := nI 1) hx hb hr (fun t ht hW => ⟨_, rfl, by simp [plF, *], ht⟩) no_locs dX2_partLikeness_55
        · refine lv_iconst (v := nI 2) hx hb dX2_partLikeness_33 (by decide) ?_
          exact W.iret (v := nI 2) hx hb hr (fun t ht hW => ⟨_, rfl, by simp [plF, *], ht⟩) no_locs dX2_partLikeness_34
    · refine lv_iconst (v := nI 0) hx hb dX2_partLikeness_11 (by decide) ?_
      exact W.iret (v := nI 0) hx hb hr (fun t ht hW => ⟨_, rfl, by simp [plF, *], ht⟩) no_locs dX2_partLikeness_12
  · refine lv_iconst (v := nI 1) hx hb dX2_partLikeness_5 (by decide) ?_
    exact W.iret (v := nI 1) hx hb hr (fun t ht hW => ⟨_, rfl, by simp [plF, *], ht⟩) no_locs dX2_partLikeness_6
theorem in_X2_rightness_X3 : ∀ w ∈ wsX30, w ∈ wsX2_rightness := by decide +kernel
theorem in_X2_rightness_X2 : ∀ w ∈ wsX20, w ∈ wsX2_rightness := by decide +kernel
theorem lk_X2_rightness_11 : Cond.fieldLink RX2 11 "ArrayClaims$ReadingSearch" "parts" "[I" ∈ wsX2_rightness := by decide +kernel
def rX2_rightness : Room := { frames := 1, cells := 0, slots := 0, locals := 23 }
set_option maxHeartbeats 4000000 in
set_option maxRecDepth 100000 in
theorem c_X2_rightness (l : Launch) (D : va_G) (cI : ClassId) (A : Nat → Prop) (ad : Nat → Nat) (σ : Nat → Nat → Nat) (v : Nat) (hI : IC σ) (hv0 : litOK v) : Met l yX2_rightness wsX2_rightness rX2_rightness (va_Pc [.ref (ad 5), .ref (ad 1), .int (nI v)] (Wc D cI A ad σ)) (vp_Si (fun r => r = nI (rtF σ v))) 0 0 (fun _ => False) := by
  refine Met.ofW (cc := cX2_rightness) (maxL := 8) (ret := (some .int)) (by decide) rfl ?_
  intro p e s m args below meth c s₁ B hml hv
  obtain ⟨rfl, hP, hK, hD, hN, hZ⟩ := hv
  have hx := B.exec
  have hb := B.bytes
  have hr := B.returns
  have hts := atoms_spec (ws := wsX2_rightness) B.pre
  have hown : s.vm.findClass RX2 = some m.cls := findClass_of_methodNamed B.named
  have hlocks := B.notSynchronized
  have hS : va_S A s.heap s.heap [] := va_S.rf
  have hl := lv_entry ([.ref (ad 5), .ref (ad 1), .int (nI v)]) (n := 8) (Nat.le_of_ble_eq_true rfl)
  rw [lg_entry_eq]
  generalize (lg_sl ([.ref (ad 5), .ref (ad 1), .int (nI v)]) ++ List.replicate (8 - (lg_sl ([.ref (ad 5), .ref (ad 1), .int (nI v)])).length) Slot.unset).toArray = ls at hl ⊢
  have hl : lv_has ls 8 [(0, .ref (ad 5)), (1, .ref (ad 1)), (2, .int (nI v))] := hl
  obtain ⟨hv1, hv2, hv3⟩ := id hv0
  have hs1 := hI.sorts hv2
  have hs2 : widF (σ 6 (v % 32)) ≤ 4 := by unfold widF; split <;> omega
  refine lv_iload_n hx hb dX2_rightness_0 rfl (lv_at hl 2 rfl) ?_
  refine vp_callSi (va_Run.run (va_runS (As := [.int (nI v)]) (rest := []) ⟨hx, hb, hml, hown, hts⟩ (c_X1_left l   v hv1) (va_cwS 1 hts gX2_rightness_X1_left rfl rfl rfl (by decide +kernel) ⟨Nat.le_of_ble_eq_true rfl, Nat.le_of_ble_eq_true rfl⟩) ⟨tt_blind, fun U hU hW => ⟨rfl, trivial⟩⟩ rfl rfl hl.1 rfl (lv_room (Nat.le_of_ble_eq_true rfl)) dX2_rightness_1 ⟨Nat.zero_le _, Nat.zero_le _⟩)) (fun r_1 hr_1 => ?_)
  refine n_to (w := nI (v % 32)) (hr_1.trans rfl) ?_
  refine lv_istore_n (lv' := [(3, .int (nI (v % 32))), (0, .ref (ad 5)), (1, .ref (ad 1)), (2, .int (nI v))]) hx hb dX2_rightness_4 rfl hl (by decide) rfl (fun ls hl => ?_)
  refine lv_iload_n hx hb dX2_rightness_5 rfl (lv_at hl 3 rfl) ?_
  refine vp_callSi (va_Run.run (va_runS (As := [.int (nI v)]) (rest := []) ⟨hx, hb, hml, hown, hts⟩ (c_X1_right l   v hv1) (va_cwS 1 hts gX2_rightness_X1_right rfl rfl rfl (by decide +kernel) ⟨Nat.le_of_ble_eq_true rfl, Nat.le_of_ble_eq_true rfl⟩) ⟨tt_blind, fun U hU hW => ⟨rfl, trivial⟩⟩ rfl rfl hl.1 rfl (lv_room (Nat.le_of_ble_eq_true rfl)) dX2_rightness_6 ⟨Nat.zero_le _, Nat.zero_le _⟩)) (fun r_2 hr_2 => ?_)
  refine n_to (w := nI (v / 32 % 32)) (hr_2.trans rfl) ?_
  refine lv_istore (lv' := [(4, .int (nI (v / 32 % 32))), (3, .int (nI (v % 32))), (0, .ref (ad 5)), (1, .ref (ad 1)), (2, .int (nI v))]) hx hb dX2_rightness_9 hl (by decide) rfl (fun ls hl => ?_)
  refine lv_iconst (v := nI 1) hx hb dX2_rightness_11 (by decide) ?_
  refine lv_istore (lv' := [(5, .int (nI 1)), (4, .int (nI (v / 32 % 32))), (3, .int (nI (v % 32))), (0, .ref (ad 5)), (1, .ref (ad 1)), (2, .int (nI v))]) hx hb dX2_rightness_12 hl (by decide) rfl (fun ls hl => ?_)
  refine lv_iconst (v := nI 0) hx hb dX2_rightness_14 (by decide) ?_
  refine lv_istore (lv' := [(6, .int (nI 0)), (5, .int (nI 1)), (4, .int (nI (v / 32 % 32))), (3, .int (nI (v % 32))), (0, .ref (ad 5)), (1, .ref (ad 1)), (2, .int (nI v))]) hx hb dX2_rightness_15 hl (by decide) rfl (fun ls hl => ?_)
  have lp17 : ∀ (n : Nat) (j : Nat) (al : Nat) (ls : Array Slot), (j + n = widF (σ 6 (v % 32))) → (al ≤ 2) → (alF σ v = rlF σ (σ 6 (v % 32)) (v % 32) (v / 32 % 32) n j al) → lv_has ls 8 [(6, .int (nI j)), (5, .int (nI al)), (4, .int (nI (v / 32 % 32))), (3, .int (nI (v % 32))), (0, .ref (ad 5)), (1, .ref (ad 1)), (2, .int (nI v))] → WR p l e rX2_rightness s m (([.ref (ad 5), .ref (ad 1), .int (nI v)] : List Value).toArray) below meth c s.heap (fun r => r = nI (rtF σ v)) (F0 m 17 ls []) := by
    intro n
    induction n with
    | zero =>
      intro j al ls hF1 hal hF hl
      have hF : alF σ v = al := hF
      refine lv_iload hx hb dX2_rightness_17 (lv_at hl 0 rfl) ?_
      refine lv_aload_n hx hb dX2_rightness_19 rfl (lv_at hl 5 rfl) ?_
      refine va_getN (D := D) (ci := 2) (v := .ref (ad 6)) (C := RX3) (T := TX3) (N := 5) hx hb hts in_X2_rightness_X3 hown hK hP 1 rfl rfl 0 (by decide) (hN.use 0 rfl) (fun _ h9 => h9) rfl dX2_rightness_20 ?_
      refine lv_iload_n hx hb dX2_rightness_23 rfl (lv_at hl 3 rfl) ?_
      refine n_ald hx hb hK hP 6 0 rfl rfl (i := v % 32) (by omega) (by decide) (v := nI (σ 6 (v % 32))) rfl dX2_rightness_24 ?_
      refine vp_callSi (va_Run.run (va_runS (As := [.int (nI (σ 6 (v % 32)))]) (rest := [.int (nI j)]) ⟨hx, hb, hml, hown, hts⟩ (c_X2_width l   (σ 6 (v % 32)) hs1) (va_cwS 1 hts gX2_rightness_X2_width rfl rfl rfl (by decide +kernel) ⟨Nat.le_of_ble_eq_true rfl, Nat.le_of_ble_eq_true rfl⟩) ⟨tt_blind, fun U hU hW => ⟨rfl, trivial⟩⟩ rfl rfl hl.1 rfl (lv_room (Nat.le_of_ble_eq_true rfl)) dX2_rightness_25 ⟨Nat.zero_le _, Nat.zero_le _⟩)) (fun r_3 hr_3 => ?_)
      refine n_to (w := nI (widF (σ 6 (v % 32)))) (hr_3.trans rfl) ?_
      refine n_icmp_ge hx hb (tgt := 87) (by omega) (by omega) dX2_rightness_28 (by decide) (fun c_28 => ?_) (fun c_28 => ?_)
      · refine lv_iload hx hb dX2_rightness_87 (lv_at hl 1 rfl) ?_
        refine lv_iconst (v := nI 2) hx hb dX2_rightness_89 (by decide) ?_
        refine q_icmp_eq hx hb (tgt := 100) (nI_eq (by omega) (by omega)) dX2_rightness_90 (by decide) (fun c_90 => ?_) (fun c_90 => ?_)
        · refine lv_iload hx hb dX2_rightness_100 (lv_at hl 1 rfl) ?_
          exact W.iret (v := nI al) hx hb hr (fun t ht hW => ⟨_, rfl, by first | (rw [rtF, hF]; simp [*]; done) | (exfalso; omega), ht⟩) no_locs dX2_rightness_102
        · refine lv_iload_n hx hb dX2_rightness_93 rfl (lv_at hl 6 rfl) ?_
          refine vp_callSi (va_Run.run (va_runS (As := [.int (nI v)]) (rest := []) ⟨hx, hb, hml, hown, hts⟩ (c_X1_saysSame l   v hv1) (va_cwS 1 hts gX2_rightness_X1_saysSame rfl rfl rfl (by decide +kernel) ⟨Nat.le_of_ble_eq_true rfl, Nat.le_of_ble_eq_true rfl⟩) ⟨tt_blind, fun U hU hW => ⟨rfl, trivial⟩⟩ rfl rfl hl.1 rfl (lv_room (Nat.le_of_ble_eq_true rfl)) dX2_rightness_94 ⟨Nat.zero_le _, Nat.zero_le _⟩)) (fun r_4 hr_4 => ?_)
          refine n_to (w := bI (saysB v)) (hr_4.trans rfl) ?_
          refine q_if_eq hx hb (tgt := 103) (bI_z) dX2_rightness_97 (by decide) (fun c_97 => ?_) (fun c_97 => ?_)
          · refine lv_iload hx hb dX2_rightness_103 (lv_at hl 1 rfl) ?_
            refine lv_iconst (v := nI 1) hx hb dX2_rightness_105 (by decide) ?_
            refine q_icmp_ne hx hb (tgt := 113) (nI_eq (by omega) (by omega)) dX2_rightness_106 (by decide) (fun c_106 => ?_) (fun c_106 => ?_)
            · refine lv_iconst (v := nI 1) hx hb dX2_rightness_113 (by decide) ?_
              exact W.iret (v := nI 1) hx hb hr (fun t ht hW => ⟨_, rfl, by first | (rw [rtF, hF]; simp [*]; done) | (exfalso; omega), ht⟩) no_locs dX2_rightness_114
            · refine lv_iconst (v := nI 0) hx hb dX2_rightness_109 (by decide) ?_
              refine lv_goto (tgt := 114) hx hb dX2_rightness_110 (by decide) ?_
              exact W.iret (v := nI 0) hx hb hr (fun t ht hW => ⟨_, rfl, by first | (rw [rtF, hF]; simp [*]; done) | (exfalso; omega), ht⟩) no_locs dX2_rightness_114
          · refine lv_iload hx hb dX2_rightness_100 (lv_at hl 1 rfl) ?_
            exact W.iret (v := nI al) hx hb hr (fun t ht hW => ⟨_, rfl, by first | (rw [rtF, hF]; simp [*]; done) | (exfalso; omega), ht⟩) no_locs dX2_rightness_102
      · omega
    | succ n ih17 =>
      intro j al ls hF1 hal hF hl
      refine lv_iload hx hb dX2_rightness_17 (lv_at hl 0 rfl) ?_
      refine lv_aload_n hx hb dX2_rightness_19 rfl (lv_at hl 5 rfl) ?_
      refine va_getN (D := D) (ci := 2) (v := .ref (ad 6)) (C := RX3) (T := TX3) (N := 5) hx hb hts in_X2_rightness_X3 hown hK hP 1 rfl rfl 0 (by decide) (hN.use 0 rfl) (fun _ h9 => h9) rfl dX2_rightness_20 ?_
      refine lv_iload_n hx hb dX2_rightness_23 rfl (lv_at hl 3 rfl) ?_
      refine n_ald hx hb hK hP 6 0 rfl rfl (i := v % 32) (by omega) (by decide) (v := nI (σ 6 (v % 32))) rfl dX2_rightness_24 ?_
      refine vp_callSi (va_Run.run (va_runS (As := [.int (nI (σ 6 (v % 32)))]) (rest := [.int (nI j)]) ⟨hx, hb, hml, hown, hts⟩ (c_X2_width l   (σ 6 (v % 32)) hs1) (va_cwS 1 hts gX2_rightness_X2_width rfl rfl rfl (by decide +kernel) ⟨Nat.le_of_ble_eq_true rfl, Nat.le_of_ble_eq_true rfl⟩) ⟨tt_blind, fun U hU hW => ⟨rfl, trivial⟩⟩ rfl rfl hl.1 rfl (lv_room (Nat.le_of_ble_eq_true rfl)) dX2_rightness_25 ⟨Nat.zero_le _, Nat.zero_le _⟩)) (fun r_5 hr_5 => ?_)
      refine n_to (w := nI (widF (σ 6 (v % 32)))) (hr_5.trans rfl) ?_
      refine n_icmp_ge hx hb (tgt := 87) (by omega) (by omega) dX2_rightness_28 (by decide) (fun c_28 => ?_) (fun c_28 => ?_)
      · omega
      · refine lv_iload hx hb dX2_rightness_31 (lv_at hl 1 rfl) ?_
        refine q_if_eq hx hb (tgt := 87) (nI_z (by omega)) dX2_rightness_33 (by decide) (fun c_33 => ?_) (fun c_33 => ?_)
        · have hF : alF σ v = al := by rw [hF]; simp [rlF, c_33]
          refine lv_iload hx hb dX2_rightness_87 (lv_at hl 1 rfl) ?_
          refine lv_iconst (v := nI 2) hx hb dX2_rightness_89 (by decide) ?_
          refine q_icmp_eq hx hb (tgt := 100) (nI_eq (by omega) (by omega)) dX2_rightness_90 (by decide) (fun c_90 => ?_) (fun c_90 => ?_)
          · refine lv_iload hx hb dX2_rightness_100 (lv_at hl 1 rfl) ?_
            exact W.iret (v := nI al) hx hb hr (fun t ht hW => ⟨_, rfl, by first | (rw [rtF, hF]; simp [*]; done) | (exfalso; omega), ht⟩) no_locs dX2_rightness_102
          · refine lv_iload_n hx hb dX2_rightness_93 rfl (lv_at hl 6 rfl) ?_
            refine vp_callSi (va_Run.run (va_runS (As := [.int (nI v)]) (rest := []) ⟨hx, hb, hml, hown, hts⟩ (c_X1_saysSame l   v hv1) (va_cwS 1 hts gX2_rightness_X1_saysSame rfl rfl rfl (by decide +kernel) ⟨Nat.le_of_ble_eq_true rfl, Nat.le_of_ble_eq_true rfl⟩) ⟨tt_blind, fun U hU hW => ⟨rfl, trivial⟩⟩ rfl rfl hl.1 rfl (lv_room (Nat.le_of_ble_eq_true rfl)) dX2_rightness_94 ⟨Nat.zero_le _, Nat.zero_le _⟩)) (fun r_6 hr_6 => ?_)
            refine n_to (w := bI (saysB v)) (hr_6.trans rfl) ?_
            refine q_if_eq hx hb (tgt := 103) (bI_z) dX2_rightness_97 (by decide) (fun c_97 => ?_) (fun c_97 => ?_)
            · refine lv_iload hx hb dX2_rightness_103 (lv_at hl 1 rfl) ?_
              refine lv_iconst (v := nI 1) hx hb dX2_rightness_105 (by decide) ?_
              refine q_icmp_ne hx hb (tgt := 113) (nI_eq (by omega) (by omega)) dX2_rightness_106 (by decide) (fun c_106 => ?_) (fun c_106 => ?_)
              · refine lv_iconst (v := nI 1) hx hb dX2_rightness_113 (by decide) ?_
                exact W.iret (v := nI 1) hx hb hr (fun t ht hW => ⟨_, rfl, by first | (rw [rtF, hF]; simp [*]; done) | (exfalso; omega), ht⟩) no_locs dX2_rightness_114
              · refine lv_iconst (v := nI 0) hx hb dX2_rightness_109 (by decide) ?_
                refine lv_goto (tgt := 114) hx hb dX2_rightness_110 (by decide) ?_
                exact W.iret (v := nI 0) hx hb hr (fun t ht hW => ⟨_, rfl, by first | (rw [rtF, hF]; simp [*]; done) | (exfalso; omega), ht⟩) no_locs dX2_rightness_114
            · refine lv_iload hx hb dX2_rightness_100 (lv_at hl 1 rfl) ?_
              exact W.iret (v := nI al) hx hb hr (fun t ht hW => ⟨_, rfl, by first | (rw [rtF, hF]; simp [*]; done) | (exfalso; omega), ht⟩) no_locs dX2_rightness_102
        · refine lv_aload_n hx hb dX2_rightness_36 rfl (lv_at hl 4 rfl) ?_
          refine lv_aload_n hx hb dX2_rightness_37 rfl (lv_at hl 5 rfl) ?_
          refine va_getN (D := D) (ci := 2) (v := .ref (ad 6)) (C := RX3) (T := TX3) (N := 5) hx hb hts in_X2_rightness_X3 hown hK hP 1 rfl rfl 0 (by decide) (hN.use 0 rfl) (fun _ h9 => h9) rfl dX2_rightness_38 ?_
          refine lv_iload_n hx hb dX2_rightness_41 rfl (lv_at hl 3 rfl) ?_
          refine n_ald hx hb hK hP 6 0 rfl rfl (i := v % 32) (by omega) (by decide) (v := nI (σ 6 (v % 32))) rfl dX2_rightness_42 ?_
          refine lv_aload_n hx hb dX2_rightness_43 rfl (lv_at hl 4 rfl) ?_
          refine va_get (D := D) (ci := 1) (v := .ref (ad 14)) (C := RX2) (T := TX2) (N := 2) hx hb hts in_X2_rightness_X2 hown hK hP 5 rfl rfl 0 (by decide) (hts _ lk_X2_rightness_11) (fun _ h9 => h9) rfl dX2_rightness_44 ?_
          refine lv_iload_n hx hb dX2_rightness_47 rfl (lv_at hl 3 rfl) ?_
          refine lv_iconst (v := nI 4) hx hb dX2_rightness_48 (by decide) ?_
          refine n_mul hx hb dX2_rightness_49 ?_
          refine lv_iload hx hb dX2_rightness_50 (lv_at hl 0 rfl) ?_
          refine n_add hx hb dX2_rightness_52 ?_
          refine n_ald hx hb hK hP 14 0 rfl rfl (i := ((v % 32) * 4) + j) (by omega) (by decide) (v := nI (σ 14 (((v % 32) * 4) + j))) rfl dX2_rightness_53 ?_
          refine lv_aload_n hx hb dX2_rightness_54 rfl (lv_at hl 4 rfl) ?_
          refine va_get (D := D) (ci := 1) (v := .ref (ad 14)) (C := RX2) (T := TX2) (N := 2) hx hb hts in_X2_rightness_X2 hown hK hP 5 rfl rfl 0 (by decide) (hts _ lk_X2_rightness_11) (fun _ h9 => h9) rfl dX2_rightness_55 ?_
          refine lv_iload hx hb dX2_rightness_58 (lv_at hl 2 rfl) ?_
          refine lv_iconst (v := nI 4) hx hb dX2_rightness_60 (by decide) ?_
          refine n_mul hx hb dX2_rightness_61 ?_
          refine lv_iload hx hb dX2_rightness_62 (lv_at hl 0 rfl) ?_
          refine n_add hx hb dX2_rightness_64 ?_
          refine n_ald hx hb hK hP 14 0 rfl rfl (i := ((v / 32 % 32) * 4) + j) (by omega) (by decide) (v := nI (σ 14 (((v / 32 % 32) * 4) + j))) rfl dX2_rightness_65 ?_
          refine vp_callSi (va_Run.run (va_runV (As := [.int (nI (σ 6 (v % 32))), .int (nI (σ 14 (((v % 32) * 4) + j))), .int (nI (σ 14 (((v / 32 % 32) * 4) + j)))]) (rest := []) ⟨hx, hb, hml, hown, hts⟩ (c_X2_partLikeness l D cI A ad σ (σ 6 (v % 32)) (σ 14 (v % 32 * 4 + j)) (σ 14 (v / 32 % 32 * 4 + j)) hI hs1 (hI.parts (by omega)) (hI.parts (by omega))) (cwV 3 hts gX2_rightness_X2_partLikeness rfl rfl rfl (by decide +kernel) ⟨Nat.le_of_ble_eq_true rfl, Nat.le_of_ble_eq_true rfl⟩) ⟨Wc.blind, va_recv hK hP (ci := 1) (q0 := 5) rfl rfl, fun U hU hW => ⟨rfl, Wc.go hP hK hD hN hZ hS hU hW⟩⟩ rfl rfl hl.1 rfl (lv_room (Nat.le_of_ble_eq_true rfl)) dX2_rightness_66 ⟨Nat.zero_le _, Nat.zero_le _⟩)) (fun r_7 hr_7 => ?_)
          refine n_to (w := nI (plF σ (σ 6 (v % 32)) (σ 14 (v % 32 * 4 + j)) (σ 14 (v / 32 % 32 * 4 + j)))) (hr_7.trans rfl) ?_
          refine lv_istore (lv' := [(7, .int (nI (plF σ (σ 6 (v % 32)) (σ 14 (v % 32 * 4 + j)) (σ 14 (v / 32 % 32 * 4 + j))))), (6, .int (nI j)), (5, .int (nI al)), (4, .int (nI (v / 32 % 32))), (3, .int (nI (v % 32))), (0, .ref (ad 5)), (1, .ref (ad 1)), (2, .int (nI v))]) hx hb dX2_rightness_69 hl (by decide) rfl (fun ls hl => ?_)
          have hpl := @plF_le σ (σ 6 (v % 32)) (σ 14 (v % 32 * 4 + j)) (σ 14 (v / 32 % 32 * 4 + j))
          refine lv_iload hx hb dX2_rightness_71 (lv_at hl 0 rfl) ?_
          refine lv_iconst (v := nI 1) hx hb dX2_rightness_73 (by decide) ?_
          refine q_icmp_eq hx hb (tgt := 81) (nI_eq (by omega) (by omega)) dX2_rightness_74 (by decide) (fun c_74 => ?_) (fun c_74 => ?_)
          · refine lv_iinc (v := nI (j + 1)) (lv' := [(6, .int (nI (j + 1))), (7, .int (nI (plF σ (σ 6 (v % 32)) (σ 14 (v % 32 * 4 + j)) (σ 14 (v / 32 % 32 * 4 + j))))), (5, .int (nI al)), (4, .int (nI (v / 32 % 32))), (3, .int (nI (v % 32))), (0, .ref (ad 5)), (1, .ref (ad 1)), (2, .int (nI v))]) hx hb dX2_rightness_81 hl (k := 1) rfl (nI_add _ _) (by decide) rfl (fun ls hl => ?_)
            refine lv_goto (tgt := 17) hx hb dX2_rightness_84 (by decide) ?_
            exact ih17 (j + 1) al  _  (by omega) (by first | exact hal | exact plF_le) (by rw [hF]; simp [rlF, *]) (lv_sub hl [0, 2, 3, 4, 5, 6, 7] rfl)
          · refine lv_iload hx hb dX2_rightness_77 (lv_at hl 0 rfl) ?_
            refine lv_istore (lv' := [(5, .int (nI (plF σ (σ 6 (v % 32)) (σ 14 (v % 32 * 4 + j)) (σ 14 (v / 32 % 32 * 4 + j))))), (7, .int (nI (plF σ (σ 6 (v % 32)) (σ 14 (v % 32 * 4 + j)) (σ 14 (v / 32 % 32 * 4 + j))))), (6, .int (nI j)), (4, .int (nI (v / 32 % 32))), (3, .int (nI (v % 32))), (0, .ref (ad 5)), (1, .ref (ad 1)), (2, .int (nI v))]) hx hb dX2_rightness_79 hl (by decide) rfl (fun ls hl => ?_)
            refine lv_iinc (v := nI (j + 1)) (lv' := [(6, .int (nI (j + 1))), (5, .int (nI (plF σ (σ 6 (v % 32)) (σ 14 (v % 32 * 4 + j)) (σ 14 (v / 32 % 32 * 4 + j))))), (7, .int (nI (plF σ (σ 6 (v % 32)) (σ 14 (v % 32 * 4 + j)) (σ 14 (v / 32 % 32 * 4 + j))))), (4, .int (nI (v / 32 % 32))), (3, .int (nI (v % 32))), (0, .ref (ad 5)), (1, .ref (ad 1)), (2, .int (nI v))]) hx hb dX2_rightness_81 hl (k := 2) rfl (nI_add _ _) (by decide) rfl (fun ls hl => ?_)
            refine lv_goto (tgt := 17) hx hb dX2_rightness_84 (by decide) ?_
            exact ih17 (j + 1) (plF σ (σ 6 (v % 32)) (σ 14 (v % 32 * 4 + j)) (σ 14 (v / 32 % 32 * 4 + j)))  _  (by omega) (by first | exact hal | exact plF_le) (by rw [hF]; simp [rlF, *]) (lv_sub hl [0, 1, 3, 4, 5, 6, 7] rfl)
  exact lp17 (widF (σ 6 (v % 32))) 0 1  _ (by omega) (by omega) (rfl) (lv_sub hl [0, 1, 2, 3, 4, 5, 6] rfl)
def rX2_holding : Room := { frames := 2, cells := 0, slots := 0, locals := 50 }
set_option maxHeartbeats 4000000 in
set_option maxRecDepth 100000 in
theorem c_X2_holding (l : Launch) (D : va_G) (cI : ClassId) (A : Nat → Prop) (ad : Nat → Nat) (σ : Nat → Nat → Nat) (cl : Nat) (hI : IC σ) (hcl : cl < 11) : Met l yX2_holding wsX2_holding rX2_holding (va_Pc [.ref (ad 5), .ref (ad 1), .ref (ad 4), .int (nI cl)] (Wc D cI A ad σ)) (vp_Si (fun r => r = nI (holdF σ cl (σ 13 cl) 0 0))) 0 0 (fun _ => False) := by
  refine Met.ofW (cc := cX2_holding) (maxL := 7) (ret := (some .int)) (by decide) rfl ?_
  intro p e s m args below meth c s₁ B hml hv
  obtain ⟨rfl, hP, hK, hD, hN, hZ⟩ := hv
  have hx := B.exec
  have hb := B.bytes
  have hr := B.returns
  have hts := atoms_spec (ws := wsX2_holding) B.pre
  have hown : s.vm.findClass RX2 = some m.cls := findClass_of_methodNamed B.named
  have hlocks := B.notSynchronized
  have hS : va_S A s.heap s.heap [] := va_S.rf
  have hl := lv_entry ([.ref (ad 5), .ref (ad 1), .ref (ad 4), .int (nI cl)]) (n := 7) (Nat.le_of_ble_eq_true rfl)
  rw [lg_entry_eq]
  generalize (lg_sl ([.ref (ad 5), .ref (ad 1), .ref (ad 4), .int (nI cl)]) ++ List.replicate (7 - (lg_sl ([.ref (ad 5), .ref (ad 1), .ref (ad 4), .int (nI cl)])).length) Slot.unset).toArray = ls at hl ⊢
  have hl : lv_has ls 7 [(0, .ref (ad 5)), (1, .ref (ad 1)), (2, .ref (ad 4)), (3, .int (nI cl))] := hl
  have hsz := hI.asize hcl
  refine lv_iconst (v := nI 0) hx hb dX2_holding_0 (by decide) ?_
  refine lv_istore (lv' := [(4, .int (nI 0)), (0, .ref (ad 5)), (1, .ref (ad 1)), (2, .ref (ad 4)), (3, .int (nI cl))]) hx hb dX2_holding_1 hl (by decide) rfl (fun ls hl => ?_)
  refine lv_iconst (v := nI 0) hx hb dX2_holding_3 (by decide) ?_
  refine lv_istore (lv' := [(5, .int (nI 0)), (4, .int (nI 0)), (0, .ref (ad 5)), (1, .ref (ad 1)), (2, .ref (ad 4)), (3, .int (nI cl))]) hx hb dX2_holding_4 hl (by decide) rfl (fun ls hl => ?_)
  have lp6 : ∀ (n : Nat) (k : Nat) (an : Nat) (ls : Array Slot), (k + n = σ 13 cl) → (nI (holdF σ cl (σ 13 cl) 0 0) = nI (holdF σ cl n k an)) → lv_has ls 7 [(5, .int (nI k)), (4, .int (nI an)), (0, .ref (ad 5)), (1, .ref (ad 1)), (2, .ref (ad 4)), (3, .int (nI cl))] → WR p l e rX2_holding s m (([.ref (ad 5), .ref (ad 1), .ref (ad 4), .int (nI cl)] : List Value).toArray) below meth c s.heap (fun r => r = nI (holdF σ cl (σ 13 cl) 0 0)) (F0 m 6 ls []) := by
    intro n
    induction n with
    | zero =>
      intro k an ls hF1 hF hl
      refine lv_iload hx hb dX2_holding_6 (lv_at hl 0 rfl) ?_
      refine lv_aload_n hx hb dX2_holding_8 rfl (lv_at hl 4 rfl) ?_
      refine lv_iload_n hx hb dX2_holding_9 rfl (lv_at hl 5 rfl) ?_
      refine vp_callSi (va_Run.run (va_runV (As := [.int (nI cl)]) (rest := [.int (nI k)]) ⟨hx, hb, hml, hown, hts⟩ (c_X0_sizeOf l D cI A ad σ cl hcl) (cwV 1 hts gX2_holding_X0_sizeOf rfl rfl rfl (by decide +kernel) ⟨Nat.le_of_ble_eq_true rfl, Nat.le_of_ble_eq_true rfl⟩) ⟨Wc.blind, va_recv hK hP (ci := 0) (q0 := 4) rfl rfl, fun U hU hW => ⟨rfl, Wc.go hP hK hD hN hZ hS hU hW⟩⟩ rfl rfl hl.1 rfl (lv_room (Nat.le_of_ble_eq_true rfl)) dX2_holding_10 ⟨Nat.zero_le _, Nat.zero_le _⟩)) (fun r_1 hr_1 => ?_)
      refine n_to (w := nI (σ 13 cl)) (hr_1.trans rfl) ?_
      refine n_icmp_ge hx hb (tgt := 53) (by omega) (by omega) dX2_holding_13 (by decide) (fun c_13 => ?_) (fun c_13 => ?_)
      · refine lv_iload hx hb dX2_holding_53 (lv_at hl 1 rfl) ?_
        exact W.iret (v := nI an) hx hb hr (fun t ht hW => ⟨_, rfl, by rw [hF]; rfl, ht⟩) no_locs dX2_holding_55
      · omega
    | succ n ih6 =>
      intro k an ls hF1 hF hl
      refine lv_iload hx hb dX2_holding_6 (lv_at hl 0 rfl) ?_
      refine lv_aload_n hx hb dX2_holding_8 rfl (lv_at hl 4 rfl) ?_
      refine lv_iload_n hx hb dX2_holding_9 rfl (lv_at hl 5 rfl) ?_
      refine vp_callSi (va_Run.run (va_runV (As := [.int (nI cl)]) (rest := [.int (nI k)]) ⟨hx, hb, hml, hown, hts⟩ (c_X0_sizeOf l D cI A ad σ cl hcl) (cwV 1 hts gX2_holding_X0_sizeOf rfl rfl rfl (by decide +kernel) ⟨Nat.le_of_ble_eq_true rfl, Nat.le_of_ble_eq_true rfl⟩) ⟨Wc.blind, va_recv hK hP (ci := 0) (q0 := 4) rfl rfl, fun U hU hW => ⟨rfl, Wc.go hP hK hD hN hZ hS hU hW⟩⟩ rfl rfl hl.1 rfl (lv_room (Nat.le_of_ble_eq_true rfl)) dX2_holding_10 ⟨Nat.zero_le _, Nat.zero_le _⟩)) (fun r_2 hr_2 => ?_)
      refine n_to (w := nI (σ 13 cl)) (hr_2.trans rfl) ?_
      refine n_icmp_ge hx hb (tgt := 53) (by omega) (by omega) dX2_holding_13 (by decide) (fun c_13 => ?_) (fun c_13 => ?_)
      · omega
      · refine lv_aload_n hx hb dX2_holding_16 rfl (lv_at hl 2 rfl) ?_
        refine lv_aload_n hx hb dX2_holding_17 rfl (lv_at hl 3 rfl) ?_
        refine lv_aload_n hx hb dX2_holding_18 rfl (lv_at hl 4 rfl) ?_
        refine lv_iload_n hx hb dX2_holding_19 rfl (lv_at hl 5 rfl) ?_
        refine lv_iload hx hb dX2_holding_20 (lv_at hl 0 rfl) ?_
        refine vp_callSi (va_Run.run (va_runV (As := [.int (nI cl), .int (nI k)]) (rest := [.ref (ad 1), .ref (ad 5)]) ⟨hx, hb, hml, hown, hts⟩ (c_X0_at l D cI A ad σ cl k (by omega)) (cwV 2 hts gX2_holding_X0_at rfl rfl rfl (by decide +kernel) ⟨Nat.le_of_ble_eq_true rfl, Nat.le_of_ble_eq_true rfl⟩) ⟨Wc.blind, va_recv hK hP (ci := 0) (q0 := 4) rfl rfl, fun U hU hW => ⟨rfl, Wc.go hP hK hD hN hZ hS hU hW⟩⟩ rfl rfl hl.1 rfl (lv_room (Nat.le_of_ble_eq_true rfl)) dX2_holding_22 ⟨Nat.zero_le _, Nat.zero_le _⟩)) (fun r_3 hr_3 => ?_)
        refine n_to (w := nI (σ 12 (cl * 3 + k))) (hr_3.trans rfl) ?_
        refine vp_callSi (va_Run.run (va_runV (As := [.ref (ad 1), .int (nI (σ 12 (cl * 3 + k)))]) (rest := []) ⟨hx, hb, hml, hown, hts⟩ (c_X2_rightness l D cI A ad σ (σ 12 (cl * 3 + k)) hI (hI.alit (by omega))) (cwV 2 hts gX2_holding_X2_rightness rfl rfl rfl (by decide +kernel) ⟨Nat.le_of_ble_eq_true rfl, Nat.le_of_ble_eq_true rfl⟩) ⟨Wc.blind, va_recv hK hP (ci := 1) (q0 := 5) rfl rfl, fun U hU hW => ⟨rfl, Wc.go hP hK hD hN hZ hS hU hW⟩⟩ rfl rfl hl.1 rfl (lv_room (Nat.le_of_ble_eq_true rfl)) dX2_holding_25 ⟨Nat.zero_le _, Nat.zero_le _⟩)) (fun r_4 hr_4 => ?_)
        refine n_to (w := nI (rtF σ (σ 12 (cl * 3 + k)))) (hr_4.trans rfl) ?_
        refine lv_istore (lv' := [(6, .int (nI (rtF σ (σ 12 (cl * 3 + k))))), (5, .int (nI k)), (4, .int (nI an)), (0, .ref (ad 5)), (1, .ref (ad 1)), (2, .ref (ad 4)), (3, .int (nI cl))]) hx hb dX2_holding_28 hl (by decide) rfl (fun ls hl => ?_)
        have hrt := @rtF_le σ (σ 12 (cl * 3 + k))
        refine lv_iload hx hb dX2_holding_30 (lv_at hl 0 rfl) ?_
        refine lv_iconst (v := nI 1) hx hb dX2_holding_32 (by decide) ?_
        refine q_icmp_ne hx hb (tgt := 38) (nI_eq (by omega) (by omega)) dX2_holding_33 (by decide) (fun c_33 => ?_) (fun c_33 => ?_)
        · refine lv_iload hx hb dX2_holding_38 (lv_at hl 0 rfl) ?_
          refine lv_iconst (v := nI 2) hx hb dX2_holding_40 (by decide) ?_
          refine q_icmp_ne hx hb (tgt := 47) (nI_eq (by omega) (by omega)) dX2_holding_41 (by decide) (fun c_41 => ?_) (fun c_41 => ?_)
          · refine lv_iinc (v := nI (k + 1)) (lv' := [(5, .int (nI (k + 1))), (6, .int (nI (rtF σ (σ 12 (cl * 3 + k))))), (4, .int (nI an)), (0, .ref (ad 5)), (1, .ref (ad 1)), (2, .ref (ad 4)), (3, .int (nI cl))]) hx hb dX2_holding_47 hl (k := 1) rfl (nI_add _ _) (by decide) rfl (fun ls hl => ?_)
            refine lv_goto (tgt := 6) hx hb dX2_holding_50 (by decide) ?_
            exact ih6 (k + 1) an  _  (by omega) (by rw [hF]; simp [holdF, *]) (lv_sub hl [0, 2, 3, 4, 5, 6] rfl)
          · refine lv_iconst (v := nI 2) hx hb dX2_holding_44 (by decide) ?_
            refine lv_istore (lv' := [(4, .int (nI 2)), (6, .int (nI (rtF σ (σ 12 (cl * 3 + k))))), (5, .int (nI k)), (0, .ref (ad 5)), (1, .ref (ad 1)), (2, .ref (ad 4)), (3, .int (nI cl))]) hx hb dX2_holding_45 hl (by decide) rfl (fun ls hl => ?_)
            refine lv_iinc (v := nI (k + 1)) (lv' := [(5, .int (nI (k + 1))), (4, .int (nI 2)), (6, .int (nI (rtF σ (σ 12 (cl * 3 + k))))), (0, .ref (ad 5)), (1, .ref (ad 1)), (2, .ref (ad 4)), (3, .int (nI cl))]) hx hb dX2_holding_47 hl (k := 2) rfl (nI_add _ _) (by decide) rfl (fun ls hl => ?_)
            refine lv_goto (tgt := 6) hx hb dX2_holding_50 (by decide) ?_
            exact ih6 (k + 1) 2  _  (by omega) (by rw [hF]; simp [holdF, *]) (lv_sub hl [0, 1, 3, 4, 5, 6] rfl)
        · refine lv_iconst (v := nI 1) hx hb dX2_holding_36 (by decide) ?_
          exact W.iret (v := nI 1) hx hb hr (fun t ht hW => ⟨_, rfl, by rw [hF]; simp [holdF, *], ht⟩) no_locs dX2_holding_37
  exact lp6 (σ 13 cl) 0 0  _ (by omega) (rfl) (lv_sub hl [0, 1, 2, 3, 4, 5] rfl)
theorem in_X2_openSpotOf_X3 : ∀ w ∈ wsX30, w ∈ wsX2_openSpotOf := by decide +kernel
theorem in_X2_openSpotOf_X2 : ∀ w ∈ wsX20, w ∈ wsX2_openSpotOf := by decide +kernel
theorem lk_X2_openSpotOf_11 : Cond.fieldLink RX2 11 "ArrayClaims$ReadingSearch" "parts" "[I" ∈ wsX2_openSpotOf := by decide +kernel
theorem lk_X2_openSpotOf_15 : Cond.fieldLink RX2 15 "ArrayClaims$ReadingSearch" "chosen" "[I" ∈ wsX2_openSpotOf := by decide +kernel
def rX2_openSpotOf : Room := { frames := 1, cells := 0, slots := 0, locals := 23 }
set_option maxHeartbeats 4000000 in
set_option maxRecDepth 100000 in
theorem c_X2_openSpotOf (l : Launch) (D : va_G) (cI : ClassId) (A : Nat → Prop) (ad : Nat → Nat) (σ : Nat → Nat → Nat) (t u : Nat) (hI : IC σ) (ht0 : t < 24) (hu0 : u < 24) : Met l yX2_openSpotOf wsX2_openSpotOf rX2_openSpotOf (va_Pc [.ref (ad 5), .ref (ad 1), .int (nI t), .int (nI u)] (Wc D cI A ad σ)) (vp_Si (fun r => r = mI (osoF σ (σ 6 t) t u (widF (σ 6 t)) 0))) 0 0 (fun _ => False) := by
  refine Met.ofW (cc := cX2_openSpotOf) (maxL := 8) (ret := (some .int)) (by decide) rfl ?_
  intro p e s m args below meth c s₁ B hml hv
  obtain ⟨rfl, hP, hK, hD, hN, hZ⟩ := hv
  have hx := B.exec
  have hb := B.bytes
  have hr := B.returns
  have hts := atoms_spec (ws := wsX2_openSpotOf) B.pre
  have hown : s.vm.findClass RX2 = some m.cls := findClass_of_methodNamed B.named
  have hlocks := B.notSynchronized
  have hS : va_S A s.heap s.heap [] := va_S.rf
  have hl := lv_entry ([.ref (ad 5), .ref (ad 1), .int (nI t), .int (nI u)]) (n := 8) (Nat.le_of_ble_eq_true rfl)
  rw [lg_entry_eq]
  generalize (lg_sl ([.ref (ad 5), .ref (ad 1), .int (nI t), .int (nI u)]) ++ List.replicate (8 - (lg_sl ([.ref (ad 5), .ref (ad 1), .int (nI t), .int (nI u)])).length) Slot.unset).toArray = ls at hl ⊢
  have hl : lv_has ls 8 [(0, .ref (ad 5)), (1, .ref (ad 1)), (2, .int (nI t)), (3, .int (nI u))] := hl
  have hs1 := hI.sorts ht0
  have hs2 : widF (σ 6 t) ≤ 4 := by unfold widF; split <;> omega
  refine lv_aload_n hx hb dX2_openSpotOf_0 rfl (lv_at hl 1 rfl) ?_
  refine va_getN (D := D) (ci := 2) (v := .ref (ad 6)) (C := RX3) (T := TX3) (N := 5) hx hb hts in_X2_openSpotOf_X3 hown hK hP 1 rfl rfl 0 (by decide) (hN.use 0 rfl) (fun _ h9 => h9) rfl dX2_openSpotOf_1 ?_
  refine lv_iload_n hx hb dX2_openSpotOf_4 rfl (lv_at hl 2 rfl) ?_
  refine n_ald hx hb hK hP 6 0 rfl rfl (i := t) (by omega) (by decide) (v := nI (σ 6 t)) rfl dX2_openSpotOf_5 ?_
  refine lv_istore (lv' := [(4, .int (nI (σ 6 t))), (0, .ref (ad 5)), (1, .ref (ad 1)), (2, .int (nI t)), (3, .int (nI u))]) hx hb dX2_openSpotOf_6 hl (by decide) rfl (fun ls hl => ?_)
  refine lv_iconst (v := nI 0) hx hb dX2_openSpotOf_8 (by decide) ?_
  refine lv_istore (lv' := [(5, .int (nI 0)), (4, .int (nI (σ 6 t))), (0, .ref (ad 5)), (1, .ref (ad 1)), (2, .int (nI t)), (3, .int (nI u))]) hx hb dX2_openSpotOf_9 hl (by decide) rfl (fun ls hl => ?_)
  have lp11 : ∀ (n : Nat) (j : Nat) (ls : Array Slot), (j + n = widF (σ 6 t)) → (mI (osoF σ (σ 6 t) t u (widF (σ 6 t)) 0) = mI (osoF σ (σ 6 t) t u n j)) → lv_has ls 8 [(5, .int (nI j)), (4, .int (nI (σ 6 t))), (0, .ref (ad 5)), (1, .ref (ad 1)), (2, .int (nI t)), (3, .int (nI u))] → WR p l e rX2_openSpotOf s m (([.ref (ad 5), .ref (ad 1), .int (nI t), .int (nI u)] : List Value).toArray) below meth c s.heap (fun r => r = mI (osoF σ (σ 6 t) t u (widF (σ 6 t)) 0)) (F0 m 11 ls []) := by
    intro n
    induction n with
    | zero =>
      intro j ls hF1 hF hl
      refine lv_iload hx hb dX2_openSpotOf_11 (lv_at hl 0 rfl) ?_
      refine lv_iload hx hb dX2_openSpotOf_13 (lv_at hl 1 rfl) ?_
      refine vp_callSi (va_Run.run (va_runS (As := [.int (nI (σ 6 t))]) (rest := [.int (nI j)]) ⟨hx, hb, hml, hown, hts⟩ (c_X2_width l   (σ 6 t) hs1) (va_cwS 1 hts gX2_openSpotOf_X2_width rfl rfl rfl (by decide +kernel) ⟨Nat.le_of_ble_eq_true rfl, Nat.le_of_ble_eq_true rfl⟩) ⟨tt_blind, fun U hU hW => ⟨rfl, trivial⟩⟩ rfl rfl hl.1 rfl (lv_room (Nat.le_of_ble_eq_true rfl)) dX2_openSpotOf_15 ⟨Nat.zero_le _, Nat.zero_le _⟩)) (fun r_1 hr_1 => ?_)
      refine n_to (w := nI (widF (σ 6 t))) (hr_1.trans rfl) ?_
      refine n_icmp_ge hx hb (tgt := 86) (by omega) (by omega) dX2_openSpotOf_18 (by decide) (fun c_18 => ?_) (fun c_18 => ?_)
      · refine lv_iconst (v := mI 0) hx hb dX2_openSpotOf_86 (by decide) ?_
        exact W.iret (v := mI 0) hx hb hr (fun t ht hW => ⟨_, rfl, by rw [hF]; rfl, ht⟩) no_locs dX2_openSpotOf_87
      · omega
    | succ n ih11 =>
      intro j ls hF1 hF hl
      refine lv_iload hx hb dX2_openSpotOf_11 (lv_at hl 0 rfl) ?_
      refine lv_iload hx hb dX2_openSpotOf_13 (lv_at hl 1 rfl) ?_
      refine vp_callSi (va_Run.run (va_runS (As := [.int (nI (σ 6 t))]) (rest := [.int (nI j)]) ⟨hx, hb, hml, hown, hts⟩ (c_X2_width l   (σ 6 t) hs1) (va_cwS 1 hts gX2_openSpotOf_X2_width rfl rfl rfl (by decide +kernel) ⟨Nat.le_of_ble_eq_true rfl, Nat.le_of_ble_eq_true rfl⟩) ⟨tt_blind, fun U hU hW => ⟨rfl, trivial⟩⟩ rfl rfl hl.1 rfl (lv_room (Nat.le_of_ble_eq_true rfl)) dX2_openSpotOf_15 ⟨Nat.zero_le _, Nat.zero_le _⟩)) (fun r_2 hr_2 => ?_)
      refine n_to (w := nI (widF (σ 6 t))) (hr_2.trans rfl) ?_
      refine n_icmp_ge hx hb (tgt := 86) (by omega) (by omega) dX2_openSpotOf_18 (by decide) (fun c_18 => ?_) (fun c_18 => ?_)
      · omega
      · have hp1 := hI.parts (j := t * 4 + j) (by omega)
        have hp2 := hI.parts (j := u * 4 + j) (by omega)
        have hch := hI.chosen hp1
        have hpl := @plF_le σ (σ 6 t) (σ 14 (t * 4 + j)) (σ 14 (u * 4 + j))
        refine lv_aload_n hx hb dX2_openSpotOf_21 rfl (lv_at hl 2 rfl) ?_
        refine va_get (D := D) (ci := 1) (v := .ref (ad 14)) (C := RX2) (T := TX2) (N := 2) hx hb hts in_X2_openSpotOf_X2 hown hK hP 5 rfl rfl 0 (by decide) (hts _ lk_X2_openSpotOf_11) (fun _ h9 => h9) rfl dX2_openSpotOf_22 ?_
        refine lv_iload_n hx hb dX2_openSpotOf_25 rfl (lv_at hl 4 rfl) ?_
        refine lv_iconst (v := nI 4) hx hb dX2_openSpotOf_26 (by decide) ?_
        refine n_mul hx hb dX2_openSpotOf_27 ?_
        refine lv_iload hx hb dX2_openSpotOf_28 (lv_at hl 0 rfl) ?_
        refine n_add hx hb dX2_openSpotOf_30 ?_
        refine n_ald hx hb hK hP 14 0 rfl rfl (i := (t * 4) + j) (by omega) (by decide) (v := nI (σ 14 ((t * 4) + j))) rfl dX2_openSpotOf_31 ?_
        refine lv_istore (lv' := [(6, .int (nI (σ 14 ((t * 4) + j)))), (5, .int (nI j)), (4, .int (nI (σ 6 t))), (0, .ref (ad 5)), (1, .ref (ad 1)), (2, .int (nI t)), (3, .int (nI u))]) hx hb dX2_openSpotOf_32 hl (by decide) rfl (fun ls hl => ?_)
        refine lv_aload_n hx hb dX2_openSpotOf_34 rfl (lv_at hl 3 rfl) ?_
        refine va_get (D := D) (ci := 1) (v := .ref (ad 14)) (C := RX2) (T := TX2) (N := 2) hx hb hts in_X2_openSpotOf_X2 hown hK hP 5 rfl rfl 0 (by decide) (hts _ lk_X2_openSpotOf_11) (fun _ h9 => h9) rfl dX2_openSpotOf_35 ?_
        refine lv_iload_n hx hb dX2_openSpotOf_38 rfl (lv_at hl 6 rfl) ?_
        refine lv_iconst (v := nI 4) hx hb dX2_openSpotOf_39 (by decide) ?_
        refine n_mul hx hb dX2_openSpotOf_40 ?_
        refine lv_iload hx hb dX2_openSpotOf_41 (lv_at hl 1 rfl) ?_
        refine n_add hx hb dX2_openSpotOf_43 ?_
        refine n_ald hx hb hK hP 14 0 rfl rfl (i := (u * 4) + j) (by omega) (by decide) (v := nI (σ 14 ((u * 4) + j))) rfl dX2_openSpotOf_44 ?_
        refine lv_istore (lv' := [(7, .int (nI (σ 14 ((u * 4) + j)))), (6, .int (nI (σ 14 ((t * 4) + j)))), (5, .int (nI j)), (4, .int (nI (σ 6 t))), (0, .ref (ad 5)), (1, .ref (ad 1)), (2, .int (nI t)), (3, .int (nI u))]) hx hb dX2_openSpotOf_45 hl (by decide) rfl (fun ls hl => ?_)
        refine lv_aload_n hx hb dX2_openSpotOf_47 rfl (lv_at hl 4 rfl) ?_
        refine lv_iload hx hb dX2_openSpotOf_48 (lv_at hl 3 rfl) ?_
        refine lv_iload hx hb dX2_openSpotOf_50 (lv_at hl 1 rfl) ?_
        refine lv_iload hx hb dX2_openSpotOf_52 (lv_at hl 0 rfl) ?_
        refine vp_callSi (va_Run.run (va_runV (As := [.int (nI (σ 6 t)), .int (nI (σ 14 ((t * 4) + j))), .int (nI (σ 14 ((u * 4) + j)))]) (rest := []) ⟨hx, hb, hml, hown, hts⟩ (c_X2_partLikeness l D cI A ad σ (σ 6 t) (σ 14 (t * 4 + j)) (σ 14 (u * 4 + j)) hI hs1 hp1 hp2) (cwV 3 hts gX2_openSpotOf_X2_partLikeness rfl rfl rfl (by decide +kernel) ⟨Nat.le_of_ble_eq_true rfl, Nat.le_of_ble_eq_true rfl⟩) ⟨Wc.blind, va_recv hK hP (ci := 1) (q0 := 5) rfl rfl, fun U hU hW => ⟨rfl, Wc.go hP hK hD hN hZ hS hU hW⟩⟩ rfl rfl hl.1 rfl (lv_room (Nat.le_of_ble_eq_true rfl)) dX2_openSpotOf_54 ⟨Nat.zero_le _, Nat.zero_le _⟩)) (fun r_3 hr_3 => ?_)
        refine n_to (w := nI (plF σ (σ 6 t) (σ 14 (t * 4 + j)) (σ 14 (u * 4 + j)))) (hr_3.trans rfl) ?_
        refine lv_iconst (v := nI 2) hx hb dX2_openSpotOf_57 (by decide) ?_
        refine q_icmp_ne hx hb (tgt := 80) (nI_eq (by omega) (by omega)) dX2_openSpotOf_58 (by decide) (fun c_58 => ?_) (fun c_58 => ?_)
        · refine lv_iinc (v := nI (j + 1)) (lv' := [(5, .int (nI (j + 1))), (7, .int (nI (σ 14 ((u * 4) + j)))), (6, .int (nI (σ 14 ((t * 4) + j)))), (4, .int (nI (σ 6 t))), (0, .ref (ad 5)), (1, .ref (ad 1)), (2, .int (nI t)), (3, .int (nI u))]) hx hb dX2_openSpotOf_80 hl (k := 2) rfl (nI_add _ _) (by decide) rfl (fun ls hl => ?_)
          refine lv_goto (tgt := 11) hx hb dX2_openSpotOf_83 (by decide) ?_
          exact ih11 (j + 1)  _  (by omega) (by rw [hF]; simp [osoF, *]) (lv_sub hl [0, 3, 4, 5, 6, 7] rfl)
        · refine lv_aload_n hx hb dX2_openSpotOf_61 rfl (lv_at hl 4 rfl) ?_
          refine va_get (D := D) (ci := 1) (v := .ref (ad 15)) (C := RX2) (T := TX2) (N := 2) hx hb hts in_X2_openSpotOf_X2 hown hK hP 5 rfl rfl 1 (by decide) (hts _ lk_X2_openSpotOf_15) (fun _ h9 => h9) rfl dX2_openSpotOf_62 ?_
          refine lv_iload hx hb dX2_openSpotOf_65 (lv_at hl 1 rfl) ?_
          refine n_ald hx hb hK hP 15 0 rfl rfl (i := σ 14 ((t * 4) + j)) (by omega) (by decide) (v := mI (σ 15 (σ 14 ((t * 4) + j)))) rfl dX2_openSpotOf_67 ?_
          refine lv_iconst (v := mI 0) hx hb dX2_openSpotOf_68 (by decide) ?_
          refine q_icmp_ne hx hb (tgt := 77) (mI_eq (by omega) (by omega)) dX2_openSpotOf_69 (by decide) (fun c_69 => ?_) (fun c_69 => ?_)
          · refine lv_iload hx hb dX2_openSpotOf_77 (lv_at hl 0 rfl) ?_
            exact W.iret (v := nI (σ 14 ((u * 4) + j))) hx hb hr (fun t ht hW => ⟨_, rfl, by rw [hF]; simp [osoF, *, mI_succ], ht⟩) no_locs dX2_openSpotOf_79
          · refine lv_iload hx hb dX2_openSpotOf_72 (lv_at hl 1 rfl) ?_
            refine lv_goto (tgt := 79) hx hb dX2_openSpotOf_74 (by decide) ?_
            exact W.iret (v := nI (σ 14 ((t * 4) + j))) hx hb hr (fun t ht hW => ⟨_, rfl, by rw [hF]; simp [osoF, *, mI_succ], ht⟩) no_locs dX2_openSpotOf_79
  exact lp11 (widF (σ 6 t)) 0  _ (by omega) (rfl) (lv_sub hl [0, 1, 2, 3, 4, 5] rfl)
def rX2_openSpot : Room := { frames := 2, cells := 0, slots := 0, locals := 50 }
set_option maxHeartbeats 4000000 in
set_option maxRecDepth 100000 in
theorem c_X2_openSpot (l : Launch) (D : va_G) (cI : ClassId) (A : Nat → Prop) (ad : Nat → Nat) (σ : Nat → Nat → Nat) (cl : Nat) (hI : IC σ) (hcl : cl < 11) : Met l yX2_openSpot wsX2_openSpot rX2_openSpot (va_Pc [.ref (ad 5), .ref (ad 1), .ref (ad 4), .int (nI cl)] (Wc D cI A ad σ)) (vp_Si (fun r => r = mI (osF σ cl (σ 13 cl) 0))) 0 0 (fun _ => False) := by
  refine Met.ofW (cc := cX2_openSpot) (maxL := 6) (ret := (some .int)) (by decide) rfl ?_
  intro p e s m args below meth c s₁ B hml hv
  obtain ⟨rfl, hP, hK, hD, hN, hZ⟩ := hv
  have hx := B.exec
  have hb := B.bytes
  have hr := B.returns
  have hts := atoms_spec (ws := wsX2_openSpot) B.pre
  have hown : s.vm.findClass RX2 = some m.cls := findClass_of_methodNamed B.named
  have hlocks := B.notSynchronized
  have hS : va_S A s.heap s.heap [] := va_S.rf
  have hl := lv_entry ([.ref (ad 5), .ref (ad 1), .ref (ad 4), .int (nI cl)]) (n := 6) (Nat.le_of_ble_eq_true rfl)
  rw [lg_entry_eq]
  generalize (lg_sl ([.ref (ad 5), .ref (ad 1), .ref (ad 4), .int (nI cl)]) ++ List.replicate (6 - (lg_sl ([.ref (ad 5), .ref (ad 1), .ref (ad 4), .int (nI cl)])).length) Slot.unset).toArray = ls at hl ⊢
  have hl : lv_has ls 6 [(0, .ref (ad 5)), (1, .ref (ad 1)), (2, .ref (ad 4)), (3, .int (nI cl))] := hl
  have hsz := hI.asize hcl
  refine lv_iconst (v := nI 0) hx hb dX2_openSpot_0 (by decide) ?_
  refine lv_istore (lv' := [(4, .int (nI 0)), (0, .ref (ad 5)), (1, .ref (ad 1)), (2, .ref (ad 4)), (3, .int (nI cl))]) hx hb dX2_openSpot_1 hl (by decide) rfl (fun ls hl => ?_)
  have lp3 : ∀ (n : Nat) (k : Nat) (ls : Array Slot), (k + n = σ 13 cl) → (mI (osF σ cl (σ 13 cl) 0) = mI (osF σ cl n k)) → lv_has ls 6 [(4, .int (nI k)), (0, .ref (ad 5)), (1, .ref (ad 1)), (2, .ref (ad 4)), (3, .int (nI cl))] → WR p l e rX2_openSpot s m (([.ref (ad 5), .ref (ad 1), .ref (ad 4), .int (nI cl)] : List Value).toArray) below meth c s.heap (fun r => r = mI (osF σ cl (σ 13 cl) 0)) (F0 m 3 ls []) := by
    intro n
    induction n with
    | zero =>
      intro k ls hF1 hF hl
      refine lv_iload hx hb dX2_openSpot_3 (lv_at hl 0 rfl) ?_
      refine lv_aload_n hx hb dX2_openSpot_5 rfl (lv_at hl 3 rfl) ?_
      refine lv_iload_n hx hb dX2_openSpot_6 rfl (lv_at hl 4 rfl) ?_
      refine vp_callSi (va_Run.run (va_runV (As := [.int (nI cl)]) (rest := [.int (nI k)]) ⟨hx, hb, hml, hown, hts⟩ (c_X0_sizeOf l D cI A ad σ cl hcl) (cwV 1 hts gX2_openSpot_X0_sizeOf rfl rfl rfl (by decide +kernel) ⟨Nat.le_of_ble_eq_true rfl, Nat.le_of_ble_eq_true rfl⟩) ⟨Wc.blind, va_recv hK hP (ci := 0) (q0 := 4) rfl rfl, fun U hU hW => ⟨rfl, Wc.go hP hK hD hN hZ hS hU hW⟩⟩ rfl rfl hl.1 rfl (lv_room (Nat.le_of_ble_eq_true rfl)) dX2_openSpot_7 ⟨Nat.zero_le _, Nat.zero_le _⟩)) (fun r_1 hr_1 => ?_)
      refine n_to (w := nI (σ 13 cl)) (hr_1.trans rfl) ?_
      refine n_icmp_ge hx hb (tgt := 55) (by omega) (by omega) dX2_openSpot_10 (by decide) (fun c_10 => ?_) (fun c_10 => ?_)
      · refine lv_iconst (v := mI 0) hx hb dX2_openSpot_55 (by decide) ?_
        exact W.iret (v := mI 0) hx hb hr (fun t ht hW => ⟨_, rfl, by rw [hF]; rfl, ht⟩) no_locs dX2_openSpot_56
      · omega
    | succ n ih3 =>
      intro k ls hF1 hF hl
      refine lv_iload hx hb dX2_openSpot_3 (lv_at hl 0 rfl) ?_
      refine lv_aload_n hx hb dX2_openSpot_5 rfl (lv_at hl 3 rfl) ?_
      refine lv_iload_n hx hb dX2_openSpot_6 rfl (lv_at hl 4 rfl) ?_
      refine vp_callSi (va_Run.run (va_runV (As := [.int (nI cl)]) (rest := [.int (nI k)]) ⟨hx, hb, hml, hown, hts⟩ (c_X0_sizeOf l D cI A ad σ cl hcl) (cwV 1 hts gX2_openSpot_X0_sizeOf rfl rfl rfl (by decide +kernel) ⟨Nat.le_of_ble_eq_true rfl, Nat.le_of_ble_eq_true rfl⟩) ⟨Wc.blind, va_recv hK hP (ci := 0) (q0 := 4) rfl rfl, fun U hU hW => ⟨rfl, Wc.go hP hK hD hN hZ hS hU hW⟩⟩ rfl rfl hl.1 rfl (lv_room (Nat.le_of_ble_eq_true rfl)) dX2_openSpot_7 ⟨Nat.zero_le _, Nat.zero_le _⟩)) (fun r_2 hr_2 => ?_)
      refine n_to (w := nI (σ 13 cl)) (hr_2.trans rfl) ?_
      refine n_icmp_ge hx hb (tgt := 55) (by omega) (by omega) dX2_openSpot_10 (by decide) (fun c_10 => ?_) (fun c_10 => ?_)
      · omega
      · have hli := hI.alit (j := cl * 3 + k) (by omega)
        have hrt := @rtF_le σ (σ 12 (cl * 3 + k))
        refine lv_aload_n hx hb dX2_openSpot_13 rfl (lv_at hl 3 rfl) ?_
        refine lv_iload_n hx hb dX2_openSpot_14 rfl (lv_at hl 4 rfl) ?_
        refine lv_iload hx hb dX2_openSpot_15 (lv_at hl 0 rfl) ?_
        refine vp_callSi (va_Run.run (va_runV (As := [.int (nI cl), .int (nI k)]) (rest := []) ⟨hx, hb, hml, hown, hts⟩ (c_X0_at l D cI A ad σ cl k (by omega)) (cwV 2 hts gX2_openSpot_X0_at rfl rfl rfl (by decide +kernel) ⟨Nat.le_of_ble_eq_true rfl, Nat.le_of_ble_eq_true rfl⟩) ⟨Wc.blind, va_recv hK hP (ci := 0) (q0 := 4) rfl rfl, fun U hU hW => ⟨rfl, Wc.go hP hK hD hN hZ hS hU hW⟩⟩ rfl rfl hl.1 rfl (lv_room (Nat.le_of_ble_eq_true rfl)) dX2_openSpot_17 ⟨Nat.zero_le _, Nat.zero_le _⟩)) (fun r_3 hr_3 => ?_)
        refine n_to (w := nI (σ 12 (cl * 3 + k))) (hr_3.trans rfl) ?_
        refine lv_istore (lv' := [(5, .int (nI (σ 12 (cl * 3 + k)))), (4, .int (nI k)), (0, .ref (ad 5)), (1, .ref (ad 1)), (2, .ref (ad 4)), (3, .int (nI cl))]) hx hb dX2_openSpot_20 hl (by decide) rfl (fun ls hl => ?_)
        refine lv_aload_n hx hb dX2_openSpot_22 rfl (lv_at hl 2 rfl) ?_
        refine lv_aload_n hx hb dX2_openSpot_23 rfl (lv_at hl 3 rfl) ?_
        refine lv_iload hx hb dX2_openSpot_24 (lv_at hl 0 rfl) ?_
        refine vp_callSi (va_Run.run (va_runV (As := [.ref (ad 1), .int (nI (σ 12 (cl * 3 + k)))]) (rest := []) ⟨hx, hb, hml, hown, hts⟩ (c_X2_rightness l D cI A ad σ (σ 12 (cl * 3 + k)) hI hli) (cwV 2 hts gX2_openSpot_X2_rightness rfl rfl rfl (by decide +kernel) ⟨Nat.le_of_ble_eq_true rfl, Nat.le_of_ble_eq_true rfl⟩) ⟨Wc.blind, va_recv hK hP (ci := 1) (q0 := 5) rfl rfl, fun U hU hW => ⟨rfl, Wc.go hP hK hD hN hZ hS hU hW⟩⟩ rfl rfl hl.1 rfl (lv_room (Nat.le_of_ble_eq_true rfl)) dX2_openSpot_26 ⟨Nat.zero_le _, Nat.zero_le _⟩)) (fun r_4 hr_4 => ?_)
        refine n_to (w := nI (rtF σ (σ 12 (cl * 3 + k)))) (hr_4.trans rfl) ?_
        refine lv_iconst (v := nI 2) hx hb dX2_openSpot_29 (by decide) ?_
        refine q_icmp_ne hx hb (tgt := 49) (nI_eq (by omega) (by omega)) dX2_openSpot_30 (by decide) (fun c_30 => ?_) (fun c_30 => ?_)
        · refine lv_iinc (v := nI (k + 1)) (lv' := [(4, .int (nI (k + 1))), (5, .int (nI (σ 12 (cl * 3 + k)))), (0, .ref (ad 5)), (1, .ref (ad 1)), (2, .ref (ad 4)), (3, .int (nI cl))]) hx hb dX2_openSpot_49 hl (k := 1) rfl (nI_add _ _) (by decide) rfl (fun ls hl => ?_)
          refine lv_goto (tgt := 3) hx hb dX2_openSpot_52 (by decide) ?_
          exact ih3 (k + 1)  _  (by omega) (by rw [hF]; simp [osF, *]) (lv_sub hl [0, 2, 3, 4, 5] rfl)
        · refine lv_aload_n hx hb dX2_openSpot_33 rfl (lv_at hl 2 rfl) ?_
          refine lv_aload_n hx hb dX2_openSpot_34 rfl (lv_at hl 3 rfl) ?_
          refine lv_iload hx hb dX2_openSpot_35 (lv_at hl 0 rfl) ?_
          refine vp_callSi (va_Run.run (va_runS (As := [.int (nI (σ 12 (cl * 3 + k)))]) (rest := [.ref (ad 1), .ref (ad 5)]) ⟨hx, hb, hml, hown, hts⟩ (c_X1_left l   (σ 12 (cl * 3 + k)) hli.1) (va_cwS 1 hts gX2_openSpot_X1_left rfl rfl rfl (by decide +kernel) ⟨Nat.le_of_ble_eq_true rfl, Nat.le_of_ble_eq_true rfl⟩) ⟨tt_blind, fun U hU hW => ⟨rfl, trivial⟩⟩ rfl rfl hl.1 rfl (lv_room (Nat.le_of_ble_eq_true rfl)) dX2_openSpot_37 ⟨Nat.zero_le _, Nat.zero_le _⟩)) (fun r_5 hr_5 => ?_)
          refine n_to (w := nI (σ 12 (cl * 3 + k) % 32)) (hr_5.trans rfl) ?_
          refine lv_iload hx hb dX2_openSpot_40 (lv_at hl 0 rfl) ?_
          refine vp_callSi (va_Run.run (va_runS (As := [.int (nI (σ 12 (cl * 3 + k)))]) (rest := [.int (nI (σ 12 (cl * 3 + k) % 32)), .ref (ad 1), .ref (ad 5)]) ⟨hx, hb, hml, hown, hts⟩ (c_X1_right l   (σ 12 (cl * 3 + k)) hli.1) (va_cwS 1 hts gX2_openSpot_X1_right rfl rfl rfl (by decide +kernel) ⟨Nat.le_of_ble_eq_true rfl, Nat.le_of_ble_eq_true rfl⟩) ⟨tt_blind, fun U hU hW => ⟨rfl, trivial⟩⟩ rfl rfl hl.1 rfl (lv_room (Nat.le_of_ble_eq_true rfl)) dX2_openSpot_42 ⟨Nat.zero_le _, Nat.zero_le _⟩)) (fun r_6 hr_6 => ?_)
          refine n_to (w := nI (σ 12 (cl * 3 + k) / 32 % 32)) (hr_6.trans rfl) ?_
          refine vp_callSi (va_Run.run (va_runV (As := [.ref (ad 1), .int (nI (σ 12 (cl * 3 + k) % 32)), .int (nI (σ 12 (cl * 3 + k) / 32 % 32))]) (rest := []) ⟨hx, hb, hml, hown, hts⟩ (c_X2_openSpotOf l D cI A ad σ (σ 12 (cl * 3 + k) % 32) (σ 12 (cl * 3 + k) / 32 % 32) hI hli.2.1 hli.2.2) (cwV 3 hts gX2_openSpot_X2_openSpotOf rfl rfl rfl (by decide +kernel) ⟨Nat.le_of_ble_eq_true rfl, Nat.le_of_ble_eq_true rfl⟩) ⟨Wc.blind, va_recv hK hP (ci := 1) (q0 := 5) rfl rfl, fun U hU hW => ⟨rfl, Wc.go hP hK hD hN hZ hS hU hW⟩⟩ rfl rfl hl.1 rfl (lv_room (Nat.le_of_ble_eq_true rfl)) dX2_openSpot_45 ⟨Nat.zero_le _, Nat.zero_le _⟩)) (fun r_7 hr_7 => ?_)
          refine n_to (w := mI (osoF σ (σ 6 (σ 12 (cl * 3 + k) % 32)) (σ 12 (cl * 3 + k) % 32) (σ 12 (cl * 3 + k) / 32 % 32) (widF (σ 6 (σ 12 (cl * 3 + k) % 32))) 0)) (hr_7.trans rfl) ?_
          exact W.iret (v := mI (osoF σ (σ 6 (σ 12 (cl * 3 + k) % 32)) (σ 12 (cl * 3 + k) % 32) (σ 12 (cl * 3 + k) / 32 % 32) (widF (σ 6 (σ 12 (cl * 3 + k) % 32))) 0)) hx hb hr (fun t ht hW => ⟨_, rfl, by rw [hF]; simp [osF, *], ht⟩) no_locs dX2_openSpot_48
  exact lp3 (σ 13 cl) 0  _ (by omega) (rfl) (lv_sub hl [0, 1, 2, 3, 4] rfl)
