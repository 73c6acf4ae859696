/-! THE CLASS's throwing methods where they return -/
theorem SatA_of {s u : Nat → Nat → Nat} (h : ∀ r, r ≠ 14 → r ≠ 15 → u r = s r) (w : Nat) : SatA u w ↔ SatA s w := by
  unfold SatA
  rw [h 0 (by decide) (by decide), h 12 (by decide) (by decide), h 13 (by decide) (by decide)]
  simp only [LD_rows (h 6 (by decide) (by decide)) (h 7 (by decide) (by decide)) (h 8 (by decide) (by decide)) (h 9 (by decide) (by decide))]
theorem AskW_of {s u : Nat → Nat → Nat} (h : ∀ r, r ≠ 14 → r ≠ 15 → u r = s r) (hA : AskW s) : AskW u := by
  unfold AskW litW
  rw [h 0 (by decide) (by decide), h 6 (by decide) (by decide), h 12 (by decide) (by decide), h 13 (by decide) (by decide)]
  exact hA
theorem fdd {s : Nat → Nat → Nat} {P : Nat → Prop} {d : Nat} (h : ∀ w, SatA s w ↔ P w) : fdB s d d = true ↔ ∃ w, w < 5 ∧ difF w = d ∧ P w := by
  rw [fdB_iff]
  unfold fdP
  constructor
  · rintro ⟨w, h1, h2, h3, h4⟩; exact ⟨w, h1, by omega, (h w).mp h4⟩
  · rintro ⟨w, h1, h2, h3⟩; exact ⟨w, h1, by omega, by omega, (h w).mpr h3⟩
theorem in_X4_termFor_X4 : ∀ w ∈ wsX40, w ∈ wsX4_termFor := by decide +kernel
theorem lk_X4_termFor_12 : Cond.fieldLink RX4 12 "ArrayClaims" "known" "LArrayClaims$TermTable;" ∈ wsX4_termFor := by decide +kernel
def rX4_termFor_found : Room := { frames := 1, cells := 0, slots := 0, locals := 25 }
set_option maxHeartbeats 4000000 in
set_option maxRecDepth 100000 in
theorem c_X4_termFor_found (l : Launch) (D : va_G) (cI : ClassId) (A : Nat → Prop) (ad : Nat → Nat) (σ : Nat → Nat → Nat) (q a i x k : Nat) (hI : IC σ) (hq : q ≤ 2) (ha : a ≤ 24) (hi : i ≤ 24) (hx0 : x ≤ 24) (hk : k < 24) (hfd : findF σ q a i x (σ 0 1 - 7) 7 = k + 1) : Met l yX4_termFor wsX4_termFor rX4_termFor_found (va_Pc [.ref (ad 0), .int (nI q), .int (mI a), .int (mI i), .int (mI x)] (Wc D cI A ad σ)) (vp_Si (fun r => r = nI k)) 0 0 (fun _ => False) := by
  refine Met.ofW (cc := cX4_termFor) (maxL := 6) (ret := (some .int)) (by decide) rfl ?_
  intro p e s m args below meth c s₁ B hml hv
  obtain ⟨rfl, hP, hK, hD, hN, hZ⟩ := hv
  have hx := B.exec
  have hb := B.bytes
  have hr := B.returns
  have hts := atoms_spec (ws := wsX4_termFor) B.pre
  have hown : s.vm.findClass RX4 = some m.cls := findClass_of_methodNamed B.named
  have hlocks := B.notSynchronized
  have hS : va_S A s.heap s.heap [] := va_S.rf
  have hl := lv_entry ([.ref (ad 0), .int (nI q), .int (mI a), .int (mI i), .int (mI x)]) (n := 6) (Nat.le_of_ble_eq_true rfl)
  rw [lg_entry_eq]
  generalize (lg_sl ([.ref (ad 0), .int (nI q), .int (mI a), .int (mI i), .int (mI x)]) ++ List.replicate (6 - (lg_sl ([.ref (ad 0), .int (nI q), .int (mI a), .int (mI i), .int (mI x)])).length) Slot.unset).toArray = ls at hl ⊢
  have hl : lv_has ls 6 [(0, .ref (ad 0)), (1, .int (nI q)), (2, .int (mI a)), (3, .int (mI i)), (4, .int (mI x))] := hl
  have hc := hI.terms
  refine lv_aload_n hx hb dX4_termFor_0 rfl (lv_at hl 0 rfl) ?_
  refine va_get (D := D) (ci := 3) (v := .ref (ad 1)) (C := RX4) (T := TX4) (N := 6) hx hb hts in_X4_termFor_X4 hown hK hP 0 rfl rfl 0 (by decide) (hts _ lk_X4_termFor_12) (fun _ h9 => h9) rfl dX4_termFor_1 ?_
  refine lv_iload_n hx hb dX4_termFor_4 rfl (lv_at hl 1 rfl) ?_
  refine lv_iload_n hx hb dX4_termFor_5 rfl (lv_at hl 2 rfl) ?_
  refine lv_iload_n hx hb dX4_termFor_6 rfl (lv_at hl 3 rfl) ?_
  refine lv_iload hx hb dX4_termFor_7 (lv_at hl 4 rfl) ?_
  refine vp_callSi (va_Run.run (va_runV (As := [.int (nI q), .int (mI a), .int (mI i), .int (mI x)]) (rest := []) ⟨hx, hb, hml, hown, hts⟩ (c_X3_find l D cI A ad σ q a i x hI hq ha hi hx0) (cwV 4 hts gX4_termFor_X3_find rfl rfl rfl (by decide +kernel) ⟨Nat.le_of_ble_eq_true rfl, Nat.le_of_ble_eq_true rfl⟩) ⟨Wc.blind, va_recv hK hP (ci := 2) (q0 := 1) rfl rfl, fun U hU hW => ⟨rfl, Wc.go hP hK hD hN hZ hS hU hW⟩⟩ rfl rfl hl.1 rfl (lv_room (Nat.le_of_ble_eq_true rfl)) dX4_termFor_9 ⟨Nat.zero_le _, Nat.zero_le _⟩)) (fun r_1 hr_1 => ?_)
  refine n_to (w := mI (findF σ q a i x (σ 0 1 - 7) 7)) (hr_1.trans rfl) ?_
  refine lv_istore (lv' := [(5, .int (mI (findF σ q a i x (σ 0 1 - 7) 7))), (0, .ref (ad 0)), (1, .int (nI q)), (2, .int (mI a)), (3, .int (mI i)), (4, .int (mI x))]) hx hb dX4_termFor_12 hl (by decide) rfl (fun ls hl => ?_)
  refine lv_iload hx hb dX4_termFor_14 (lv_at hl 0 rfl) ?_
  refine lv_iconst (v := mI 0) hx hb dX4_termFor_16 (by decide) ?_
  refine q_icmp_eq hx hb (tgt := 23) (mI_eq (by omega) (by omega)) dX4_termFor_17 (by decide) (fun c_17 => ?_) (fun c_17 => ?_)
  · omega
  · refine lv_iload hx hb dX4_termFor_20 (lv_at hl 0 rfl) ?_
    exact W.iret (v := mI (findF σ q a i x (σ 0 1 - 7) 7)) hx hb hr (fun t ht hW => ⟨_, rfl, by rw [hfd, mI_succ], ht⟩) no_locs dX4_termFor_22
theorem in_X4_termFor_X3 : ∀ w ∈ wsX30, w ∈ wsX4_termFor := by decide +kernel
def rX4_termFor_new : Room := { frames := 1, cells := 0, slots := 0, locals := 25 }
set_option maxHeartbeats 4000000 in
set_option maxRecDepth 100000 in
theorem c_X4_termFor_new (l : Launch) (D : va_G) (cI : ClassId) (A : Nat → Prop) (ad : Nat → Nat) (σ : Nat → Nat → Nat) (q a i x : Nat) (hI : IC σ) (hq : q ≤ 2) (ha : a ≤ 24) (hi : i ≤ 24) (hx0 : x ≤ 24) (hfd : findF σ q a i x (σ 0 1 - 7) 7 = 0) (hfl : σ 0 1 < 24) : Met l yX4_termFor wsX4_termFor rX4_termFor_new (va_Pc [.ref (ad 0), .int (nI q), .int (mI a), .int (mI i), .int (mI x)] (Wc D cI A ad σ)) (va_Qi (fun r u => r = nI (σ 0 1) ∧ u = addTF σ q a i x) (fun u t => Wc D cI A ad u t) A) 0 0 A := by
  refine Met.ofW (cc := cX4_termFor) (maxL := 6) (ret := (some .int)) (by decide) rfl ?_
  intro p e s m args below meth c s₁ B hml hv
  obtain ⟨rfl, hP, hK, hD, hN, hZ⟩ := hv
  have hx := B.exec
  have hb := B.bytes
  have hr := B.returns
  have hts := atoms_spec (ws := wsX4_termFor) B.pre
  have hown : s.vm.findClass RX4 = some m.cls := findClass_of_methodNamed B.named
  have hlocks := B.notSynchronized
  have hS : va_S A s.heap s.heap [] := va_S.rf
  have hl := lv_entry ([.ref (ad 0), .int (nI q), .int (mI a), .int (mI i), .int (mI x)]) (n := 6) (Nat.le_of_ble_eq_true rfl)
  rw [lg_entry_eq]
  generalize (lg_sl ([.ref (ad 0), .int (nI q), .int (mI a), .int (mI i), .int (mI x)]) ++ List.replicate (6 - (lg_sl ([.ref (ad 0), .int (nI q), .int (mI a), .int (mI i), .int (mI x)])).length) Slot.unset).toArray = ls at hl ⊢
  have hl : lv_has ls 6 [(0, .ref (ad 0)), (1, .int (nI q)), (2, .int (mI a)), (3, .int (mI i)), (4, .int (mI x))] := hl
  have hc := hI.terms
  refine lv_aload_n hx hb dX4_termFor_0 rfl (lv_at hl 0 rfl) ?_
  refine va_get (D := D) (ci := 3) (v := .ref (ad 1)) (C := RX4) (T := TX4) (N := 6) hx hb hts in_X4_termFor_X4 hown hK hP 0 rfl rfl 0 (by decide) (hts _ lk_X4_termFor_12) (fun _ h9 => h9) rfl dX4_termFor_1 ?_
  refine lv_iload_n hx hb dX4_termFor_4 rfl (lv_at hl 1 rfl) ?_
  refine lv_iload_n hx hb dX4_termFor_5 rfl (lv_at hl 2 rfl) ?_
  refine lv_iload_n hx hb dX4_termFor_6 rfl (lv_at hl 3 rfl) ?_
  refine lv_iload hx hb dX4_termFor_7 (lv_at hl 4 rfl) ?_
  refine vp_callSi (va_Run.run (va_runV (As := [.int (nI q), .int (mI a), .int (mI i), .int (mI x)]) (rest := []) ⟨hx, hb, hml, hown, hts⟩ (c_X3_find l D cI A ad σ q a i x hI hq ha hi hx0) (cwV 4 hts gX4_termFor_X3_find rfl rfl rfl (by decide +kernel) ⟨Nat.le_of_ble_eq_true rfl, Nat.le_of_ble_eq_true rfl⟩) ⟨Wc.blind, va_recv hK hP (ci := 2) (q0 := 1) rfl rfl, fun U hU hW => ⟨rfl, Wc.go hP hK hD hN hZ hS hU hW⟩⟩ rfl rfl hl.1 rfl (lv_room (Nat.le_of_ble_eq_true rfl)) dX4_termFor_9 ⟨Nat.zero_le _, Nat.zero_le _⟩)) (fun r_1 hr_1 => ?_)
  refine n_to (w := mI (findF σ q a i x (σ 0 1 - 7) 7)) (hr_1.trans rfl) ?_
  refine lv_istore (lv' := [(5, .int (mI (findF σ q a i x (σ 0 1 - 7) 7))), (0, .ref (ad 0)), (1, .int (nI q)), (2, .int (mI a)), (3, .int (mI i)), (4, .int (mI x))]) hx hb dX4_termFor_12 hl (by decide) rfl (fun ls hl => ?_)
  refine lv_iload hx hb dX4_termFor_14 (lv_at hl 0 rfl) ?_
  refine lv_iconst (v := mI 0) hx hb dX4_termFor_16 (by decide) ?_
  refine q_icmp_eq hx hb (tgt := 23) (mI_eq (by omega) (by omega)) dX4_termFor_17 (by decide) (fun c_17 => ?_) (fun c_17 => ?_)
  · refine lv_aload_n hx hb dX4_termFor_23 rfl (lv_at hl 1 rfl) ?_
    refine va_get (D := D) (ci := 3) (v := .ref (ad 1)) (C := RX4) (T := TX4) (N := 6) hx hb hts in_X4_termFor_X4 hown hK hP 0 rfl rfl 0 (by decide) (hts _ lk_X4_termFor_12) (fun _ h9 => h9) rfl dX4_termFor_24 ?_
    refine va_getN (D := D) (ci := 2) (v := .int (nI (σ 0 1))) (C := RX3) (T := TX3) (N := 5) hx hb hts in_X4_termFor_X3 hown hK hP 1 rfl rfl 4 (by decide) (hN.use 4 rfl) (fun _ h9 => h9) rfl dX4_termFor_27 ?_
    refine lv_bipush (v := nI 24) hx hb dX4_termFor_30 (by decide) ?_
    refine n_icmp_lt hx hb (tgt := 43) (by omega) (by omega) dX4_termFor_32 (by decide) (fun c_32 => ?_) (fun c_32 => ?_)
    · refine lv_aload_n hx hb dX4_termFor_43 rfl (lv_at hl 1 rfl) ?_
      refine va_get (D := D) (ci := 3) (v := .ref (ad 1)) (C := RX4) (T := TX4) (N := 6) hx hb hts in_X4_termFor_X4 hown hK hP 0 rfl rfl 0 (by decide) (hts _ lk_X4_termFor_12) (fun _ h9 => h9) rfl dX4_termFor_44 ?_
      refine lv_iload_n hx hb dX4_termFor_47 rfl (lv_at hl 2 rfl) ?_
      refine lv_iload_n hx hb dX4_termFor_48 rfl (lv_at hl 3 rfl) ?_
      refine lv_iload_n hx hb dX4_termFor_49 rfl (lv_at hl 4 rfl) ?_
      refine lv_iload hx hb dX4_termFor_50 (lv_at hl 5 rfl) ?_
      refine va_calli (va_runV (As := [.int (nI q), .int (mI a), .int (mI i), .int (mI x)]) (rest := []) ⟨hx, hb, hml, hown, hts⟩ (c_X3_add l D cI A ad σ q a i x hI hfl) (cwV 4 hts gX4_termFor_X3_add rfl rfl rfl (by decide +kernel) ⟨Nat.le_of_ble_eq_true rfl, Nat.le_of_ble_eq_true rfl⟩) ⟨Wc.blind, va_recv hK hP (ci := 2) (q0 := 1) rfl rfl, fun U hU hW => ⟨rfl, Wc.go hP hK hD hN hZ hS hU hW⟩⟩ rfl rfl hl.1 rfl (lv_room (Nat.le_of_ble_eq_true rfl)) dX4_termFor_52 ⟨Nat.zero_le _, Nat.zero_le _⟩) hS (fun q _ h => h) (fun q h => h) (fun r_3 σ_2 t H1 locs ht hvm hwσ_2 hB hz1 hk1 hS => ?_)
      obtain ⟨hr_3, hwσ_2⟩ := hwσ_2
      refine n_to (w := nI (σ 0 1)) (hr_3) ?_
      obtain ⟨hP, -, hD, -⟩ := hB
      rw [ht] at hP
      generalize H1 = H at hP hS ⊢
      exact W.iret (v := nI (σ 0 1)) hx hb hr (fun t ht hW => ⟨⟨_, σ_2, rfl, (⟨rfl, hwσ_2⟩), Wc.go hP hK hD hN hZ hS ht hW⟩, hS.F ht⟩) hS.2.2 dX4_termFor_55
    · omega
  · exact absurd hfd c_17
theorem in_X4_select_X4 : ∀ w ∈ wsX40, w ∈ wsX4_select := by decide +kernel
theorem lk_X4_select_12 : Cond.fieldLink RX4 12 "ArrayClaims" "known" "LArrayClaims$TermTable;" ∈ wsX4_select := by decide +kernel
def rX4_select_found : Room := { frames := 2, cells := 0, slots := 0, locals := 50 }
set_option maxHeartbeats 4000000 in
set_option maxRecDepth 100000 in
theorem c_X4_select_found (l : Launch) (D : va_G) (cI : ClassId) (A : Nat → Prop) (ad : Nat → Nat) (σ : Nat → Nat → Nat) (a i k : Nat) (hI : IC σ) (ha : a < σ 0 1) (hi : i < σ 0 1) (hsa : σ 6 a = 2) (hsi : σ 6 i = 0) (hk : k < 24) (hfd : findF σ 1 (a + 1) (i + 1) 0 (σ 0 1 - 7) 7 = k + 1) : Met l yX4_select wsX4_select rX4_select_found (va_Pc [.ref (ad 0), .int (nI a), .int (nI i)] (Wc D cI A ad σ)) (vp_Si (fun r => r = nI k)) 0 0 (fun _ => False) := by
  refine Met.ofW (cc := cX4_select) (maxL := 3) (ret := (some .int)) (by decide) rfl ?_
  intro p e s m args below meth c s₁ B hml hv
  obtain ⟨rfl, hP, hK, hD, hN, hZ⟩ := hv
  have hx := B.exec
  have hb := B.bytes
  have hr := B.returns
  have hts := atoms_spec (ws := wsX4_select) B.pre
  have hown : s.vm.findClass RX4 = some m.cls := findClass_of_methodNamed B.named
  have hlocks := B.notSynchronized
  have hS : va_S A s.heap s.heap [] := va_S.rf
  have hl := lv_entry ([.ref (ad 0), .int (nI a), .int (nI i)]) (n := 3) (Nat.le_of_ble_eq_true rfl)
  rw [lg_entry_eq]
  generalize (lg_sl ([.ref (ad 0), .int (nI a), .int (nI i)]) ++ List.replicate (3 - (lg_sl ([.ref (ad 0), .int (nI a), .int (nI i)])).length) Slot.unset).toArray = ls at hl ⊢
  have hl : lv_has ls 3 [(0, .ref (ad 0)), (1, .int (nI a)), (2, .int (nI i))] := hl
  have hc := hI.terms
  refine lv_aload_n hx hb dX4_select_0 rfl (lv_at hl 0 rfl) ?_
  refine va_get (D := D) (ci := 3) (v := .ref (ad 1)) (C := RX4) (T := TX4) (N := 6) hx hb hts in_X4_select_X4 hown hK hP 0 rfl rfl 0 (by decide) (hts _ lk_X4_select_12) (fun _ h9 => h9) rfl dX4_select_1 ?_
  refine lv_iload_n hx hb dX4_select_4 rfl (lv_at hl 1 rfl) ?_
  refine vp_callSi (va_Run.run (va_runV (As := [.int (nI a)]) (rest := []) ⟨hx, hb, hml, hown, hts⟩ (c_X3_has_in l D cI A ad σ a ha hc.2) (cwV 1 hts gX4_select_X3_has rfl rfl rfl (by decide +kernel) ⟨Nat.le_of_ble_eq_true rfl, Nat.le_of_ble_eq_true rfl⟩) ⟨Wc.blind, va_recv hK hP (ci := 2) (q0 := 1) rfl rfl, fun U hU hW => ⟨rfl, Wc.go hP hK hD hN hZ hS hU hW⟩⟩ rfl rfl hl.1 rfl (lv_room (Nat.le_of_ble_eq_true rfl)) dX4_select_5 ⟨Nat.zero_le _, Nat.zero_le _⟩)) (fun r_1 hr_1 => ?_)
  refine n_to (w := bI true) (hr_1.trans rfl) ?_
  refine q_if_eq hx hb (tgt := 22) (bI_z) dX4_select_8 (by decide) (fun c_8 => ?_) (fun c_8 => ?_)
  · cases c_8
  · refine lv_aload_n hx hb dX4_select_11 rfl (lv_at hl 0 rfl) ?_
    refine va_get (D := D) (ci := 3) (v := .ref (ad 1)) (C := RX4) (T := TX4) (N := 6) hx hb hts in_X4_select_X4 hown hK hP 0 rfl rfl 0 (by decide) (hts _ lk_X4_select_12) (fun _ h9 => h9) rfl dX4_select_12 ?_
    refine lv_iload_n hx hb dX4_select_15 rfl (lv_at hl 2 rfl) ?_
    refine vp_callSi (va_Run.run (va_runV (As := [.int (nI i)]) (rest := []) ⟨hx, hb, hml, hown, hts⟩ (c_X3_has_in l D cI A ad σ i hi hc.2) (cwV 1 hts gX4_select_X3_has rfl rfl rfl (by decide +kernel) ⟨Nat.le_of_ble_eq_true rfl, Nat.le_of_ble_eq_true rfl⟩) ⟨Wc.blind, va_recv hK hP (ci := 2) (q0 := 1) rfl rfl, fun U hU hW => ⟨rfl, Wc.go hP hK hD hN hZ hS hU hW⟩⟩ rfl rfl hl.1 rfl (lv_room (Nat.le_of_ble_eq_true rfl)) dX4_select_16 ⟨Nat.zero_le _, Nat.zero_le _⟩)) (fun r_2 hr_2 => ?_)
    refine n_to (w := bI true) (hr_2.trans rfl) ?_
    refine q_if_ne hx hb (tgt := 30) (bI_z) dX4_select_19 (by decide) (fun c_19 => ?_) (fun c_19 => ?_)
    · refine lv_aload_n hx hb dX4_select_30 rfl (lv_at hl 0 rfl) ?_
      refine va_get (D := D) (ci := 3) (v := .ref (ad 1)) (C := RX4) (T := TX4) (N := 6) hx hb hts in_X4_select_X4 hown hK hP 0 rfl rfl 0 (by decide) (hts _ lk_X4_select_12) (fun _ h9 => h9) rfl dX4_select_31 ?_
      refine lv_iload_n hx hb dX4_select_34 rfl (lv_at hl 1 rfl) ?_
      refine vp_callSi (va_Run.run (va_runV (As := [.int (nI a)]) (rest := []) ⟨hx, hb, hml, hown, hts⟩ (c_X3_sortOf_in l D cI A ad σ a ha hc.2) (cwV 1 hts gX4_select_X3_sortOf rfl rfl rfl (by decide +kernel) ⟨Nat.le_of_ble_eq_true rfl, Nat.le_of_ble_eq_true rfl⟩) ⟨Wc.blind, va_recv hK hP (ci := 2) (q0 := 1) rfl rfl, fun U hU hW => ⟨rfl, Wc.go hP hK hD hN hZ hS hU hW⟩⟩ rfl rfl hl.1 rfl (lv_room (Nat.le_of_ble_eq_true rfl)) dX4_select_35 ⟨Nat.zero_le _, Nat.zero_le _⟩)) (fun r_3 hr_3 => ?_)
      refine n_to (w := nI (σ 6 a)) (hr_3.trans rfl) ?_
      refine lv_iconst (v := nI 2) hx hb dX4_select_38 (by decide) ?_
      refine q_icmp_ne hx hb (tgt := 53) (nI_eq (by omega) (by omega)) dX4_select_39 (by decide) (fun c_39 => ?_) (fun c_39 => ?_)
      · exact absurd hsa c_39
      · refine lv_aload_n hx hb dX4_select_42 rfl (lv_at hl 0 rfl) ?_
        refine va_get (D := D) (ci := 3) (v := .ref (ad 1)) (C := RX4) (T := TX4) (N := 6) hx hb hts in_X4_select_X4 hown hK hP 0 rfl rfl 0 (by decide) (hts _ lk_X4_select_12) (fun _ h9 => h9) rfl dX4_select_43 ?_
        refine lv_iload_n hx hb dX4_select_46 rfl (lv_at hl 2 rfl) ?_
        refine vp_callSi (va_Run.run (va_runV (As := [.int (nI i)]) (rest := []) ⟨hx, hb, hml, hown, hts⟩ (c_X3_sortOf_in l D cI A ad σ i hi hc.2) (cwV 1 hts gX4_select_X3_sortOf rfl rfl rfl (by decide +kernel) ⟨Nat.le_of_ble_eq_true rfl, Nat.le_of_ble_eq_true rfl⟩) ⟨Wc.blind, va_recv hK hP (ci := 2) (q0 := 1) rfl rfl, fun U hU hW => ⟨rfl, Wc.go hP hK hD hN hZ hS hU hW⟩⟩ rfl rfl hl.1 rfl (lv_room (Nat.le_of_ble_eq_true rfl)) dX4_select_47 ⟨Nat.zero_le _, Nat.zero_le _⟩)) (fun r_4 hr_4 => ?_)
        refine n_to (w := nI (σ 6 i)) (hr_4.trans rfl) ?_
        refine q_if_eq hx hb (tgt := 61) (nI_z (by omega)) dX4_select_50 (by decide) (fun c_50 => ?_) (fun c_50 => ?_)
        · refine lv_aload_n hx hb dX4_select_61 rfl (lv_at hl 0 rfl) ?_
          refine lv_iconst (v := nI 1) hx hb dX4_select_62 (by decide) ?_
          refine lv_iload_n hx hb dX4_select_63 rfl (lv_at hl 1 rfl) ?_
          refine n_to (w := mI (a + 1)) ((mI_succ _).symm) ?_
          refine lv_iload_n hx hb dX4_select_64 rfl (lv_at hl 2 rfl) ?_
          refine n_to (w := mI (i + 1)) ((mI_succ _).symm) ?_
          refine lv_iconst (v := mI 0) hx hb dX4_select_65 (by decide) ?_
          refine vp_callSi (va_Run.run (va_runV (As := [.int (nI 1), .int (mI (a + 1)), .int (mI (i + 1)), .int (mI 0)]) (rest := []) ⟨hx, hb, hml, hown, hts⟩ (c_X4_termFor_found l D cI A ad σ 1 (a + 1) (i + 1) 0 k hI (by omega) (by omega) (by omega) (by omega) hk hfd) (cwV 4 hts gX4_select_X4_termFor rfl rfl rfl (by decide +kernel) ⟨Nat.le_of_ble_eq_true rfl, Nat.le_of_ble_eq_true rfl⟩) ⟨Wc.blind, va_recv hK hP (ci := 3) (q0 := 0) rfl rfl, fun U hU hW => ⟨rfl, Wc.go hP hK hD hN hZ hS hU hW⟩⟩ rfl rfl hl.1 rfl (lv_room (Nat.le_of_ble_eq_true rfl)) dX4_select_66 ⟨Nat.zero_le _, Nat.zero_le _⟩)) (fun r_5 hr_5 => ?_)
          refine n_to (w := nI k) (hr_5.trans rfl) ?_
          exact W.iret (v := nI k) hx hb hr (fun t ht hW => ⟨_, rfl, rfl, ht⟩) no_locs dX4_select_69
        · exact absurd hsi c_50
    · cases c_19
def rX4_select_new : Room := { frames := 2, cells := 0, slots := 0, locals := 50 }
set_option maxHeartbeats 4000000 in
set_option maxRecDepth 100000 in
theorem c_X4_select_new (l : Launch) (D : va_G) (cI : ClassId) (A : Nat → Prop) (ad : Nat → Nat) (σ : Nat → Nat → Nat) (a i : Nat) (hI : IC σ) (ha : a < σ 0 1) (hi : i < σ 0 1) (hsa : σ 6 a = 2) (hsi : σ 6 i = 0) (hfd : findF σ 1 (a + 1) (i + 1) 0 (σ 0 1 - 7) 7 = 0) (hfl : σ 0 1 < 24) : Met l yX4_select wsX4_select rX4_select_new (va_Pc [.ref (ad 0), .int (nI a), .int (nI i)] (Wc D cI A ad σ)) (va_Qi (fun r u => r = nI (σ 0 1) ∧ u = addTF σ 1 (a + 1) (i + 1) 0) (fun u t => Wc D cI A ad u t) A) 0 0 A := by
  refine Met.ofW (cc := cX4_select) (maxL := 3) (ret := (some .int)) (by decide) rfl ?_
  intro p e s m args below meth c s₁ B hml hv
  obtain ⟨rfl, hP, hK, hD, hN, hZ⟩ := hv
  have hx := B.exec
  have hb := B.bytes
  have hr := B.returns
  have hts := atoms_spec (ws := wsX4_select) B.pre
  have hown : s.vm.findClass RX4 = some m.cls := findClass_of_methodNamed B.named
  have hlocks := B.notSynchronized
  have hS : va_S A s.heap s.heap [] := va_S.rf
  have hl := lv_entry ([.ref (ad 0), .int (nI a), .int (nI i)]) (n := 3) (Nat.le_of_ble_eq_true rfl)
  rw [lg_entry_eq]
  generalize (lg_sl ([.ref (ad 0), .int (nI a), .int (nI i)]) ++ List.replicate (3 - (lg_sl ([.ref (ad 0), .int (nI a), .int (nI i)])).length) Slot.unset).toArray = ls at hl ⊢
  have hl : lv_has ls 3 [(0, .ref (ad 0)), (1, .int (nI a)), (2, .int (nI i))] := hl
  have hc := hI.terms
  refine lv_aload_n hx hb dX4_select_0 rfl (lv_at hl 0 rfl) ?_
  refine va_get (D := D) (ci := 3) (v := .ref (ad 1)) (C := RX4) (T := TX4) (N := 6) hx hb hts in_X4_select_X4 hown hK hP 0 rfl rfl 0 (by decide) (hts _ lk_X4_select_12) (fun _ h9 => h9) rfl dX4_select_1 ?_
  refine lv_iload_n hx hb dX4_select_4 rfl (lv_at hl 1 rfl) ?_
  refine vp_callSi (va_Run.run (va_runV (As := [.int (nI a)]) (rest := []) ⟨hx, hb, hml, hown, hts⟩ (c_X3_has_in l D cI A ad σ a ha hc.2) (cwV 1 hts gX4_select_X3_has rfl rfl rfl (by decide +kernel) ⟨Nat.le_of_ble_eq_true rfl, Nat.le_of_ble_eq_true rfl⟩) ⟨Wc.blind, va_recv hK hP (ci := 2) (q0 := 1) rfl rfl, fun U hU hW => ⟨rfl, Wc.go hP hK hD hN hZ hS hU hW⟩⟩ rfl rfl hl.1 rfl (lv_room (Nat.le_of_ble_eq_true rfl)) dX4_select_5 ⟨Nat.zero_le _, Nat.zero_le _⟩)) (fun r_1 hr_1 => ?_)
  refine n_to (w := bI true) (hr_1.trans rfl) ?_
  refine q_if_eq hx hb (tgt := 22) (bI_z) dX4_select_8 (by decide) (fun c_8 => ?_) (fun c_8 => ?_)
  · cases c_8
  · refine lv_aload_n hx hb dX4_select_11 rfl (lv_at hl 0 rfl) ?_
    refine va_get (D := D) (ci := 3) (v := .ref (ad 1)) (C := RX4) (T := TX4) (N := 6) hx hb hts in_X4_select_X4 hown hK hP 0 rfl rfl 0 (by decide) (hts _ lk_X4_select_12) (fun _ h9 => h9) rfl dX4_select_12 ?_
    refine lv_iload_n hx hb dX4_select_15 rfl (lv_at hl 2 rfl) ?_
    refine vp_callSi (va_Run.run (va_runV (As := [.int (nI i)]) (rest := []) ⟨hx, hb, hml, hown, hts⟩ (c_X3_has_in l D cI A ad σ i hi hc.2) (cwV 1 hts gX4_select_X3_has rfl rfl rfl (by decide +kernel) ⟨Nat.le_of_ble_eq_true rfl, Nat.le_of_ble_eq_true rfl⟩) ⟨Wc.blind, va_recv hK hP (ci := 2) (q0 := 1) rfl rfl, fun U hU hW => ⟨rfl, Wc.go hP hK hD hN hZ hS hU hW⟩⟩ rfl rfl hl.1 rfl (lv_room (Nat.le_of_ble_eq_true rfl)) dX4_select_16 ⟨Nat.zero_le _, Nat.zero_le _⟩)) (fun r_2 hr_2 => ?_)
    refine n_to (w := bI true) (hr_2.trans rfl) ?_
    refine q_if_ne hx hb (tgt := 30) (bI_z) dX4_select_19 (by decide) (fun c_19 => ?_) (fun c_19 => ?_)
    · refine lv_aload_n hx hb dX4_select_30 rfl (lv_at hl 0 rfl) ?_
      refine va_get (D := D) (ci := 3) (v := .ref (ad 1)) (C := RX4) (T := TX4) (N := 6) hx hb hts in_X4_select_X4 hown hK hP 0 rfl rfl 0 (by decide) (hts _ lk_X4_select_12) (fun _ h9 => h9) rfl dX4_select_31 ?_
      refine lv_iload_n hx hb dX4_select_34 rfl (lv_at hl 1 rfl) ?_
      refine vp_callSi (va_Run.run (va_runV (As := [.int (nI a)]) (rest := []) ⟨hx, hb, hml, hown, hts⟩ (c_X3_sortOf_in l D cI A ad σ a ha hc.2) (cwV 1 hts gX4_select_X3_sortOf rfl rfl rfl (by decide +kernel) ⟨Nat.le_of_ble_eq_true rfl, Nat.le_of_ble_eq_true rfl⟩) ⟨Wc.blind, va_recv hK hP (ci := 2) (q0 := 1) rfl rfl, fun U hU hW => ⟨rfl, Wc.go hP hK hD hN hZ hS hU hW⟩⟩ rfl rfl hl.1 rfl (lv_room (Nat.le_of_ble_eq_true rfl)) dX4_select_35 ⟨Nat.zero_le _, Nat.zero_le _⟩)) (fun r_3 hr_3 => ?_)
      refine n_to (w := nI (σ 6 a)) (hr_3.trans rfl) ?_
      refine lv_iconst (v := nI 2) hx hb dX4_select_38 (by decide) ?_
      refine q_icmp_ne hx hb (tgt := 53) (nI_eq (by omega) (by omega)) dX4_select_39 (by decide) (fun c_39 => ?_) (fun c_39 => ?_)
      · exact absurd hsa c_39
      · refine lv_aload_n hx hb dX4_select_42 rfl (lv_at hl 0 rfl) ?_
        refine va_get (D := D) (ci := 3) (v := .ref (ad 1)) (C := RX4) (T := TX4) (N := 6) hx hb hts in_X4_select_X4 hown hK hP 0 rfl rfl 0 (by decide) (hts _ lk_X4_select_12) (fun _ h9 => h9) rfl dX4_select_43 ?_
        refine lv_iload_n hx hb dX4_select_46 rfl (lv_at hl 2 rfl) ?_
        refine vp_callSi (va_Run.run (va_runV (As := [.int (nI i)]) (rest := []) ⟨hx, hb, hml, hown, hts⟩ (c_X3_sortOf_in l D cI A ad σ i hi hc.2) (cwV 1 hts gX4_select_X3_sortOf rfl rfl rfl (by decide +kernel) ⟨Nat.le_of_ble_eq_true rfl, Nat.le_of_ble_eq_true rfl⟩) ⟨Wc.blind, va_recv hK hP (ci := 2) (q0 := 1) rfl rfl, fun U hU hW => ⟨rfl, Wc.go hP hK hD hN hZ hS hU hW⟩⟩ rfl rfl hl.1 rfl (lv_room (Nat.le_of_ble_eq_true rfl)) dX4_select_47 ⟨Nat.zero_le _, Nat.zero_le _⟩)) (fun r_4 hr_4 => ?_)
        refine n_to (w := nI (σ 6 i)) (hr_4.trans rfl) ?_
        refine q_if_eq hx hb (tgt := 61) (nI_z (by omega)) dX4_select_50 (by decide) (fun c_50 => ?_) (fun c_50 => ?_)
        · refine lv_aload_n hx hb dX4_select_61 rfl (lv_at hl 0 rfl) ?_
          refine lv_iconst (v := nI 1) hx hb dX4_select_62 (by decide) ?_
          refine lv_iload_n hx hb dX4_select_63 rfl (lv_at hl 1 rfl) ?_
          refine n_to (w := mI (a + 1)) ((mI_succ _).symm) ?_
          refine lv_iload_n hx hb dX4_select_64 rfl (lv_at hl 2 rfl) ?_
          refine n_to (w := mI (i + 1)) ((mI_succ _).symm) ?_
          refine lv_iconst (v := mI 0) hx hb dX4_select_65 (by decide) ?_
          refine va_calli (va_runV (As := [.int (nI 1), .int (mI (a + 1)), .int (mI (i + 1)), .int (mI 0)]) (rest := []) ⟨hx, hb, hml, hown, hts⟩ (c_X4_termFor_new l D cI A ad σ 1 (a + 1) (i + 1) 0 hI (by omega) (by omega) (by omega) (by omega) hfd hfl) (cwV 4 hts gX4_select_X4_termFor rfl rfl rfl (by decide +kernel) ⟨Nat.le_of_ble_eq_true rfl, Nat.le_of_ble_eq_true rfl⟩) ⟨Wc.blind, va_recv hK hP (ci := 3) (q0 := 0) rfl rfl, fun U hU hW => ⟨rfl, Wc.go hP hK hD hN hZ hS hU hW⟩⟩ rfl rfl hl.1 rfl (lv_room (Nat.le_of_ble_eq_true rfl)) dX4_select_66 ⟨Nat.zero_le _, Nat.zero_le _⟩) hS (fun q _ h => h) (fun q h => h) (fun r_6 σ_5 t H1 locs ht hvm hwσ_5 hB hz1 hk1 hS => ?_)
          obtain ⟨hr_6, hwσ_5⟩ := hwσ_5
          refine n_to (w := nI (σ 0 1)) (hr_6) ?_
          obtain ⟨hP, -, hD, -⟩ := hB
          rw [ht] at hP
          generalize H1 = H at hP hS ⊢
          exact W.iret (v := nI (σ 0 1)) hx hb hr (fun t ht hW => ⟨⟨_, σ_5, rfl, (⟨rfl, hwσ_5⟩), Wc.go hP hK hD hN hZ hS ht hW⟩, hS.F ht⟩) hS.2.2 dX4_select_69
        · exact absurd hsi c_50
    · cases c_19
theorem in_X4_store_X4 : ∀ w ∈ wsX40, w ∈ wsX4_store := by decide +kernel
theorem lk_X4_store_12 : Cond.fieldLink RX4 12 "ArrayClaims" "known" "LArrayClaims$TermTable;" ∈ wsX4_store := by decide +kernel
def rX4_store_found : Room := { frames := 2, cells := 0, slots := 0, locals := 50 }
set_option maxHeartbeats 4000000 in
set_option maxRecDepth 100000 in
theorem c_X4_store_found (l : Launch) (D : va_G) (cI : ClassId) (A : Nat → Prop) (ad : Nat → Nat) (σ : Nat → Nat → Nat) (a i e1 k : Nat) (hI : IC σ) (ha : a < σ 0 1) (hi : i < σ 0 1) (he1 : e1 < σ 0 1) (hsa : σ 6 a = 2) (hsi : σ 6 i = 0) (hse : σ 6 e1 = 1) (hk : k < 24) (hfd : findF σ 2 (a + 1) (i + 1) (e1 + 1) (σ 0 1 - 7) 7 = k + 1) : Met l yX4_store wsX4_store rX4_store_found (va_Pc [.ref (ad 0), .int (nI a), .int (nI i), .int (nI e1)] (Wc D cI A ad σ)) (vp_Si (fun r => r = nI k)) 0 0 (fun _ => False) := by
  refine Met.ofW (cc := cX4_store) (maxL := 4) (ret := (some .int)) (by decide) rfl ?_
  intro p e s m args below meth c s₁ B hml hv
  obtain ⟨rfl, hP, hK, hD, hN, hZ⟩ := hv
  have hx := B.exec
  have hb := B.bytes
  have hr := B.returns
  have hts := atoms_spec (ws := wsX4_store) B.pre
  have hown : s.vm.findClass RX4 = some m.cls := findClass_of_methodNamed B.named
  have hlocks := B.notSynchronized
  have hS : va_S A s.heap s.heap [] := va_S.rf
  have hl := lv_entry ([.ref (ad 0), .int (nI a), .int (nI i), .int (nI e1)]) (n := 4) (Nat.le_of_ble_eq_true rfl)
  rw [lg_entry_eq]
  generalize (lg_sl ([.ref (ad 0), .int (nI a), .int (nI i), .int (nI e1)]) ++ List.replicate (4 - (lg_sl ([.ref (ad 0), .int (nI a), .int (nI i), .int (nI e1)])).length) Slot.unset).toArray = ls at hl ⊢
  have hl : lv_has ls 4 [(0, .ref (ad 0)), (1, .int (nI a)), (2, .int (nI i)), (3, .int (nI e1))] := hl
  have hc := hI.terms
  refine lv_aload_n hx hb dX4_store_0 rfl (lv_at hl 0 rfl) ?_
  refine va_get (D := D) (ci := 3) (v := .ref (ad 1)) (C := RX4) (T := TX4) (N := 6) hx hb hts in_X4_store_X4 hown hK hP 0 rfl rfl 0 (by decide) (hts _ lk_X4_store_12) (fun _ h9 => h9) rfl dX4_store_1 ?_
  refine lv_iload_n hx hb dX4_store_4 rfl (lv_at hl 1 rfl) ?_
  refine vp_callSi (va_Run.run (va_runV (As := [.int (nI a)]) (rest := []) ⟨hx, hb, hml, hown, hts⟩ (c_X3_has_in l D cI A ad σ a ha hc.2) (cwV 1 hts gX4_store_X3_has rfl rfl rfl (by decide +kernel) ⟨Nat.le_of_ble_eq_true rfl, Nat.le_of_ble_eq_true rfl⟩) ⟨Wc.blind, va_recv hK hP (ci := 2) (q0 := 1) rfl rfl, fun U hU hW => ⟨rfl, Wc.go hP hK hD hN hZ hS hU hW⟩⟩ rfl rfl hl.1 rfl (lv_room (Nat.le_of_ble_eq_true rfl)) dX4_store_5 ⟨Nat.zero_le _, Nat.zero_le _⟩)) (fun r_1 hr_1 => ?_)
  refine n_to (w := bI true) (hr_1.trans rfl) ?_
  refine q_if_eq hx hb (tgt := 33) (bI_z) dX4_store_8 (by decide) (fun c_8 => ?_) (fun c_8 => ?_)
  · cases c_8
  · refine lv_aload_n hx hb dX4_store_11 rfl (lv_at hl 0 rfl) ?_
    refine va_get (D := D) (ci := 3) (v := .ref (ad 1)) (C := RX4) (T := TX4) (N := 6) hx hb hts in_X4_store_X4 hown hK hP 0 rfl rfl 0 (by decide) (hts _ lk_X4_store_12) (fun _ h9 => h9) rfl dX4_store_12 ?_
    refine lv_iload_n hx hb dX4_store_15 rfl (lv_at hl 2 rfl) ?_
    refine vp_callSi (va_Run.run (va_runV (As := [.int (nI i)]) (rest := []) ⟨hx, hb, hml, hown, hts⟩ (c_X3_has_in l D cI A ad σ i hi hc.2) (cwV 1 hts gX4_store_X3_has rfl rfl rfl (by decide +kernel) ⟨Nat.le_of_ble_eq_true rfl, Nat.le_of_ble_eq_true rfl⟩) ⟨Wc.blind, va_recv hK hP (ci := 2) (q0 := 1) rfl rfl, fun U hU hW => ⟨rfl, Wc.go hP hK hD hN hZ hS hU hW⟩⟩ rfl rfl hl.1 rfl (lv_room (Nat.le_of_ble_eq_true rfl)) dX4_store_16 ⟨Nat.zero_le _, Nat.zero_le _⟩)) (fun r_2 hr_2 => ?_)
    refine n_to (w := bI true) (hr_2.trans rfl) ?_
    refine q_if_eq hx hb (tgt := 33) (bI_z) dX4_store_19 (by decide) (fun c_19 => ?_) (fun c_19 => ?_)
    · cases c_19
    · refine lv_aload_n hx hb dX4_store_22 rfl (lv_at hl 0 rfl) ?_
      refine va_get (D := D) (ci := 3) (v := .ref (ad 1)) (C := RX4) (T := TX4) (N := 6) hx hb hts in_X4_store_X4 hown hK hP 0 rfl rfl 0 (by decide) (hts _ lk_X4_store_12) (fun _ h9 => h9) rfl dX4_store_23 ?_
      refine lv_iload_n hx hb dX4_store_26 rfl (lv_at hl 3 rfl) ?_
      refine vp_callSi (va_Run.run (va_runV (As := [.int (nI e1)]) (rest := []) ⟨hx, hb, hml, hown, hts⟩ (c_X3_has_in l D cI A ad σ e1 he1 hc.2) (cwV 1 hts gX4_store_X3_has rfl rfl rfl (by decide +kernel) ⟨Nat.le_of_ble_eq_true rfl, Nat.le_of_ble_eq_true rfl⟩) ⟨Wc.blind, va_recv hK hP (ci := 2) (q0 := 1) rfl rfl, fun U hU hW => ⟨rfl, Wc.go hP hK hD hN hZ hS hU hW⟩⟩ rfl rfl hl.1 rfl (lv_room (Nat.le_of_ble_eq_true rfl)) dX4_store_27 ⟨Nat.zero_le _, Nat.zero_le _⟩)) (fun r_3 hr_3 => ?_)
      refine n_to (w := bI true) (hr_3.trans rfl) ?_
      refine q_if_ne hx hb (tgt := 41) (bI_z) dX4_store_30 (by decide) (fun c_30 => ?_) (fun c_30 => ?_)
      · refine lv_aload_n hx hb dX4_store_41 rfl (lv_at hl 0 rfl) ?_
        refine va_get (D := D) (ci := 3) (v := .ref (ad 1)) (C := RX4) (T := TX4) (N := 6) hx hb hts in_X4_store_X4 hown hK hP 0 rfl rfl 0 (by decide) (hts _ lk_X4_store_12) (fun _ h9 => h9) rfl dX4_store_42 ?_
        refine lv_iload_n hx hb dX4_store_45 rfl (lv_at hl 1 rfl) ?_
        refine vp_callSi (va_Run.run (va_runV (As := [.int (nI a)]) (rest := []) ⟨hx, hb, hml, hown, hts⟩ (c_X3_sortOf_in l D cI A ad σ a ha hc.2) (cwV 1 hts gX4_store_X3_sortOf rfl rfl rfl (by decide +kernel) ⟨Nat.le_of_ble_eq_true rfl, Nat.le_of_ble_eq_true rfl⟩) ⟨Wc.blind, va_recv hK hP (ci := 2) (q0 := 1) rfl rfl, fun U hU hW => ⟨rfl, Wc.go hP hK hD hN hZ hS hU hW⟩⟩ rfl rfl hl.1 rfl (lv_room (Nat.le_of_ble_eq_true rfl)) dX4_store_46 ⟨Nat.zero_le _, Nat.zero_le _⟩)) (fun r_4 hr_4 => ?_)
        refine n_to (w := nI (σ 6 a)) (hr_4.trans rfl) ?_
        refine lv_iconst (v := nI 2) hx hb dX4_store_49 (by decide) ?_
        refine q_icmp_ne hx hb (tgt := 76) (nI_eq (by omega) (by omega)) dX4_store_50 (by decide) (fun c_50 => ?_) (fun c_50 => ?_)
        · exact absurd hsa c_50
        · refine lv_aload_n hx hb dX4_store_53 rfl (lv_at hl 0 rfl) ?_
          refine va_get (D := D) (ci := 3) (v := .ref (ad 1)) (C := RX4) (T := TX4) (N := 6) hx hb hts in_X4_store_X4 hown hK hP 0 rfl rfl 0 (by decide) (hts _ lk_X4_store_12) (fun _ h9 => h9) rfl dX4_store_54 ?_
          refine lv_iload_n hx hb dX4_store_57 rfl (lv_at hl 2 rfl) ?_
          refine vp_callSi (va_Run.run (va_runV (As := [.int (nI i)]) (rest := []) ⟨hx, hb, hml, hown, hts⟩ (c_X3_sortOf_in l D cI A ad σ i hi hc.2) (cwV 1 hts gX4_store_X3_sortOf rfl rfl rfl (by decide +kernel) ⟨Nat.le_of_ble_eq_true rfl, Nat.le_of_ble_eq_true rfl⟩) ⟨Wc.blind, va_recv hK hP (ci := 2) (q0 := 1) rfl rfl, fun U hU hW => ⟨rfl, Wc.go hP hK hD hN hZ hS hU hW⟩⟩ rfl rfl hl.1 rfl (lv_room (Nat.le_of_ble_eq_true rfl)) dX4_store_58 ⟨Nat.zero_le _, Nat.zero_le _⟩)) (fun r_5 hr_5 => ?_)
          refine n_to (w := nI (σ 6 i)) (hr_5.trans rfl) ?_
          refine q_if_ne hx hb (tgt := 76) (nI_z (by omega)) dX4_store_61 (by decide) (fun c_61 => ?_) (fun c_61 => ?_)
          · exact absurd hsi c_61
          · refine lv_aload_n hx hb dX4_store_64 rfl (lv_at hl 0 rfl) ?_
            refine va_get (D := D) (ci := 3) (v := .ref (ad 1)) (C := RX4) (T := TX4) (N := 6) hx hb hts in_X4_store_X4 hown hK hP 0 rfl rfl 0 (by decide) (hts _ lk_X4_store_12) (fun _ h9 => h9) rfl dX4_store_65 ?_
            refine lv_iload_n hx hb dX4_store_68 rfl (lv_at hl 3 rfl) ?_
            refine vp_callSi (va_Run.run (va_runV (As := [.int (nI e1)]) (rest := []) ⟨hx, hb, hml, hown, hts⟩ (c_X3_sortOf_in l D cI A ad σ e1 he1 hc.2) (cwV 1 hts gX4_store_X3_sortOf rfl rfl rfl (by decide +kernel) ⟨Nat.le_of_ble_eq_true rfl, Nat.le_of_ble_eq_true rfl⟩) ⟨Wc.blind, va_recv hK hP (ci := 2) (q0 := 1) rfl rfl, fun U hU hW => ⟨rfl, Wc.go hP hK hD hN hZ hS hU hW⟩⟩ rfl rfl hl.1 rfl (lv_room (Nat.le_of_ble_eq_true rfl)) dX4_store_69 ⟨Nat.zero_le _, Nat.zero_le _⟩)) (fun r_6 hr_6 => ?_)
            refine n_to (w := nI (σ 6 e1)) (hr_6.trans rfl) ?_
            refine lv_iconst (v := nI 1) hx hb dX4_store_72 (by decide) ?_
            refine q_icmp_eq hx hb (tgt := 84) (nI_eq (by omega) (by omega)) dX4_store_73 (by decide) (fun c_73 => ?_) (fun c_73 => ?_)
            · refine lv_aload_n hx hb dX4_store_84 rfl (lv_at hl 0 rfl) ?_
              refine lv_iconst (v := nI 2) hx hb dX4_store_85 (by decide) ?_
              refine lv_iload_n hx hb dX4_store_86 rfl (lv_at hl 1 rfl) ?_
              refine n_to (w := mI (a + 1)) ((mI_succ _).symm) ?_
              refine lv_iload_n hx hb dX4_store_87 rfl (lv_at hl 2 rfl) ?_
              refine n_to (w := mI (i + 1)) ((mI_succ _).symm) ?_
              refine lv_iload_n hx hb dX4_store_88 rfl (lv_at hl 3 rfl) ?_
              refine n_to (w := mI (e1 + 1)) ((mI_succ _).symm) ?_
              refine vp_callSi (va_Run.run (va_runV (As := [.int (nI 2), .int (mI (a + 1)), .int (mI (i + 1)), .int (mI (e1 + 1))]) (rest := []) ⟨hx, hb, hml, hown, hts⟩ (c_X4_termFor_found l D cI A ad σ 2 (a + 1) (i + 1) (e1 + 1) k hI (by omega) (by omega) (by omega) (by omega) hk hfd) (cwV 4 hts gX4_store_X4_termFor rfl rfl rfl (by decide +kernel) ⟨Nat.le_of_ble_eq_true rfl, Nat.le_of_ble_eq_true rfl⟩) ⟨Wc.blind, va_recv hK hP (ci := 3) (q0 := 0) rfl rfl, fun U hU hW => ⟨rfl, Wc.go hP hK hD hN hZ hS hU hW⟩⟩ rfl rfl hl.1 rfl (lv_room (Nat.le_of_ble_eq_true rfl)) dX4_store_89 ⟨Nat.zero_le _, Nat.zero_le _⟩)) (fun r_7 hr_7 => ?_)
              refine n_to (w := nI k) (hr_7.trans rfl) ?_
              exact W.iret (v := nI k) hx hb hr (fun t ht hW => ⟨_, rfl, rfl, ht⟩) no_locs dX4_store_92
            · exact absurd hse c_73
      · cases c_30
def rX4_store_new : Room := { frames := 2, cells := 0, slots := 0, locals := 50 }
set_option maxHeartbeats 4000000 in
set_option maxRecDepth 100000 in
theorem c_X4_store_new (l : Launch) (D : va_G) (cI : ClassId) (A : Nat → Prop) (ad : Nat → Nat) (σ : Nat → Nat → Nat) (a i e1 : Nat) (hI : IC σ) (ha : a < σ 0 1) (hi : i < σ 0 1) (he1 : e1 < σ 0 1) (hsa : σ 6 a = 2) (hsi : σ 6 i = 0) (hse : σ 6 e1 = 1) (hfd : findF σ 2 (a + 1) (i + 1) (e1 + 1) (σ 0 1 - 7) 7 = 0) (hfl : σ 0 1 < 24) : Met l yX4_store wsX4_store rX4_store_new (va_Pc [.ref (ad 0), .int (nI a), .int (nI i), .int (nI e1)] (Wc D cI A ad σ)) (va_Qi (fun r u => r = nI (σ 0 1) ∧ u = addTF σ 2 (a + 1) (i + 1) (e1 + 1)) (fun u t => Wc D cI A ad u t) A) 0 0 A := by
  refine Met.ofW (cc := cX4_store) (maxL := 4) (ret := (some .int)) (by decide) rfl ?_
  intro p e s m args below meth c s₁ B hml hv
  obtain ⟨rfl, hP, hK, hD, hN, hZ⟩ := hv
  have hx := B.exec
  have hb := B.bytes
  have hr := B.returns
  have hts := atoms_spec (ws := wsX4_store) B.pre
  have hown : s.vm.findClass RX4 = some m.cls := findClass_of_methodNamed B.named
  have hlocks := B.notSynchronized
  have hS : va_S A s.heap s.heap [] := va_S.rf
  have hl := lv_entry ([.ref (ad 0), .int (nI a), .int (nI i), .int (nI e1)]) (n := 4) (Nat.le_of_ble_eq_true rfl)
  rw [lg_entry_eq]
  generalize (lg_sl ([.ref (ad 0), .int (nI a), .int (nI i), .int (nI e1)]) ++ List.replicate (4 - (lg_sl ([.ref (ad 0), .int (nI a), .int (nI i), .int (nI e1)])).length) Slot.unset).toArray = ls at hl ⊢
  have hl : lv_has ls 4 [(0, .ref (ad 0)), (1, .int (nI a)), (2, .int (nI i)), (3, .int (nI e1))] := hl
  have hc := hI.terms
  refine lv_aload_n hx hb dX4_store_0 rfl (lv_at hl 0 rfl) ?_
  refine va_get (D := D) (ci := 3) (v := .ref (ad 1)) (C := RX4) (T := TX4) (N := 6) hx hb hts in_X4_store_X4 hown hK hP 0 rfl rfl 0 (by decide) (hts _ lk_X4_store_12) (fun _ h9 => h9) rfl dX4_store_1 ?_
  refine lv_iload_n hx hb dX4_store_4 rfl (lv_at hl 1 rfl) ?_
  refine vp_callSi (va_Run.run (va_runV (As := [.int (nI a)]) (rest := []) ⟨hx, hb, hml, hown, hts⟩ (c_X3_has_in l D cI A ad σ a ha hc.2) (cwV 1 hts gX4_store_X3_has rfl rfl rfl (by decide +kernel) ⟨Nat.le_of_ble_eq_true rfl, Nat.le_of_ble_eq_true rfl⟩) ⟨Wc.blind, va_recv hK hP (ci := 2) (q0 := 1) rfl rfl, fun U hU hW => ⟨rfl, Wc.go hP hK hD hN hZ hS hU hW⟩⟩ rfl rfl hl.1 rfl (lv_room (Nat.le_of_ble_eq_true rfl)) dX4_store_5 ⟨Nat.zero_le _, Nat.zero_le _⟩)) (fun r_1 hr_1 => ?_)
  refine n_to (w := bI true) (hr_1.trans rfl) ?_
  refine q_if_eq hx hb (tgt := 33) (bI_z) dX4_store_8 (by decide) (fun c_8 => ?_) (fun c_8 => ?_)
  · cases c_8
  · refine lv_aload_n hx hb dX4_store_11 rfl (lv_at hl 0 rfl) ?_
    refine va_get (D := D) (ci := 3) (v := .ref (ad 1)) (C := RX4) (T := TX4) (N := 6) hx hb hts in_X4_store_X4 hown hK hP 0 rfl rfl 0 (by decide) (hts _ lk_X4_store_12) (fun _ h9 => h9) rfl dX4_store_12 ?_
    refine lv_iload_n hx hb dX4_store_15 rfl (lv_at hl 2 rfl) ?_
    refine vp_callSi (va_Run.run (va_runV (As := [.int (nI i)]) (rest := []) ⟨hx, hb, hml, hown, hts⟩ (c_X3_has_in l D cI A ad σ i hi hc.2) (cwV 1 hts gX4_store_X3_has rfl rfl rfl (by decide +kernel) ⟨Nat.le_of_ble_eq_true rfl, Nat.le_of_ble_eq_true rfl⟩) ⟨Wc.blind, va_recv hK hP (ci := 2) (q0 := 1) rfl rfl, fun U hU hW => ⟨rfl, Wc.go hP hK hD hN hZ hS hU hW⟩⟩ rfl rfl hl.1 rfl (lv_room (Nat.le_of_ble_eq_true rfl)) dX4_store_16 ⟨Nat.zero_le _, Nat.zero_le _⟩)) (fun r_2 hr_2 => ?_)
    refine n_to (w := bI true) (hr_2.trans rfl) ?_
    refine q_if_eq hx hb (tgt := 33) (bI_z) dX4_store_19 (by decide) (fun c_19 => ?_) (fun c_19 => ?_)
    · cases c_19
    · refine lv_aload_n hx hb dX4_store_22 rfl (lv_at hl 0 rfl) ?_
      refine va_get (D := D) (ci := 3) (v := .ref (ad 1)) (C := RX4) (T := TX4) (N := 6) hx hb hts in_X4_store_X4 hown hK hP 0 rfl rfl 0 (by decide) (hts _ lk_X4_store_12) (fun _ h9 => h9) rfl dX4_store_23 ?_
      refine lv_iload_n hx hb dX4_store_26 rfl (lv_at hl 3 rfl) ?_
      refine vp_callSi (va_Run.run (va_runV (As := [.int (nI e1)]) (rest := []) ⟨hx, hb, hml, hown, hts⟩ (c_X3_has_in l D cI A ad σ e1 he1 hc.2) (cwV 1 hts gX4_store_X3_has rfl rfl rfl (by decide +kernel) ⟨Nat.le_of_ble_eq_true rfl, Nat.le_of_ble_eq_true rfl⟩) ⟨Wc.blind, va_recv hK hP (ci := 2) (q0 := 1) rfl rfl, fun U hU hW => ⟨rfl, Wc.go hP hK hD hN hZ hS hU hW⟩⟩ rfl rfl hl.1 rfl (lv_room (Nat.le_of_ble_eq_true rfl)) dX4_store_27 ⟨Nat.zero_le _, Nat.zero_le _⟩)) (fun r_3 hr_3 => ?_)
      refine n_to (w := bI true) (hr_3.trans rfl) ?_
      refine q_if_ne hx hb (tgt := 41) (bI_z) dX4_store_30 (by decide) (fun c_30 => ?_) (fun c_30 => ?_)
      · refine lv_aload_n hx hb dX4_store_41 rfl (lv_at hl 0 rfl) ?_
        refine va_get (D := D) (ci := 3) (v := .ref (ad 1)) (C := RX4) (T := TX4) (N := 6) hx hb hts in_X4_store_X4 hown hK hP 0 rfl rfl 0 (by decide) (hts _ lk_X4_store_12) (fun _ h9 => h9) rfl dX4_store_42 ?_
        refine lv_iload_n hx hb dX4_store_45 rfl (lv_at hl 1 rfl) ?_
        refine vp_callSi (va_Run.run (va_runV (As := [.int (nI a)]) (rest := []) ⟨hx, hb, hml, hown, hts⟩ (c_X3_sortOf_in l D cI A ad σ a ha hc.2) (cwV 1 hts gX4_store_X3_sortOf rfl rfl rfl (by decide +kernel) ⟨Nat.le_of_ble_eq_true rfl, Nat.le_of_ble_eq_true rfl⟩) ⟨Wc.blind, va_recv hK hP (ci := 2) (q0 := 1) rfl rfl, fun U hU hW => ⟨rfl, Wc.go hP hK hD hN hZ hS hU hW⟩⟩ rfl rfl hl.1 rfl (lv_room (Nat.le_of_ble_eq_true rfl)) dX4_store_46 ⟨Nat.zero_le _, Nat.zero_le _⟩)) (fun r_4 hr_4 => ?_)
        refine n_to (w := nI (σ 6 a)) (hr_4.trans rfl) ?_
        refine lv_iconst (v := nI 2) hx hb dX4_store_49 (by decide) ?_
        refine q_icmp_ne hx hb (tgt := 76) (nI_eq (by omega) (by omega)) dX4_store_50 (by decide) (fun c_50 => ?_) (fun c_50 => ?_)
        · exact absurd hsa c_50
        · refine lv_aload_n hx hb dX4_store_53 rfl (lv_at hl 0 rfl) ?_
          refine va_get (D := D) (ci := 3) (v := .ref (ad 1)) (C := RX4) (T := TX4) (N := 6) hx hb hts in_X4_store_X4 hown hK hP 0 rfl rfl 0 (by decide) (hts _ lk_X4_store_12) (fun _ h9 => h9) rfl dX4_store_54 ?_
          refine lv_iload_n hx hb dX4_store_57 rfl (lv_at hl 2 rfl) ?_
          refine vp_callSi (va_Run.run (va_runV (As := [.int (nI i)]) (rest := []) ⟨hx, hb, hml, hown, hts⟩ (c_X3_sortOf_in l D cI A ad σ i hi hc.2) (cwV 1 hts gX4_store_X3_sortOf rfl rfl rfl (by decide +kernel) ⟨Nat.le_of_ble_eq_true rfl, Nat.le_of_ble_eq_true rfl⟩) ⟨Wc.blind, va_recv hK hP (ci := 2) (q0 := 1) rfl rfl, fun U hU hW => ⟨rfl, Wc.go hP hK hD hN hZ hS hU hW⟩⟩ rfl rfl hl.1 rfl (lv_room (Nat.le_of_ble_eq_true rfl)) dX4_store_58 ⟨Nat.zero_le _, Nat.zero_le _⟩)) (fun r_5 hr_5 => ?_)
          refine n_to (w := nI (σ 6 i)) (hr_5.trans rfl) ?_
          refine q_if_ne hx hb (tgt := 76) (nI_z (by omega)) dX4_store_61 (by decide) (fun c_61 => ?_) (fun c_61 => ?_)
          · exact absurd hsi c_61
          · refine lv_aload_n hx hb dX4_store_64 rfl (lv_at hl 0 rfl) ?_
            refine va_get (D := D) (ci := 3) (v := .ref (ad 1)) (C := RX4) (T := TX4) (N := 6) hx hb hts in_X4_store_X4 hown hK hP 0 rfl rfl 0 (by decide) (hts _ lk_X4_store_12) (fun _ h9 => h9) rfl dX4_store_65 ?_
            refine lv_iload_n hx hb dX4_store_68 rfl (lv_at hl 3 rfl) ?_
            refine vp_callSi (va_Run.run (va_runV (As := [.int (nI e1)]) (rest := []) ⟨hx, hb, hml, hown, hts⟩ (c_X3_sortOf_in l D cI A ad σ e1 he1 hc.2) (cwV 1 hts gX4_store_X3_sortOf rfl rfl rfl (by decide +kernel) ⟨Nat.le_of_ble_eq_true rfl, Nat.le_of_ble_eq_true rfl⟩) ⟨Wc.blind, va_recv hK hP (ci := 2) (q0 := 1) rfl rfl, fun U hU hW => ⟨rfl, Wc.go hP hK hD hN hZ hS hU hW⟩⟩ rfl rfl hl.1 rfl (lv_room (Nat.le_of_ble_eq_true rfl)) dX4_store_69 ⟨Nat.zero_le _, Nat.zero_le _⟩)) (fun r_6 hr_6 => ?_)
            refine n_to (w := nI (σ 6 e1)) (hr_6.trans rfl) ?_
            refine lv_iconst (v := nI 1) hx hb dX4_store_72 (by decide) ?_
            refine q_icmp_eq hx hb (tgt := 84) (nI_eq (by omega) (by omega)) dX4_store_73 (by decide) (fun c_73 => ?_) (fun c_73 => ?_)
            · refine lv_aload_n hx hb dX4_store_84 rfl (lv_at hl 0 rfl) ?_
              refine lv_iconst (v := nI 2) hx hb dX4_store_85 (by decide) ?_
              refine lv_iload_n hx hb dX4_store_86 rfl (lv_at hl 1 rfl) ?_
              refine n_to (w := mI (a + 1)) ((mI_succ _).symm) ?_
              refine lv_iload_n hx hb dX4_store_87 rfl (lv_at hl 2 rfl) ?_
              refine n_to (w := mI (i + 1)) ((mI_succ _).symm) ?_
              refine lv_iload_n hx hb dX4_store_88 rfl (lv_at hl 3 rfl) ?_
              refine n_to (w := mI (e1 + 1)) ((mI_succ _).symm) ?_
              refine va_calli (va_runV (As := [.int (nI 2), .int (mI (a + 1)), .int (mI (i + 1)), .int (mI (e1 + 1))]) (rest := []) ⟨hx, hb, hml, hown, hts⟩ (c_X4_termFor_new l D cI A ad σ 2 (a + 1) (i + 1) (e1 + 1) hI (by omega) (by omega) (by omega) (by omega) hfd hfl) (cwV 4 hts gX4_store_X4_termFor rfl rfl rfl (by decide +kernel) ⟨Nat.le_of_ble_eq_true rfl, Nat.le_of_ble_eq_true rfl⟩) ⟨Wc.blind, va_recv hK hP (ci := 3) (q0 := 0) rfl rfl, fun U hU hW => ⟨rfl, Wc.go hP hK hD hN hZ hS hU hW⟩⟩ rfl rfl hl.1 rfl (lv_room (Nat.le_of_ble_eq_true rfl)) dX4_store_89 ⟨Nat.zero_le _, Nat.zero_le _⟩) hS (fun q _ h => h) (fun q h => h) (fun r_8 σ_7 t H1 locs ht hvm hwσ_7 hB hz1 hk1 hS => ?_)
              obtain ⟨hr_8, hwσ_7⟩ := hwσ_7
              refine n_to (w := nI (σ 0 1)) (hr_8) ?_
              obtain ⟨hP, -, hD, -⟩ := hB
              rw [ht] at hP
              generalize H1 = H at hP hS ⊢
              exact W.iret (v := nI (σ 0 1)) hx hb hr (fun t ht hW => ⟨⟨_, σ_7, rfl, (⟨rfl, hwσ_7⟩), Wc.go hP hK hD hN hZ hS ht hW⟩, hS.F ht⟩) hS.2.2 dX4_store_92
            · exact absurd hse c_73
      · cases c_30
theorem in_X4_checkPair_X4 : ∀ w ∈ wsX40, w ∈ wsX4_checkPair := by decide +kernel
theorem lk_X4_checkPair_12 : Cond.fieldLink RX4 12 "ArrayClaims" "known" "LArrayClaims$TermTable;" ∈ wsX4_checkPair := by decide +kernel
def rX4_checkPair_ok : Room := { frames := 2, cells := 0, slots := 0, locals := 42 }
set_option maxHeartbeats 4000000 in
set_option maxRecDepth 100000 in
theorem c_X4_checkPair_ok (l : Launch) (D : va_G) (cI : ClassId) (A : Nat → Prop) (ad : Nat → Nat) (σ : Nat → Nat → Nat) (t1 u1 : Nat) (hI : IC σ) (ht : t1 < σ 0 1) (hu : u1 < σ 0 1) (hsu : σ 6 t1 = σ 6 u1) : Met l yX4_checkPair wsX4_checkPair rX4_checkPair_ok (va_Pc [.ref (ad 0), .int (nI t1), .int (nI u1)] (Wc D cI A ad σ)) (va_Qv (fun u => u = σ) (fun u t => Wc D cI A ad u t) A) 0 0 A := by
  refine Met.ofW (cc := cX4_checkPair) (maxL := 3) (ret := none) (by decide) rfl ?_
  intro p e s m args below meth c s₁ B hml hv
  obtain ⟨rfl, hP, hK, hD, hN, hZ⟩ := hv
  have hx := B.exec
  have hb := B.bytes
  have hr := B.returns
  have hts := atoms_spec (ws := wsX4_checkPair) B.pre
  have hown : s.vm.findClass RX4 = some m.cls := findClass_of_methodNamed B.named
  have hlocks := B.notSynchronized
  have hS : va_S A s.heap s.heap [] := va_S.rf
  have hl := lv_entry ([.ref (ad 0), .int (nI t1), .int (nI u1)]) (n := 3) (Nat.le_of_ble_eq_true rfl)
  rw [lg_entry_eq]
  generalize (lg_sl ([.ref (ad 0), .int (nI t1), .int (nI u1)]) ++ List.replicate (3 - (lg_sl ([.ref (ad 0), .int (nI t1), .int (nI u1)])).length) Slot.unset).toArray = ls at hl ⊢
  have hl : lv_has ls 3 [(0, .ref (ad 0)), (1, .int (nI t1)), (2, .int (nI u1))] := hl
  have hc := hI.terms
  have hs1 := hI.sorts (j := t1) (by omega)
  have hs2 := hI.sorts (j := u1) (by omega)
  refine lv_aload_n hx hb dX4_checkPair_0 rfl (lv_at hl 0 rfl) ?_
  refine va_get (D := D) (ci := 3) (v := .ref (ad 1)) (C := RX4) (T := TX4) (N := 6) hx hb hts in_X4_checkPair_X4 hown hK hP 0 rfl rfl 0 (by decide) (hts _ lk_X4_checkPair_12) (fun _ h9 => h9) rfl dX4_checkPair_1 ?_
  refine lv_iload_n hx hb dX4_checkPair_4 rfl (lv_at hl 1 rfl) ?_
  refine vp_callSi (va_Run.run (va_runV (As := [.int (nI t1)]) (rest := []) ⟨hx, hb, hml, hown, hts⟩ (c_X3_has_in l D cI A ad σ t1 ht hc.2) (cwV 1 hts gX4_checkPair_X3_has rfl rfl rfl (by decide +kernel) ⟨Nat.le_of_ble_eq_true rfl, Nat.le_of_ble_eq_true rfl⟩) ⟨Wc.blind, va_recv hK hP (ci := 2) (q0 := 1) rfl rfl, fun U hU hW => ⟨rfl, Wc.go hP hK hD hN hZ hS hU hW⟩⟩ rfl rfl hl.1 rfl (lv_room (Nat.le_of_ble_eq_true rfl)) dX4_checkPair_5 ⟨Nat.zero_le _, Nat.zero_le _⟩)) (fun r_1 hr_1 => ?_)
  refine n_to (w := bI true) (hr_1.trans rfl) ?_
  refine q_if_eq hx hb (tgt := 22) (bI_z) dX4_checkPair_8 (by decide) (fun c_8 => ?_) (fun c_8 => ?_)
  · cases c_8
  · refine lv_aload_n hx hb dX4_checkPair_11 rfl (lv_at hl 0 rfl) ?_
    refine va_get (D := D) (ci := 3) (v := .ref (ad 1)) (C := RX4) (T := TX4) (N := 6) hx hb hts in_X4_checkPair_X4 hown hK hP 0 rfl rfl 0 (by decide) (hts _ lk_X4_checkPair_12) (fun _ h9 => h9) rfl dX4_checkPair_12 ?_
    refine lv_iload_n hx hb dX4_checkPair_15 rfl (lv_at hl 2 rfl) ?_
    refine vp_callSi (va_Run.run (va_runV (As := [.int (nI u1)]) (rest := []) ⟨hx, hb, hml, hown, hts⟩ (c_X3_has_in l D cI A ad σ u1 hu hc.2) (cwV 1 hts gX4_checkPair_X3_has rfl rfl rfl (by decide +kernel) ⟨Nat.le_of_ble_eq_true rfl, Nat.le_of_ble_eq_true rfl⟩) ⟨Wc.blind, va_recv hK hP (ci := 2) (q0 := 1) rfl rfl, fun U hU hW => ⟨rfl, Wc.go hP hK hD hN hZ hS hU hW⟩⟩ rfl rfl hl.1 rfl (lv_room (Nat.le_of_ble_eq_true rfl)) dX4_checkPair_16 ⟨Nat.zero_le _, Nat.zero_le _⟩)) (fun r_2 hr_2 => ?_)
    refine n_to (w := bI true) (hr_2.trans rfl) ?_
    refine q_if_ne hx hb (tgt := 30) (bI_z) dX4_checkPair_19 (by decide) (fun c_19 => ?_) (fun c_19 => ?_)
    · refine lv_aload_n hx hb dX4_checkPair_30 rfl (lv_at hl 0 rfl) ?_
      refine va_get (D := D) (ci := 3) (v := .ref (ad 1)) (C := RX4) (T := TX4) (N := 6) hx hb hts in_X4_checkPair_X4 hown hK hP 0 rfl rfl 0 (by decide) (hts _ lk_X4_checkPair_12) (fun _ h9 => h9) rfl dX4_checkPair_31 ?_
      refine lv_iload_n hx hb dX4_checkPair_34 rfl (lv_at hl 1 rfl) ?_
      refine vp_callSi (va_Run.run (va_runV (As := [.int (nI t1)]) (rest := []) ⟨hx, hb, hml, hown, hts⟩ (c_X3_sortOf_in l D cI A ad σ t1 ht hc.2) (cwV 1 hts gX4_checkPair_X3_sortOf rfl rfl rfl (by decide +kernel) ⟨Nat.le_of_ble_eq_true rfl, Nat.le_of_ble_eq_true rfl⟩) ⟨Wc.blind, va_recv hK hP (ci := 2) (q0 := 1) rfl rfl, fun U hU hW => ⟨rfl, Wc.go hP hK hD hN hZ hS hU hW⟩⟩ rfl rfl hl.1 rfl (lv_room (Nat.le_of_ble_eq_true rfl)) dX4_checkPair_35 ⟨Nat.zero_le _, Nat.zero_le _⟩)) (fun r_3 hr_3 => ?_)
      refine n_to (w := nI (σ 6 t1)) (hr_3.trans rfl) ?_
      refine lv_aload_n hx hb dX4_checkPair_38 rfl (lv_at hl 0 rfl) ?_
      refine va_get (D := D) (ci := 3) (v := .ref (ad 1)) (C := RX4) (T := TX4) (N := 6) hx hb hts in_X4_checkPair_X4 hown hK hP 0 rfl rfl 0 (by decide) (hts _ lk_X4_checkPair_12) (fun _ h9 => h9) rfl dX4_checkPair_39 ?_
      refine lv_iload_n hx hb dX4_checkPair_42 rfl (lv_at hl 2 rfl) ?_
      refine vp_callSi (va_Run.run (va_runV (As := [.int (nI u1)]) (rest := [.int (nI (σ 6 t1))]) ⟨hx, hb, hml, hown, hts⟩ (c_X3_sortOf_in l D cI A ad σ u1 hu hc.2) (cwV 1 hts gX4_checkPair_X3_sortOf rfl rfl rfl (by decide +kernel) ⟨Nat.le_of_ble_eq_true rfl, Nat.le_of_ble_eq_true rfl⟩) ⟨Wc.blind, va_recv hK hP (ci := 2) (q0 := 1) rfl rfl, fun U hU hW => ⟨rfl, Wc.go hP hK hD hN hZ hS hU hW⟩⟩ rfl rfl hl.1 rfl (lv_room (Nat.le_of_ble_eq_true rfl)) dX4_checkPair_43 ⟨Nat.zero_le _, Nat.zero_le _⟩)) (fun r_4 hr_4 => ?_)
      refine n_to (w := nI (σ 6 u1)) (hr_4.trans rfl) ?_
      refine q_icmp_eq hx hb (tgt := 57) (nI_eq (by omega) (by omega)) dX4_checkPair_46 (by decide) (fun c_46 => ?_) (fun c_46 => ?_)
      · exact W.vret hx hb hr (fun t ht hW => ⟨⟨_, rfl, (rfl), Wc.go hP hK hD hN hZ hS ht hW⟩, hS.F ht⟩) hS.2.2 dX4_checkPair_57
      · exact absurd hsu c_46
    · cases c_19
theorem in_X4_literal_X4 : ∀ w ∈ wsX40, w ∈ wsX4_literal := by decide +kernel
theorem lk_X4_literal_29 : Cond.fieldLink RX4 29 "ArrayClaims" "draftSize" "I" ∈ wsX4_literal := by decide +kernel
theorem lk_X4_literal_25 : Cond.fieldLink RX4 25 "ArrayClaims" "drafted" "[I" ∈ wsX4_literal := by decide +kernel
def rX4_literal_ok : Room := { frames := 3, cells := 0, slots := 0, locals := 64 }
set_option maxHeartbeats 4000000 in
set_option maxRecDepth 100000 in
theorem c_X4_literal_ok (l : Launch) (D : va_G) (cI : ClassId) (A : Nat → Prop) (ad : Nat → Nat) (σ : Nat → Nat → Nat) (t1 u1 : Nat) (b : Bool) (hI : IC σ) (ht : t1 < σ 0 1) (hu : u1 < σ 0 1) (hsu : σ 6 t1 = σ 6 u1) (hd3 : σ 0 0 < 3) : Met l yX4_literal wsX4_literal rX4_literal_ok (va_Pc [.ref (ad 0), .int (nI t1), .int (nI u1), .int (bI b)] (Wc D cI A ad σ)) (va_Qi (fun r u => r = nI (σ 0 0 + 1) ∧ u = sU (sU σ 3 (σ 0 0) (litF t1 u1 b)) 0 0 (σ 0 0 + 1)) (fun u t => Wc D cI A ad u t) A) 0 0 A := by
  refine Met.ofW (cc := cX4_literal) (maxL := 4) (ret := (some .int)) (by decide) rfl ?_
  intro p e s m args below meth c s₁ B hml hv
  obtain ⟨rfl, hP, hK, hD, hN, hZ⟩ := hv
  have hx := B.exec
  have hb := B.bytes
  have hr := B.returns
  have hts := atoms_spec (ws := wsX4_literal) B.pre
  have hown : s.vm.findClass RX4 = some m.cls := findClass_of_methodNamed B.named
  have hlocks := B.notSynchronized
  have hS : va_S A s.heap s.heap [] := va_S.rf
  have hl := lv_entry ([.ref (ad 0), .int (nI t1), .int (nI u1), .int (bI b)]) (n := 4) (Nat.le_of_ble_eq_true rfl)
  rw [lg_entry_eq]
  generalize (lg_sl ([.ref (ad 0), .int (nI t1), .int (nI u1), .int (bI b)]) ++ List.replicate (4 - (lg_sl ([.ref (ad 0), .int (nI t1), .int (nI u1), .int (bI b)])).length) Slot.unset).toArray = ls at hl ⊢
  have hl : lv_has ls 4 [(0, .ref (ad 0)), (1, .int (nI t1)), (2, .int (nI u1)), (3, .int (bI b))] := hl
  have hc := hI.terms
  refine lv_aload_n hx hb dX4_literal_0 rfl (lv_at hl 0 rfl) ?_
  refine lv_iload_n hx hb dX4_literal_1 rfl (lv_at hl 1 rfl) ?_
  refine lv_iload_n hx hb dX4_literal_2 rfl (lv_at hl 2 rfl) ?_
  refine va_callv (va_runV (As := [.int (nI t1), .int (nI u1)]) (rest := []) ⟨hx, hb, hml, hown, hts⟩ (c_X4_checkPair_ok l D cI A ad σ t1 u1 hI ht hu hsu) (cwV 2 hts gX4_literal_X4_checkPair rfl rfl rfl (by decide +kernel) ⟨Nat.le_of_ble_eq_true rfl, Nat.le_of_ble_eq_true rfl⟩) ⟨Wc.blind, va_recv hK hP (ci := 3) (q0 := 0) rfl rfl, fun U hU hW => ⟨rfl, Wc.go hP hK hD hN hZ hS hU hW⟩⟩ rfl rfl hl.1 rfl (lv_room (Nat.le_of_ble_eq_true rfl)) dX4_literal_3 ⟨Nat.zero_le _, Nat.zero_le _⟩) hS (fun q _ h => h) (fun q h => h) (fun σ_1 t H1 locs ht hvm hwσ_1 hB hz1 hk1 hS => ?_)
  obtain ⟨hP, -, hD, -⟩ := hB
  rw [ht] at hP
  generalize H1 = H at hP hS ⊢
  rw [hwσ_1] at hP hD
  refine lv_aload_n hx hb dX4_literal_6 rfl (lv_at hl 0 rfl) ?_
  refine va_get (D := D) (ci := 3) (v := .int (nI (σ 0 0))) (C := RX4) (T := TX4) (N := 6) hx hb hts in_X4_literal_X4 hown hK hP 0 rfl rfl 3 (by decide) (hts _ lk_X4_literal_29) (fun _ h9 => h9) rfl dX4_literal_7 ?_
  refine lv_iconst (v := nI 3) hx hb dX4_literal_10 (by decide) ?_
  refine n_icmp_lt hx hb (tgt := 22) (by omega) (by omega) dX4_literal_11 (by decide) (fun c_11 => ?_) (fun c_11 => ?_)
  · refine lv_aload_n hx hb dX4_literal_22 rfl (lv_at hl 0 rfl) ?_
    refine va_get (D := D) (ci := 3) (v := .ref (ad 3)) (C := RX4) (T := TX4) (N := 6) hx hb hts in_X4_literal_X4 hown hK hP 0 rfl rfl 2 (by decide) (hts _ lk_X4_literal_25) (fun _ h9 => h9) rfl dX4_literal_23 ?_
    refine lv_aload_n hx hb dX4_literal_26 rfl (lv_at hl 0 rfl) ?_
    refine va_get (D := D) (ci := 3) (v := .int (nI (σ 0 0))) (C := RX4) (T := TX4) (N := 6) hx hb hts in_X4_literal_X4 hown hK hP 0 rfl rfl 3 (by decide) (hts _ lk_X4_literal_29) (fun _ h9 => h9) rfl dX4_literal_27 ?_
    refine lv_iload_n hx hb dX4_literal_30 rfl (lv_at hl 1 rfl) ?_
    refine lv_iload_n hx hb dX4_literal_31 rfl (lv_at hl 2 rfl) ?_
    refine lv_iload_n hx hb dX4_literal_32 rfl (lv_at hl 3 rfl) ?_
    refine vp_callSi (va_Run.run (va_runS (As := [.int (nI t1), .int (nI u1), .int (bI b)]) (rest := [.int (nI (σ 0 0)), .ref (ad 3)]) ⟨hx, hb, hml, hown, hts⟩ (c_X1_of l   t1 u1 b (by omega) (by omega)) (va_cwS 3 hts gX4_literal_X1_of rfl rfl rfl (by decide +kernel) ⟨Nat.le_of_ble_eq_true rfl, Nat.le_of_ble_eq_true rfl⟩) ⟨tt_blind, fun U hU hW => ⟨rfl, trivial⟩⟩ rfl rfl hl.1 rfl (lv_room (Nat.le_of_ble_eq_true rfl)) dX4_literal_33 ⟨Nat.zero_le _, Nat.zero_le _⟩)) (fun r_2 hr_2 => ?_)
    refine n_to (w := nI (litF t1 u1 b)) (hr_2.trans rfl) ?_
    refine n_ast (ws' := WC ad cI (sU σ 3 (σ 0 0) (litF t1 u1 b))) hx hb hK hP hD hS 3 0 rfl rfl (i := σ 0 0) (by omega) (by decide) (WCs3 ..) dX4_literal_36 (fun H locs hP hD hS => ?_)
    refine lv_aload_n hx hb dX4_literal_37 rfl (lv_at hl 0 rfl) ?_
    refine lv_dup hx hb dX4_literal_38 rfl ?_
    refine va_get (D := D) (ci := 3) (v := .int (nI (σ 0 0))) (C := RX4) (T := TX4) (N := 6) hx hb hts in_X4_literal_X4 hown hK hP 0 rfl rfl 3 (by decide) (hts _ lk_X4_literal_29) (fun _ h9 => h9) rfl dX4_literal_39 ?_
    refine lv_iconst (v := nI 1) hx hb dX4_literal_42 (by decide) ?_
    refine n_add hx hb dX4_literal_43 ?_
    refine va_put (D := D) (ci := 3) (v := .int (nI ((σ 0 0) + 1))) (ty := .int) (C := RX4) (T := TX4) (N := 6) hx hb hts in_X4_literal_X4 tyX4 tyX4_ok nmX4 hown hK hP hD hS 0 rfl rfl 3 (by decide) (hts _ lk_X4_literal_29) (fun _ h9 => h9) rfl (by decide +kernel) rfl rfl (Nat.le_of_ble_eq_true rfl) dX4_literal_44 (fun H locs hP hD hS => ?_)
    have hP : va_P D vwCl (WC ad cI (sU (sU σ 3 (σ 0 0) (litF t1 u1 b)) 0 0 ((σ 0 0) + 1))) H := hP
    have hD : va_D A (WC ad cI (sU (sU σ 3 (σ 0 0) (litF t1 u1 b)) 0 0 ((σ 0 0) + 1))) := hD
    refine lv_aload_n hx hb dX4_literal_47 rfl (lv_at hl 0 rfl) ?_
    refine va_get (D := D) (ci := 3) (v := .int (nI ((σ 0 0) + 1))) (C := RX4) (T := TX4) (N := 6) hx hb hts in_X4_literal_X4 hown hK hP 0 rfl rfl 3 (by decide) (hts _ lk_X4_literal_29) (fun _ h9 => h9) rfl dX4_literal_48 ?_
    exact W.iret (v := nI ((σ 0 0) + 1)) hx hb hr (fun t ht hW => ⟨⟨_, (sU (sU σ 3 (σ 0 0) (litF t1 u1 b)) 0 0 ((σ 0 0) + 1)), rfl, (⟨rfl, rfl⟩), Wc.go hP hK hD hN hZ hS ht hW⟩, hS.F ht⟩) hS.2.2 dX4_literal_51
  · omega
theorem in_X4_claim_X4 : ∀ w ∈ wsX40, w ∈ wsX4_claim := by decide +kernel
theorem lk_X4_claim_29 : Cond.fieldLink RX4 29 "ArrayClaims" "draftSize" "I" ∈ wsX4_claim := by decide +kernel
theorem lk_X4_claim_21 : Cond.fieldLink RX4 21 "ArrayClaims" "made" "LArrayClaims$ClaimList;" ∈ wsX4_claim := by decide +kernel
theorem in_X4_claim_X0 : ∀ w ∈ wsX00, w ∈ wsX4_claim := by decide +kernel
theorem lk_X4_claim_25 : Cond.fieldLink RX4 25 "ArrayClaims" "drafted" "[I" ∈ wsX4_claim := by decide +kernel
def rX4_claim_ok : Room := { frames := 1, cells := 0, slots := 0, locals := 24 }
set_option maxHeartbeats 4000000 in
set_option maxRecDepth 100000 in
theorem c_X4_claim_ok (l : Launch) (D : va_G) (cI : ClassId) (A : Nat → Prop) (ad : Nat → Nat) (σ : Nat → Nat → Nat)  (hI : IC σ) (hd0 : σ 0 0 ≠ 0) (hc8 : σ 0 2 < 8) : Met l yX4_claim wsX4_claim rX4_claim_ok (va_Pc [.ref (ad 0)] (Wc D cI A ad σ)) (va_Qi (fun r u => r = nI (σ 0 2) ∧ u = sU (addMF σ 0 (σ 0 0)) 0 0 0) (fun u t => Wc D cI A ad u t) A) 0 0 A := by
  refine Met.ofW (cc := cX4_claim) (maxL := 1) (ret := (some .int)) (by decide) rfl ?_
  intro p e s m args below meth c s₁ B hml hv
  obtain ⟨rfl, hP, hK, hD, hN, hZ⟩ := hv
  have hx := B.exec
  have hb := B.bytes
  have hr := B.returns
  have hts := atoms_spec (ws := wsX4_claim) B.pre
  have hown : s.vm.findClass RX4 = some m.cls := findClass_of_methodNamed B.named
  have hlocks := B.notSynchronized
  have hS : va_S A s.heap s.heap [] := va_S.rf
  have hl := lv_entry ([.ref (ad 0)]) (n := 1) (Nat.le_of_ble_eq_true rfl)
  rw [lg_entry_eq]
  generalize (lg_sl ([.ref (ad 0)]) ++ List.replicate (1 - (lg_sl ([.ref (ad 0)])).length) Slot.unset).toArray = ls at hl ⊢
  have hl : lv_has ls 1 [(0, .ref (ad 0))] := hl
  have hdr := hI.draft
  refine lv_aload_n hx hb dX4_claim_0 rfl (lv_at hl 0 rfl) ?_
  refine va_get (D := D) (ci := 3) (v := .int (nI (σ 0 0))) (C := RX4) (T := TX4) (N := 6) hx hb hts in_X4_claim_X4 hown hK hP 0 rfl rfl 3 (by decide) (hts _ lk_X4_claim_29) (fun _ h9 => h9) rfl dX4_claim_1 ?_
  refine q_if_ne hx hb (tgt := 15) (nI_z (by omega)) dX4_claim_4 (by decide) (fun c_4 => ?_) (fun c_4 => ?_)
  · refine lv_aload_n hx hb dX4_claim_15 rfl (lv_at hl 0 rfl) ?_
    refine va_get (D := D) (ci := 3) (v := .ref (ad 2)) (C := RX4) (T := TX4) (N := 6) hx hb hts in_X4_claim_X4 hown hK hP 0 rfl rfl 1 (by decide) (hts _ lk_X4_claim_21) (fun _ h9 => h9) rfl dX4_claim_16 ?_
    refine va_getN (D := D) (ci := 0) (v := .int (nI (σ 0 2))) (C := RX0) (T := TX0) (N := 3) hx hb hts in_X4_claim_X0 hown hK hP 2 rfl rfl 2 (by decide) (hN.use 7 rfl) (fun _ h9 => h9) rfl dX4_claim_19 ?_
    refine lv_bipush (v := nI 8) hx hb dX4_claim_22 (by decide) ?_
    refine n_icmp_lt hx hb (tgt := 35) (by omega) (by omega) dX4_claim_24 (by decide) (fun c_24 => ?_) (fun c_24 => ?_)
    · refine lv_aload_n hx hb dX4_claim_35 rfl (lv_at hl 0 rfl) ?_
      refine va_get (D := D) (ci := 3) (v := .ref (ad 2)) (C := RX4) (T := TX4) (N := 6) hx hb hts in_X4_claim_X4 hown hK hP 0 rfl rfl 1 (by decide) (hts _ lk_X4_claim_21) (fun _ h9 => h9) rfl dX4_claim_36 ?_
      refine lv_aload_n hx hb dX4_claim_39 rfl (lv_at hl 0 rfl) ?_
      refine va_get (D := D) (ci := 3) (v := .ref (ad 3)) (C := RX4) (T := TX4) (N := 6) hx hb hts in_X4_claim_X4 hown hK hP 0 rfl rfl 2 (by decide) (hts _ lk_X4_claim_25) (fun _ h9 => h9) rfl dX4_claim_40 ?_
      refine lv_iconst (v := nI 0) hx hb dX4_claim_43 (by decide) ?_
      refine lv_aload_n hx hb dX4_claim_44 rfl (lv_at hl 0 rfl) ?_
      refine va_get (D := D) (ci := 3) (v := .int (nI (σ 0 0))) (C := RX4) (T := TX4) (N := 6) hx hb hts in_X4_claim_X4 hown hK hP 0 rfl rfl 3 (by decide) (hts _ lk_X4_claim_29) (fun _ h9 => h9) rfl dX4_claim_45 ?_
      refine va_callv (va_runV (As := [.ref (ad 3), .int (nI 0), .int (nI (σ 0 0))]) (rest := []) ⟨hx, hb, hml, hown, hts⟩ (c_X0_add_made l D cI A ad σ 0 (σ 0 0) hI hc8 hdr (by omega)) (cwV 3 hts gX4_claim_X0_add rfl rfl rfl (by decide +kernel) ⟨Nat.le_of_ble_eq_true rfl, Nat.le_of_ble_eq_true rfl⟩) ⟨Wc.blind, va_recv hK hP (ci := 0) (q0 := 2) rfl rfl, fun U hU hW => ⟨rfl, Wc.go hP hK hD hN hZ hS hU hW⟩⟩ rfl rfl hl.1 rfl (lv_room (Nat.le_of_ble_eq_true rfl)) dX4_claim_48 ⟨Nat.zero_le _, Nat.zero_le _⟩) hS (fun q _ h => h) (fun q h => h) (fun σ_1 t H1 locs ht hvm hwσ_1 hB hz1 hk1 hS => ?_)
      obtain ⟨hP, -, hD, -⟩ := hB
      rw [ht] at hP
      generalize H1 = H at hP hS ⊢
      have h02 : σ_1 0 2 = σ 0 2 + 1 := by rw [hwσ_1]; exact addMF_rows.2.2.1
      refine lv_aload_n hx hb dX4_claim_51 rfl (lv_at hl 0 rfl) ?_
      refine lv_iconst (v := nI 0) hx hb dX4_claim_52 (by decide) ?_
      refine va_put (D := D) (ci := 3) (v := .int (nI 0)) (ty := .int) (C := RX4) (T := TX4) (N := 6) hx hb hts in_X4_claim_X4 tyX4 tyX4_ok nmX4 hown hK hP hD hS 0 rfl rfl 3 (by decide) (hts _ lk_X4_claim_29) (fun _ h9 => h9) rfl (by decide +kernel) rfl rfl (Nat.le_of_ble_eq_true rfl) dX4_claim_53 (fun H locs hP hD hS => ?_)
      have hP : va_P D vwCl (WC ad cI (sU σ_1 0 0 0)) H := hP
      have hD : va_D A (WC ad cI (sU σ_1 0 0 0)) := hD
      refine lv_aload_n hx hb dX4_claim_56 rfl (lv_at hl 0 rfl) ?_
      refine va_get (D := D) (ci := 3) (v := .ref (ad 2)) (C := RX4) (T := TX4) (N := 6) hx hb hts in_X4_claim_X4 hown hK hP 0 rfl rfl 1 (by decide) (hts _ lk_X4_claim_21) (fun _ h9 => h9) rfl dX4_claim_57 ?_
      refine va_getN (D := D) (ci := 0) (v := .int (nI (σ_1 0 2))) (C := RX0) (T := TX0) (N := 3) hx hb hts in_X4_claim_X0 hown hK hP 2 rfl rfl 2 (by decide) (hN.use 7 rfl) (fun _ h9 => h9) rfl dX4_claim_60 ?_
      refine lv_iconst (v := nI 1) hx hb dX4_claim_63 (by decide) ?_
      refine n_sub hx hb (by omega) dX4_claim_64 ?_
      exact W.iret (v := nI ((σ_1 0 2) - 1)) hx hb hr (fun t ht hW => ⟨⟨_, (sU σ_1 0 0 0), rfl, (⟨by rw [h02, Nat.add_sub_cancel], by rw [hwσ_1]⟩), Wc.go hP hK hD hN hZ hS ht hW⟩, hS.F ht⟩) hS.2.2 dX4_claim_65
    · omega
  · exact absurd c_4 hd0
theorem in_X4_without_X4 : ∀ w ∈ wsX40, w ∈ wsX4_without := by decide +kernel
theorem lk_X4_without_21 : Cond.fieldLink RX4 21 "ArrayClaims" "made" "LArrayClaims$ClaimList;" ∈ wsX4_without := by decide +kernel
theorem in_X4_without_X0 : ∀ w ∈ wsX00, w ∈ wsX4_without := by decide +kernel
def rX4_without_ok : Room := { frames := 16, cells := 0, slots := 0, locals := 504 }
set_option maxHeartbeats 4000000 in
set_option maxRecDepth 100000 in
theorem c_X4_without_ok (l : Launch) (D : va_G) (cI : ClassId) (A : Nat → Prop) (ad : Nat → Nat) (σ : Nat → Nat → Nat) (k : Nat) (hI : IC σ) (hW0 : WF σ) (hM0 : MadeW σ) (hk : k < σ 0 2) : Met l yX4_without wsX4_without rX4_without_ok (va_Pc [.ref (ad 0), .int (nI k)] (Wc D cI A ad σ)) (va_Qi (fun r u => r = bI (canB σ (σ 0 2) (k + 1)) ∧ KS σ u) (fun u t => Wc D cI A ad u t) A) 0 0 A := by
  refine Met.ofW (cc := cX4_without) (maxL := 2) (ret := (some .boolean)) (by decide) rfl ?_
  intro p e s m args below meth c s₁ B hml hv
  obtain ⟨rfl, hP, hK, hD, hN, hZ⟩ := hv
  have hx := B.exec
  have hb := B.bytes
  have hr := B.returns
  have hts := atoms_spec (ws := wsX4_without) B.pre
  have hown : s.vm.findClass RX4 = some m.cls := findClass_of_methodNamed B.named
  have hlocks := B.notSynchronized
  have hS : va_S A s.heap s.heap [] := va_S.rf
  have hl := lv_entry ([.ref (ad 0), .int (nI k)]) (n := 2) (Nat.le_of_ble_eq_true rfl)
  rw [lg_entry_eq]
  generalize (lg_sl ([.ref (ad 0), .int (nI k)]) ++ List.replicate (2 - (lg_sl ([.ref (ad 0), .int (nI k)])).length) Slot.unset).toArray = ls at hl ⊢
  have hl : lv_has ls 2 [(0, .ref (ad 0)), (1, .int (nI k))] := hl
  have hcm := hI.claims
  refine lv_iload_n hx hb dX4_without_0 rfl (lv_at hl 1 rfl) ?_
  refine lv_if_lt hx hb (tgt := 15) dX4_without_1 (by decide) (fun c_1 => ?_) (fun c_1 => ?_)
  · exact absurd c_1 (nI_pos (by omega))
  · refine lv_iload_n hx hb dX4_without_4 rfl (lv_at hl 1 rfl) ?_
    refine lv_aload_n hx hb dX4_without_5 rfl (lv_at hl 0 rfl) ?_
    refine va_get (D := D) (ci := 3) (v := .ref (ad 2)) (C := RX4) (T := TX4) (N := 6) hx hb hts in_X4_without_X4 hown hK hP 0 rfl rfl 1 (by decide) (hts _ lk_X4_without_21) (fun _ h9 => h9) rfl dX4_without_6 ?_
    refine va_getN (D := D) (ci := 0) (v := .int (nI (σ 0 2))) (C := RX0) (T := TX0) (N := 3) hx hb hts in_X4_without_X0 hown hK hP 2 rfl rfl 2 (by decide) (hN.use 7 rfl) (fun _ h9 => h9) rfl dX4_without_9 ?_
    refine n_icmp_lt hx hb (tgt := 23) (by omega) (by omega) dX4_without_12 (by decide) (fun c_12 => ?_) (fun c_12 => ?_)
    · refine lv_aload_n hx hb dX4_without_23 rfl (lv_at hl 0 rfl) ?_
      refine lv_aload_n hx hb dX4_without_24 rfl (lv_at hl 0 rfl) ?_
      refine va_get (D := D) (ci := 3) (v := .ref (ad 2)) (C := RX4) (T := TX4) (N := 6) hx hb hts in_X4_without_X4 hown hK hP 0 rfl rfl 1 (by decide) (hts _ lk_X4_without_21) (fun _ h9 => h9) rfl dX4_without_25 ?_
      refine va_getN (D := D) (ci := 0) (v := .int (nI (σ 0 2))) (C := RX0) (T := TX0) (N := 3) hx hb hts in_X4_without_X0 hown hK hP 2 rfl rfl 2 (by decide) (hN.use 7 rfl) (fun _ h9 => h9) rfl dX4_without_28 ?_
      refine lv_iload_n hx hb dX4_without_31 rfl (lv_at hl 1 rfl) ?_
      refine n_to (w := mI (k + 1)) ((mI_succ _).symm) ?_
      refine va_callv (va_runV (As := [.int (nI (σ 0 2)), .int (mI (k + 1))]) (rest := []) ⟨hx, hb, hml, hown, hts⟩ (c_X4_askClaims l D cI A ad σ (σ 0 2) (k + 1) hI (Nat.le_refl _) (by omega)) (cwV 2 hts gX4_without_X4_askClaims rfl rfl rfl (by decide +kernel) ⟨Nat.le_of_ble_eq_true rfl, Nat.le_of_ble_eq_true rfl⟩) ⟨Wc.blind, va_recv hK hP (ci := 3) (q0 := 0) rfl rfl, fun U hU hW => ⟨rfl, Wc.go hP hK hD hN hZ hS hU hW⟩⟩ rfl rfl hl.1 rfl (lv_room (Nat.le_of_ble_eq_true rfl)) dX4_without_32 ⟨Nat.zero_le _, Nat.zero_le _⟩) hS (fun q _ h => h) (fun q h => h) (fun σ_1 t H1 locs ht hvm hwσ_1 hB hz1 hk1 hS => ?_)
      obtain ⟨hP, -, hD, -⟩ := hB
      rw [ht] at hP
      generalize H1 = H at hP hS ⊢
      have hkq := KS.ofAQ hI (by omega) hwσ_1
      have hIq := hkq.2.2
      have hcb := AQ.can hI (by omega) hwσ_1
      have hAk := AQ.ask hI (Nat.le_refl _) hM0 hwσ_1
      refine lv_aload_n hx hb dX4_without_35 rfl (lv_at hl 0 rfl) ?_
      refine va_calli (va_runV (As := []) (rest := []) ⟨hx, hb, hml, hown, hts⟩ (c_X4_isPossible l D cI A ad σ_1 hIq (hkq.wf hW0) hAk) (cwV 0 hts gX4_without_X4_isPossible rfl rfl rfl (by decide +kernel) ⟨Nat.le_of_ble_eq_true rfl, Nat.le_of_ble_eq_true rfl⟩) ⟨Wc.blind, va_recv hK hP (ci := 3) (q0 := 0) rfl rfl, fun U hU hW => ⟨rfl, Wc.go hP hK hD hN hZ hS hU hW⟩⟩ rfl rfl hl.1 rfl (lv_room (Nat.le_of_ble_eq_true rfl)) dX4_without_36 ⟨Nat.zero_le _, Nat.zero_le _⟩) hS (fun q _ h => h) (fun q h => h) (fun r_3 σ_2 t H1 locs ht hvm hwσ_2 hB hz1 hk1 hS => ?_)
      obtain ⟨hr_3, hwσ_2⟩ := hwσ_2
      refine n_to (w := bI (canB σ (σ 0 2) (k + 1))) (by rw [hr_3, hcb]) ?_
      obtain ⟨hP, -, hD, -⟩ := hB
      rw [ht] at hP
      generalize H1 = H at hP hS ⊢
      exact W.zret (v := bI (canB σ (σ 0 2) (k + 1))) hx hb hr (bI_nar _) (fun t ht hW => ⟨⟨_, σ_2, rfl, (⟨rfl, hkq.tr (KS.ofFinds hIq hwσ_2)⟩), Wc.go hP hK hD hN hZ hS ht hW⟩, hS.F ht⟩) hS.2.2 dX4_without_39
    · omega
theorem in_X4_same_X4 : ∀ w ∈ wsX40, w ∈ wsX4_same := by decide +kernel
theorem lk_X4_same_21 : Cond.fieldLink RX4 21 "ArrayClaims" "made" "LArrayClaims$ClaimList;" ∈ wsX4_same := by decide +kernel
theorem in_X4_same_X0 : ∀ w ∈ wsX00, w ∈ wsX4_same := by decide +kernel
theorem lk_X4_same_33 : Cond.fieldLink RX4 33 "ArrayClaims" "asked" "LArrayClaims$ClaimList;" ∈ wsX4_same := by decide +kernel
def rX4_same_ok : Room := { frames := 16, cells := 0, slots := 0, locals := 504 }
set_option maxHeartbeats 4000000 in
set_option maxRecDepth 100000 in
theorem c_X4_same_ok (l : Launch) (D : va_G) (cI : ClassId) (A : Nat → Prop) (ad : Nat → Nat) (σ : Nat → Nat → Nat) (t1 u1 : Nat) (hI : IC σ) (ht : t1 < σ 0 1) (hu : u1 < σ 0 1) (hsu : σ 6 t1 = σ 6 u1) (hW0 : WF σ) (hM0 : MadeW σ) (hcan : canXB σ 1 (fun _ => litF t1 u1 true) = true ∨ canXB σ 1 (fun _ => litF t1 u1 false) = true) : Met l yX4_same wsX4_same rX4_same_ok (va_Pc [.ref (ad 0), .int (nI t1), .int (nI u1)] (Wc D cI A ad σ)) (va_Qi (fun r u => ((r = nI 2 ∧ canXB σ 1 (fun _ => litF t1 u1 true) = true ∧ canXB σ 1 (fun _ => litF t1 u1 false) = true) ∨ (r = nI 1 ∧ canXB σ 1 (fun _ => litF t1 u1 true) = true ∧ canXB σ 1 (fun _ => litF t1 u1 false) = false) ∨ (r = nI 0 ∧ canXB σ 1 (fun _ => litF t1 u1 true) = false ∧ canXB σ 1 (fun _ => litF t1 u1 false) = true)) ∧ KS σ u) (fun u t => Wc D cI A ad u t) A) 0 0 A := by
  refine Met.ofW (cc := cX4_same) (maxL := 5) (ret := (some .int)) (by decide) rfl ?_
  intro p e s m args below meth c s₁ B hml hv
  obtain ⟨rfl, hP, hK, hD, hN, hZ⟩ := hv
  have hx := B.exec
  have hb := B.bytes
  have hr := B.returns
  have hts := atoms_spec (ws := wsX4_same) B.pre
  have hown : s.vm.findClass RX4 = some m.cls := findClass_of_methodNamed B.named
  have hlocks := B.notSynchronized
  have hS : va_S A s.heap s.heap [] := va_S.rf
  have hl := lv_entry ([.ref (ad 0), .int (nI t1), .int (nI u1)]) (n := 5) (Nat.le_of_ble_eq_true rfl)
  rw [lg_entry_eq]
  generalize (lg_sl ([.ref (ad 0), .int (nI t1), .int (nI u1)]) ++ List.replicate (5 - (lg_sl ([.ref (ad 0), .int (nI t1), .int (nI u1)])).length) Slot.unset).toArray = ls at hl ⊢
  have hl : lv_has ls 5 [(0, .ref (ad 0)), (1, .int (nI t1)), (2, .int (nI u1))] := hl
  have hc := hI.terms
  have hcm := hI.claims
  have hl1 := litF_ok true (t := t1) (u := u1) (by omega) (by omega)
  have hl0 := litF_ok false (t := t1) (u := u1) (by omega) (by omega)
  have HLW1 : litW σ (litF t1 u1 true) := by unfold litW; rw [hl1.2.1, hl1.2.2.1]; exact ⟨ht, hu, hsu⟩
  have HLW0 : litW σ (litF t1 u1 false) := by unfold litW; rw [hl0.2.1, hl0.2.2.1]; exact ⟨ht, hu, hsu⟩
  refine lv_aload_n hx hb dX4_same_0 rfl (lv_at hl 0 rfl) ?_
  refine lv_iload_n hx hb dX4_same_1 rfl (lv_at hl 1 rfl) ?_
  refine lv_iload_n hx hb dX4_same_2 rfl (lv_at hl 2 rfl) ?_
  refine va_callv (va_runV (As := [.int (nI t1), .int (nI u1)]) (rest := []) ⟨hx, hb, hml, hown, hts⟩ (c_X4_checkPair_ok l D cI A ad σ t1 u1 hI ht hu hsu) (cwV 2 hts gX4_same_X4_checkPair rfl rfl rfl (by decide +kernel) ⟨Nat.le_of_ble_eq_true rfl, Nat.le_of_ble_eq_true rfl⟩) ⟨Wc.blind, va_recv hK hP (ci := 3) (q0 := 0) rfl rfl, fun U hU hW => ⟨rfl, Wc.go hP hK hD hN hZ hS hU hW⟩⟩ rfl rfl hl.1 rfl (lv_room (Nat.le_of_ble_eq_true rfl)) dX4_same_3 ⟨Nat.zero_le _, Nat.zero_le _⟩) hS (fun q _ h => h) (fun q h => h) (fun σ_1 t H1 locs ht hvm hwσ_1 hB hz1 hk1 hS => ?_)
  obtain ⟨hP, -, hD, -⟩ := hB
  rw [ht] at hP
  generalize H1 = H at hP hS ⊢
  rw [hwσ_1] at hP hD
  refine lv_aload_n hx hb dX4_same_6 rfl (lv_at hl 0 rfl) ?_
  refine lv_aload_n hx hb dX4_same_7 rfl (lv_at hl 0 rfl) ?_
  refine va_get (D := D) (ci := 3) (v := .ref (ad 2)) (C := RX4) (T := TX4) (N := 6) hx hb hts in_X4_same_X4 hown hK hP 0 rfl rfl 1 (by decide) (hts _ lk_X4_same_21) (fun _ h9 => h9) rfl dX4_same_8 ?_
  refine va_getN (D := D) (ci := 0) (v := .int (nI (σ 0 2))) (C := RX0) (T := TX0) (N := 3) hx hb hts in_X4_same_X0 hown hK hP 2 rfl rfl 2 (by decide) (hN.use 7 rfl) (fun _ h9 => h9) rfl dX4_same_11 ?_
  refine lv_iconst (v := mI 0) hx hb dX4_same_14 (by decide) ?_
  refine va_callv (va_runV (As := [.int (nI (σ 0 2)), .int (mI 0)]) (rest := []) ⟨hx, hb, hml, hown, hts⟩ (c_X4_askClaims l D cI A ad σ (σ 0 2) 0 hI (Nat.le_refl _) (by omega)) (cwV 2 hts gX4_same_X4_askClaims rfl rfl rfl (by decide +kernel) ⟨Nat.le_of_ble_eq_true rfl, Nat.le_of_ble_eq_true rfl⟩) ⟨Wc.blind, va_recv hK hP (ci := 3) (q0 := 0) rfl rfl, fun U hU hW => ⟨rfl, Wc.go hP hK hD hN hZ hS hU hW⟩⟩ rfl rfl hl.1 rfl (lv_room (Nat.le_of_ble_eq_true rfl)) dX4_same_15 ⟨Nat.zero_le _, Nat.zero_le _⟩) hS (fun q _ h => h) (fun q h => h) (fun σ_2 t H1 locs ht hvm hwσ_2 hB hz1 hk1 hS => ?_)
  obtain ⟨hP, -, hD, -⟩ := hB
  rw [ht] at hP
  generalize H1 = H at hP hS ⊢
  have har : AR σ σ_2 0 (fun _ => litF t1 u1 true) := AR.ofAQ hI hwσ_2
  refine lv_aload_n hx hb dX4_same_18 rfl (lv_at hl 0 rfl) ?_
  refine va_get (D := D) (ci := 3) (v := .ref (ad 4)) (C := RX4) (T := TX4) (N := 6) hx hb hts in_X4_same_X4 hown hK hP 0 rfl rfl 4 (by decide) (hts _ lk_X4_same_33) (fun _ h9 => h9) rfl dX4_same_19 ?_
  refine lv_iload_n hx hb dX4_same_22 rfl (lv_at hl 1 rfl) ?_
  refine lv_iload_n hx hb dX4_same_23 rfl (lv_at hl 2 rfl) ?_
  refine lv_iconst (v := nI 1) hx hb dX4_same_24 (by decide) ?_
  refine vp_callSi (va_Run.run (va_runS (As := [.int (nI t1), .int (nI u1), .int (nI 1)]) (rest := [.ref (ad 4)]) ⟨hx, hb, hml, hown, hts⟩ (c_X1_of l   t1 u1 true (by omega) (by omega)) (va_cwS 3 hts gX4_same_X1_of rfl rfl rfl (by decide +kernel) ⟨Nat.le_of_ble_eq_true rfl, Nat.le_of_ble_eq_true rfl⟩) ⟨tt_blind, fun U hU hW => ⟨rfl, trivial⟩⟩ rfl rfl hl.1 rfl (lv_room (Nat.le_of_ble_eq_true rfl)) dX4_same_25 ⟨Nat.zero_le _, Nat.zero_le _⟩)) (fun r_3 hr_3 => ?_)
  refine n_to (w := nI (litF t1 u1 true)) (hr_3.trans rfl) ?_
  refine va_callv (va_runV (As := [.int (nI (litF t1 u1 true))]) (rest := []) ⟨hx, hb, hml, hown, hts⟩ (c_X0_addSingle l D cI A ad σ_2 (litF t1 u1 true) har.2.2.1 (by rw [har.2.2.2.1]; omega)) (cwV 1 hts gX4_same_X0_addSingle rfl rfl rfl (by decide +kernel) ⟨Nat.le_of_ble_eq_true rfl, Nat.le_of_ble_eq_true rfl⟩) ⟨Wc.blind, va_recv hK hP (ci := 0) (q0 := 4) rfl rfl, fun U hU hW => ⟨rfl, Wc.go hP hK hD hN hZ hS hU hW⟩⟩ rfl rfl hl.1 rfl (lv_room (Nat.le_of_ble_eq_true rfl)) dX4_same_28 ⟨Nat.zero_le _, Nat.zero_le _⟩) hS (fun q _ h => h) (fun q h => h) (fun σ_4 t H1 locs ht hvm hwσ_4 hB hz1 hk1 hS => ?_)
  obtain ⟨hP, -, hD, -⟩ := hB
  rw [ht] at hP
  generalize H1 = H at hP hS ⊢
  have har : AR σ σ_4 1 (fun _ => litF t1 u1 true) := by rw [hwσ_4]; exact har.single hI (by omega) hl1.1 rfl
  refine lv_aload_n hx hb dX4_same_31 rfl (lv_at hl 0 rfl) ?_
  refine va_calli (va_runV (As := []) (rest := []) ⟨hx, hb, hml, hown, hts⟩ (c_X4_isPossible l D cI A ad σ_4 har.2.2.1 (har.ks.wf hW0) (har.ask hM0 (fun i _ => HLW1))) (cwV 0 hts gX4_same_X4_isPossible rfl rfl rfl (by decide +kernel) ⟨Nat.le_of_ble_eq_true rfl, Nat.le_of_ble_eq_true rfl⟩) ⟨Wc.blind, va_recv hK hP (ci := 3) (q0 := 0) rfl rfl, fun U hU hW => ⟨rfl, Wc.go hP hK hD hN hZ hS hU hW⟩⟩ rfl rfl hl.1 rfl (lv_room (Nat.le_of_ble_eq_true rfl)) dX4_same_32 ⟨Nat.zero_le _, Nat.zero_le _⟩) hS (fun q _ h => h) (fun q h => h) (fun r_6 σ_5 t H1 locs ht hvm hwσ_5 hB hz1 hk1 hS => ?_)
  obtain ⟨hr_6, hwσ_5⟩ := hwσ_5
  refine n_to (w := bI (canXB σ 1 (fun _ => litF t1 u1 true))) (by rw [hr_6, har.can]) ?_
  obtain ⟨hP, -, hD, -⟩ := hB
  rw [ht] at hP
  generalize H1 = H at hP hS ⊢
  have har := har.finds hwσ_5
  refine lv_istore_n (lv' := [(3, .int (bI (canXB σ 1 (fun _ => litF t1 u1 true)))), (0, .ref (ad 0)), (1, .int (nI t1)), (2, .int (nI u1))]) hx hb dX4_same_35 rfl hl (by decide) rfl (fun ls hl => ?_)
  refine lv_aload_n hx hb dX4_same_36 rfl (lv_at hl 1 rfl) ?_
  refine va_get (D := D) (ci := 3) (v := .ref (ad 4)) (C := RX4) (T := TX4) (N := 6) hx hb hts in_X4_same_X4 hown hK hP 0 rfl rfl 4 (by decide) (hts _ lk_X4_same_33) (fun _ h9 => h9) rfl dX4_same_37 ?_
  refine lv_aload_n hx hb dX4_same_40 rfl (lv_at hl 1 rfl) ?_
  refine va_get (D := D) (ci := 3) (v := .ref (ad 2)) (C := RX4) (T := TX4) (N := 6) hx hb hts in_X4_same_X4 hown hK hP 0 rfl rfl 1 (by decide) (hts _ lk_X4_same_21) (fun _ h9 => h9) rfl dX4_same_41 ?_
  refine va_getN (D := D) (ci := 0) (v := .int (nI (σ_5 0 2))) (C := RX0) (T := TX0) (N := 3) hx hb hts in_X4_same_X0 hown hK hP 2 rfl rfl 2 (by decide) (hN.use 7 rfl) (fun _ h9 => h9) rfl dX4_same_44 ?_
  refine n_to (w := nI (σ 0 2)) (by rw [har.2.1 2 (by decide)]) ?_
  refine va_callv (va_runV (As := [.int (nI (σ 0 2))]) (rest := []) ⟨hx, hb, hml, hown, hts⟩ (c_X0_cutTo_asked l D cI A ad σ_5 (σ 0 2) har.2.2.1 (by omega)) (cwV 1 hts gX4_same_X0_cutTo rfl rfl rfl (by decide +kernel) ⟨Nat.le_of_ble_eq_true rfl, Nat.le_of_ble_eq_true rfl⟩) ⟨Wc.blind, va_recv hK hP (ci := 0) (q0 := 4) rfl rfl, fun U hU hW => ⟨rfl, Wc.go hP hK hD hN hZ hS hU hW⟩⟩ rfl rfl hl.1 rfl (lv_room (Nat.le_of_ble_eq_true rfl)) dX4_same_47 ⟨Nat.zero_le _, Nat.zero_le _⟩) hS (fun q _ h => h) (fun q h => h) (fun σ_7 t H1 locs ht hvm hwσ_7 hB hz1 hk1 hS => ?_)
  obtain ⟨hP, -, hD, -⟩ := hB
  rw [ht] at hP
  generalize H1 = H at hP hS ⊢
  have har : AR σ σ_7 0 (fun _ => litF t1 u1 false) := by rw [hwσ_7]; exact har.cut
  refine lv_aload_n hx hb dX4_same_50 rfl (lv_at hl 1 rfl) ?_
  refine va_get (D := D) (ci := 3) (v := .ref (ad 4)) (C := RX4) (T := TX4) (N := 6) hx hb hts in_X4_same_X4 hown hK hP 0 rfl rfl 4 (by decide) (hts _ lk_X4_same_33) (fun _ h9 => h9) rfl dX4_same_51 ?_
  refine lv_iload_n hx hb dX4_same_54 rfl (lv_at hl 2 rfl) ?_
  refine lv_iload_n hx hb dX4_same_55 rfl (lv_at hl 3 rfl) ?_
  refine lv_iconst (v := nI 0) hx hb dX4_same_56 (by decide) ?_
  refine vp_callSi (va_Run.run (va_runS (As := [.int (nI t1), .int (nI u1), .int (nI 0)]) (rest := [.ref (ad 4)]) ⟨hx, hb, hml, hown, hts⟩ (c_X1_of l   t1 u1 false (by omega) (by omega)) (va_cwS 3 hts gX4_same_X1_of rfl rfl rfl (by decide +kernel) ⟨Nat.le_of_ble_eq_true rfl, Nat.le_of_ble_eq_true rfl⟩) ⟨tt_blind, fun U hU hW => ⟨rfl, trivial⟩⟩ rfl rfl hl.1 rfl (lv_room (Nat.le_of_ble_eq_true rfl)) dX4_same_57 ⟨Nat.zero_le _, Nat.zero_le _⟩)) (fun r_8 hr_8 => ?_)
  refine n_to (w := nI (litF t1 u1 false)) (hr_8.trans rfl) ?_
  refine va_callv (va_runV (As := [.int (nI (litF t1 u1 false))]) (rest := []) ⟨hx, hb, hml, hown, hts⟩ (c_X0_addSingle l D cI A ad σ_7 (litF t1 u1 false) har.2.2.1 (by rw [har.2.2.2.1]; omega)) (cwV 1 hts gX4_same_X0_addSingle rfl rfl rfl (by decide +kernel) ⟨Nat.le_of_ble_eq_true rfl, Nat.le_of_ble_eq_true rfl⟩) ⟨Wc.blind, va_recv hK hP (ci := 0) (q0 := 4) rfl rfl, fun U hU hW => ⟨rfl, Wc.go hP hK hD hN hZ hS hU hW⟩⟩ rfl rfl hl.1 rfl (lv_room (Nat.le_of_ble_eq_true rfl)) dX4_same_60 ⟨Nat.zero_le _, Nat.zero_le _⟩) hS (fun q _ h => h) (fun q h => h) (fun σ_9 t H1 locs ht hvm hwσ_9 hB hz1 hk1 hS => ?_)
  obtain ⟨hP, -, hD, -⟩ := hB
  rw [ht] at hP
  generalize H1 = H at hP hS ⊢
  have har : AR σ σ_9 1 (fun _ => litF t1 u1 false) := by rw [hwσ_9]; exact har.single hI (by omega) hl0.1 rfl
  refine lv_aload_n hx hb dX4_same_63 rfl (lv_at hl 1 rfl) ?_
  refine va_calli (va_runV (As := []) (rest := []) ⟨hx, hb, hml, hown, hts⟩ (c_X4_isPossible l D cI A ad σ_9 har.2.2.1 (har.ks.wf hW0) (har.ask hM0 (fun i _ => HLW0))) (cwV 0 hts gX4_same_X4_isPossible rfl rfl rfl (by decide +kernel) ⟨Nat.le_of_ble_eq_true rfl, Nat.le_of_ble_eq_true rfl⟩) ⟨Wc.blind, va_recv hK hP (ci := 3) (q0 := 0) rfl rfl, fun U hU hW => ⟨rfl, Wc.go hP hK hD hN hZ hS hU hW⟩⟩ rfl rfl hl.1 rfl (lv_room (Nat.le_of_ble_eq_true rfl)) dX4_same_64 ⟨Nat.zero_le _, Nat.zero_le _⟩) hS (fun q _ h => h) (fun q h => h) (fun r_11 σ_10 t H1 locs ht hvm hwσ_10 hB hz1 hk1 hS => ?_)
  obtain ⟨hr_11, hwσ_10⟩ := hwσ_10
  refine n_to (w := bI (canXB σ 1 (fun _ => litF t1 u1 false))) (by rw [hr_11, har.can]) ?_
  obtain ⟨hP, -, hD, -⟩ := hB
  rw [ht] at hP
  generalize H1 = H at hP hS ⊢
  have har := har.finds hwσ_10
  refine lv_istore (lv' := [(4, .int (bI (canXB σ 1 (fun _ => litF t1 u1 false)))), (3, .int (bI (canXB σ 1 (fun _ => litF t1 u1 true)))), (0, .ref (ad 0)), (1, .int (nI t1)), (2, .int (nI u1))]) hx hb dX4_same_67 hl (by decide) rfl (fun ls hl => ?_)
  refine lv_iload_n hx hb dX4_same_69 rfl (lv_at hl 1 rfl) ?_
  refine q_if_ne hx hb (tgt := 86) (bI_z) dX4_same_70 (by decide) (fun c_70 => ?_) (fun c_70 => ?_)
  · refine lv_iload_n hx hb dX4_same_86 rfl (lv_at hl 1 rfl) ?_
    refine q_if_eq hx hb (tgt := 97) (bI_z) dX4_same_87 (by decide) (fun c_87 => ?_) (fun c_87 => ?_)
    · exact absurd c_87 c_70
    · refine lv_iload hx hb dX4_same_90 (lv_at hl 0 rfl) ?_
      refine q_if_eq hx hb (tgt := 97) (bI_z) dX4_same_92 (by decide) (fun c_92 => ?_) (fun c_92 => ?_)
      · refine lv_iload_n hx hb dX4_same_97 rfl (lv_at hl 1 rfl) ?_
        refine q_if_eq hx hb (tgt := 105) (bI_z) dX4_same_98 (by decide) (fun c_98 => ?_) (fun c_98 => ?_)
        · exact absurd c_98 c_87
        · refine lv_iconst (v := nI 1) hx hb dX4_same_101 (by decide) ?_
          refine lv_goto (tgt := 106) hx hb dX4_same_102 (by decide) ?_
          exact W.iret (v := nI 1) hx hb hr (fun t ht hW => ⟨⟨_, σ_10, rfl, (⟨by first | exact Or.inr (Or.inl ⟨rfl, ts_nf c_98, c_92⟩) | exact Or.inr (Or.inr ⟨rfl, c_98, by first | exact ts_nf c_75 | exact (hcan.resolve_left (ts_ff c_98))⟩), har.ks⟩), Wc.go hP hK hD hN hZ hS ht hW⟩, hS.F ht⟩) hS.2.2 dX4_same_106
      · refine lv_iconst (v := nI 2) hx hb dX4_same_95 (by decide) ?_
        exact W.iret (v := nI 2) hx hb hr (fun t ht hW => ⟨⟨_, σ_10, rfl, (⟨Or.inl ⟨rfl, ts_nf c_87, ts_nf c_92⟩, har.ks⟩), Wc.go hP hK hD hN hZ hS ht hW⟩, hS.F ht⟩) hS.2.2 dX4_same_96
  · refine lv_iload hx hb dX4_same_73 (lv_at hl 0 rfl) ?_
    refine q_if_ne hx hb (tgt := 86) (bI_z) dX4_same_75 (by decide) (fun c_75 => ?_) (fun c_75 => ?_)
    · refine lv_iload_n hx hb dX4_same_86 rfl (lv_at hl 1 rfl) ?_
      refine q_if_eq hx hb (tgt := 97) (bI_z) dX4_same_87 (by decide) (fun c_87 => ?_) (fun c_87 => ?_)
      · refine lv_iload_n hx hb dX4_same_97 rfl (lv_at hl 1 rfl) ?_
        refine q_if_eq hx hb (tgt := 105) (bI_z) dX4_same_98 (by decide) (fun c_98 => ?_) (fun c_98 => ?_)
        · refine lv_iconst (v := nI 0) hx hb dX4_same_105 (by decide) ?_
          exact W.iret (v := nI 0) hx hb hr (fun t ht hW => ⟨⟨_, σ_10, rfl, (⟨by first | exact Or.inr (Or.inl ⟨rfl, ts_nf c_98, c_92⟩) | exact Or.inr (Or.inr ⟨rfl, c_98, by first | exact ts_nf c_75 | exact (hcan.resolve_left (ts_ff c_98))⟩), har.ks⟩), Wc.go hP hK hD hN hZ hS ht hW⟩, hS.F ht⟩) hS.2.2 dX4_same_106
        · exact absurd c_87 c_98
      · exact absurd c_70 c_87
    · exact absurd hcan (fun q => q.elim (ts_ff c_70) (ts_ff c_75))
theorem in_X4_follows_X4 : ∀ w ∈ wsX40, w ∈ wsX4_follows := by decide +kernel
theorem lk_X4_follows_29 : Cond.fieldLink RX4 29 "ArrayClaims" "draftSize" "I" ∈ wsX4_follows := by decide +kernel
theorem lk_X4_follows_21 : Cond.fieldLink RX4 21 "ArrayClaims" "made" "LArrayClaims$ClaimList;" ∈ wsX4_follows := by decide +kernel
theorem in_X4_follows_X0 : ∀ w ∈ wsX00, w ∈ wsX4_follows := by decide +kernel
theorem lk_X4_follows_33 : Cond.fieldLink RX4 33 "ArrayClaims" "asked" "LArrayClaims$ClaimList;" ∈ wsX4_follows := by decide +kernel
theorem lk_X4_follows_25 : Cond.fieldLink RX4 25 "ArrayClaims" "drafted" "[I" ∈ wsX4_follows := by decide +kernel
def rX4_follows_ok : Room := { frames := 16, cells := 0, slots := 0, locals := 504 }
set_option maxHeartbeats 4000000 in
set_option maxRecDepth 100000 in
theorem c_X4_follows_ok (l : Launch) (D : va_G) (cI : ClassId) (A : Nat → Prop) (ad : Nat → Nat) (σ : Nat → Nat → Nat)  (hI : IC σ) (hW0 : WF σ) (hM0 : MadeW σ) (hd0 : σ 0 0 ≠ 0) (hD0 : ∀ k, k < σ 0 0 → litW σ (σ 3 k)) : Met l yX4_follows wsX4_follows rX4_follows_ok (va_Pc [.ref (ad 0)] (Wc D cI A ad σ)) (va_Qi (fun r u => r = bI (!canXB σ (σ 0 0) (fun i => oppF (σ 3 i))) ∧ KS σ u) (fun u t => Wc D cI A ad u t) A) 0 0 A := by
  refine Met.ofW (cc := cX4_follows) (maxL := 2) (ret := (some .boolean)) (by decide) rfl ?_
  intro p e s m args below meth c s₁ B hml hv
  obtain ⟨rfl, hP, hK, hD, hN, hZ⟩ := hv
  have hx := B.exec
  have hb := B.bytes
  have hr := B.returns
  have hts := atoms_spec (ws := wsX4_follows) B.pre
  have hown : s.vm.findClass RX4 = some m.cls := findClass_of_methodNamed B.named
  have hlocks := B.notSynchronized
  have hS : va_S A s.heap s.heap [] := va_S.rf
  have hl := lv_entry ([.ref (ad 0)]) (n := 2) (Nat.le_of_ble_eq_true rfl)
  rw [lg_entry_eq]
  generalize (lg_sl ([.ref (ad 0)]) ++ List.replicate (2 - (lg_sl ([.ref (ad 0)])).length) Slot.unset).toArray = ls at hl ⊢
  have hl : lv_has ls 2 [(0, .ref (ad 0))] := hl
  have hdr := hI.draft
  have hcm := hI.claims
  refine lv_aload_n hx hb dX4_follows_0 rfl (lv_at hl 0 rfl) ?_
  refine va_get (D := D) (ci := 3) (v := .int (nI (σ 0 0))) (C := RX4) (T := TX4) (N := 6) hx hb hts in_X4_follows_X4 hown hK hP 0 rfl rfl 3 (by decide) (hts _ lk_X4_follows_29) (fun _ h9 => h9) rfl dX4_follows_1 ?_
  refine q_if_ne hx hb (tgt := 15) (nI_z (by omega)) dX4_follows_4 (by decide) (fun c_4 => ?_) (fun c_4 => ?_)
  · refine lv_aload_n hx hb dX4_follows_15 rfl (lv_at hl 0 rfl) ?_
    refine lv_aload_n hx hb dX4_follows_16 rfl (lv_at hl 0 rfl) ?_
    refine va_get (D := D) (ci := 3) (v := .ref (ad 2)) (C := RX4) (T := TX4) (N := 6) hx hb hts in_X4_follows_X4 hown hK hP 0 rfl rfl 1 (by decide) (hts _ lk_X4_follows_21) (fun _ h9 => h9) rfl dX4_follows_17 ?_
    refine va_getN (D := D) (ci := 0) (v := .int (nI (σ 0 2))) (C := RX0) (T := TX0) (N := 3) hx hb hts in_X4_follows_X0 hown hK hP 2 rfl rfl 2 (by decide) (hN.use 7 rfl) (fun _ h9 => h9) rfl dX4_follows_20 ?_
    refine lv_iconst (v := mI 0) hx hb dX4_follows_23 (by decide) ?_
    refine va_callv (va_runV (As := [.int (nI (σ 0 2)), .int (mI 0)]) (rest := []) ⟨hx, hb, hml, hown, hts⟩ (c_X4_askClaims l D cI A ad σ (σ 0 2) 0 hI (Nat.le_refl _) (by omega)) (cwV 2 hts gX4_follows_X4_askClaims rfl rfl rfl (by decide +kernel) ⟨Nat.le_of_ble_eq_true rfl, Nat.le_of_ble_eq_true rfl⟩) ⟨Wc.blind, va_recv hK hP (ci := 3) (q0 := 0) rfl rfl, fun U hU hW => ⟨rfl, Wc.go hP hK hD hN hZ hS hU hW⟩⟩ rfl rfl hl.1 rfl (lv_room (Nat.le_of_ble_eq_true rfl)) dX4_follows_24 ⟨Nat.zero_le _, Nat.zero_le _⟩) hS (fun q _ h => h) (fun q h => h) (fun σ_1 t H1 locs ht hvm hwσ_1 hB hz1 hk1 hS => ?_)
    obtain ⟨hP, -, hD, -⟩ := hB
    rw [ht] at hP
    generalize H1 = H at hP hS ⊢
    have har : AR σ σ_1 0 (fun i => oppF (σ 3 i)) := AR.ofAQ hI hwσ_1
    refine lv_iconst (v := nI 0) hx hb dX4_follows_27 (by decide) ?_
    refine lv_istore_n (lv' := [(1, .int (nI 0)), (0, .ref (ad 0))]) hx hb dX4_follows_28 rfl hl (by decide) rfl (fun ls hl => ?_)
    have lp29 : ∀ (n : Nat) (k : Nat) (σ_2 : Nat → Nat → Nat) (H : Heap) (locs : List Loc) (ls : Array Slot), (k + n = σ 0 0) → (AR σ σ_2 k (fun i => oppF (σ 3 i))) → va_P D vwCl (WC ad cI σ_2) H → va_D A (WC ad cI σ_2) → va_S A s.heap H locs → lv_has ls 2 [(1, .int (nI k)), (0, .ref (ad 0))] → W p l e rX4_follows_ok s m (([.ref (ad 0)] : List Value).toArray) below meth c H locs 0 0 (MQ below (va_Qi (fun r u => r = bI (!canXB σ (σ 0 0) (fun i => oppF (σ 3 i))) ∧ KS σ u) (fun u t => Wc D cI A ad u t) A) (([.ref (ad 0)] : List Value).toArray) s 0 0 A) (F0 m 29 ls []) := by
      intro n
      induction n with
      | zero =>
        intro k σ_2 H locs ls hF1 har hP hD hS hl
        have h00 : σ_2 0 0 = σ 0 0 := har.2.1 0 (by decide)
        obtain rfl : k = σ 0 0 := by omega
        refine lv_iload_n hx hb dX4_follows_29 rfl (lv_at hl 0 rfl) ?_
        refine lv_aload_n hx hb dX4_follows_30 rfl (lv_at hl 1 rfl) ?_
        refine va_get (D := D) (ci := 3) (v := .int (nI (σ_2 0 0))) (C := RX4) (T := TX4) (N := 6) hx hb hts in_X4_follows_X4 hown hK hP 0 rfl rfl 3 (by decide) (hts _ lk_X4_follows_29) (fun _ h9 => h9) rfl dX4_follows_31 ?_
        refine n_icmp_ge hx hb (tgt := 59) (by omega) (by omega) dX4_follows_34 (by decide) (fun c_34 => ?_) (fun c_34 => ?_)
        · refine lv_aload_n hx hb dX4_follows_59 rfl (lv_at hl 1 rfl) ?_
          refine va_calli (va_runV (As := []) (rest := []) ⟨hx, hb, hml, hown, hts⟩ (c_X4_isPossible l D cI A ad σ_2 har.2.2.1 (har.ks.wf hW0) (har.ask hM0 (fun i hi => by have ho := oppF_ok (hI.dlit (j := i) (by omega)); have hd := hD0 i hi; unfold litW at hd ⊢; rw [ho.2.1, ho.2.2.1]; exact hd))) (cwV 0 hts gX4_follows_X4_isPossible rfl rfl rfl (by decide +kernel) ⟨Nat.le_of_ble_eq_true rfl, Nat.le_of_ble_eq_true rfl⟩) ⟨Wc.blind, va_recv hK hP (ci := 3) (q0 := 0) rfl rfl, fun U hU hW => ⟨rfl, Wc.go hP hK hD hN hZ hS hU hW⟩⟩ rfl rfl hl.1 rfl (lv_room (Nat.le_of_ble_eq_true rfl)) dX4_follows_60 ⟨Nat.zero_le _, Nat.zero_le _⟩) hS (fun q _ h => h) (fun q h => h) (fun r_4 σ_3 t H1 locs ht hvm hwσ_3 hB hz1 hk1 hS => ?_)
          obtain ⟨hr_4, hwσ_3⟩ := hwσ_3
          refine n_to (w := bI (canXB σ (σ 0 0) (fun i => oppF (σ 3 i)))) (by rw [hr_4, har.can]) ?_
          obtain ⟨hP, -, hD, -⟩ := hB
          rw [ht] at hP
          generalize H1 = H at hP hS ⊢
          have har := har.finds hwσ_3
          refine q_if_ne hx hb (tgt := 70) (bI_z) dX4_follows_63 (by decide) (fun c_63 => ?_) (fun c_63 => ?_)
          · refine lv_iconst (v := nI 0) hx hb dX4_follows_70 (by decide) ?_
            exact W.zret (v := nI 0) hx hb hr (n_nar0) (fun t ht hW => ⟨⟨_, σ_3, rfl, (⟨by first | (rw [c_63]; rfl) | (rw [ts_nf c_63]; rfl), har.ks⟩), Wc.go hP hK hD hN hZ hS ht hW⟩, hS.F ht⟩) hS.2.2 dX4_follows_71
          · refine lv_iconst (v := nI 1) hx hb dX4_follows_66 (by decide) ?_
            refine lv_goto (tgt := 71) hx hb dX4_follows_67 (by decide) ?_
            exact W.zret (v := nI 1) hx hb hr (n_nar1) (fun t ht hW => ⟨⟨_, σ_3, rfl, (⟨by first | (rw [c_63]; rfl) | (rw [ts_nf c_63]; rfl), har.ks⟩), Wc.go hP hK hD hN hZ hS ht hW⟩, hS.F ht⟩) hS.2.2 dX4_follows_71
        · omega
      | succ n ih29 =>
        intro k σ_2 H locs ls hF1 har hP hD hS hl
        have h00 : σ_2 0 0 = σ 0 0 := har.2.1 0 (by decide)
        have hok := hI.dlit (j := k) (by omega)
        refine lv_iload_n hx hb dX4_follows_29 rfl (lv_at hl 0 rfl) ?_
        refine lv_aload_n hx hb dX4_follows_30 rfl (lv_at hl 1 rfl) ?_
        refine va_get (D := D) (ci := 3) (v := .int (nI (σ_2 0 0))) (C := RX4) (T := TX4) (N := 6) hx hb hts in_X4_follows_X4 hown hK hP 0 rfl rfl 3 (by decide) (hts _ lk_X4_follows_29) (fun _ h9 => h9) rfl dX4_follows_31 ?_
        refine n_icmp_ge hx hb (tgt := 59) (by omega) (by omega) dX4_follows_34 (by decide) (fun c_34 => ?_) (fun c_34 => ?_)
        · omega
        · refine lv_aload_n hx hb dX4_follows_37 rfl (lv_at hl 1 rfl) ?_
          refine va_get (D := D) (ci := 3) (v := .ref (ad 4)) (C := RX4) (T := TX4) (N := 6) hx hb hts in_X4_follows_X4 hown hK hP 0 rfl rfl 4 (by decide) (hts _ lk_X4_follows_33) (fun _ h9 => h9) rfl dX4_follows_38 ?_
          refine lv_aload_n hx hb dX4_follows_41 rfl (lv_at hl 1 rfl) ?_
          refine va_get (D := D) (ci := 3) (v := .ref (ad 3)) (C := RX4) (T := TX4) (N := 6) hx hb hts in_X4_follows_X4 hown hK hP 0 rfl rfl 2 (by decide) (hts _ lk_X4_follows_25) (fun _ h9 => h9) rfl dX4_follows_42 ?_
          refine lv_iload_n hx hb dX4_follows_45 rfl (lv_at hl 0 rfl) ?_
          refine n_ald hx hb hK hP 3 0 rfl rfl (i := k) (by omega) (by decide) (v := nI (σ_2 3 k)) rfl dX4_follows_46 ?_
          refine n_to (w := nI (σ 3 k)) (by rw [har.1 3 (by decide) (by decide) (by decide) (by decide) (by decide)]) ?_
          refine vp_callSi (va_Run.run (va_runS (As := [.int (nI (σ 3 k))]) (rest := [.ref (ad 4)]) ⟨hx, hb, hml, hown, hts⟩ (c_X1_opposite l   (σ 3 k) hok.1) (va_cwS 1 hts gX4_follows_X1_opposite rfl rfl rfl (by decide +kernel) ⟨Nat.le_of_ble_eq_true rfl, Nat.le_of_ble_eq_true rfl⟩) ⟨tt_blind, fun U hU hW => ⟨rfl, trivial⟩⟩ rfl rfl hl.1 rfl (lv_room (Nat.le_of_ble_eq_true rfl)) dX4_follows_47 ⟨Nat.zero_le _, Nat.zero_le _⟩)) (fun r_5 hr_5 => ?_)
          refine n_to (w := nI (oppF (σ 3 k))) (hr_5.trans rfl) ?_
          refine va_callv (va_runV (As := [.int (nI (oppF (σ 3 k)))]) (rest := []) ⟨hx, hb, hml, hown, hts⟩ (c_X0_addSingle l D cI A ad σ_2 (oppF (σ 3 k)) har.2.2.1 (by rw [har.2.2.2.1]; omega)) (cwV 1 hts gX4_follows_X0_addSingle rfl rfl rfl (by decide +kernel) ⟨Nat.le_of_ble_eq_true rfl, Nat.le_of_ble_eq_true rfl⟩) ⟨Wc.blind, va_recv hK hP (ci := 0) (q0 := 4) rfl rfl, fun U hU hW => ⟨rfl, Wc.go hP hK hD hN hZ hS hU hW⟩⟩ rfl rfl hl.1 rfl (lv_room (Nat.le_of_ble_eq_true rfl)) dX4_follows_50 ⟨Nat.zero_le _, Nat.zero_le _⟩) hS (fun q _ h => h) (fun q h => h) (fun σ_6 t H1 locs ht hvm hwσ_6 hB hz1 hk1 hS => ?_)
          obtain ⟨hP, -, hD, -⟩ := hB
          rw [ht] at hP
          generalize H1 = H at hP hS ⊢
          have har2 : AR σ σ_6 (k + 1) (fun i => oppF (σ 3 i)) := by rw [hwσ_6]; exact har.single hI (by omega) (oppF_ok hok).1 rfl
          refine lv_iinc (v := nI (k + 1)) (lv' := [(1, .int (nI (k + 1))), (0, .ref (ad 0))]) hx hb dX4_follows_53 hl (k := 0) rfl (nI_add _ _) (by decide) rfl (fun ls hl => ?_)
          refine lv_goto (tgt := 29) hx hb dX4_follows_56 (by decide) ?_
          exact ih29 (k + 1)  _ _ _ _  (by omega) (har2) hP hD hS (lv_sub hl [0, 1] rfl)
    exact lp29 (σ 0 0) 0  _ _ _ _ (by omega) (har) hP hD hS (lv_sub hl [0, 1] rfl)
  · exact absurd c_4 hd0
theorem in_X4_apart_X4 : ∀ w ∈ wsX40, w ∈ wsX4_apart := by decide +kernel
theorem lk_X4_apart_21 : Cond.fieldLink RX4 21 "ArrayClaims" "made" "LArrayClaims$ClaimList;" ∈ wsX4_apart := by decide +kernel
theorem in_X4_apart_X0 : ∀ w ∈ wsX00, w ∈ wsX4_apart := by decide +kernel
theorem lk_X4_apart_39 : Cond.fieldLink RX4 39 "ArrayClaims" "search" "LArrayClaims$ReadingSearch;" ∈ wsX4_apart := by decide +kernel
theorem lk_X4_apart_12 : Cond.fieldLink RX4 12 "ArrayClaims" "known" "LArrayClaims$TermTable;" ∈ wsX4_apart := by decide +kernel
theorem lk_X4_apart_33 : Cond.fieldLink RX4 33 "ArrayClaims" "asked" "LArrayClaims$ClaimList;" ∈ wsX4_apart := by decide +kernel
def rX4_apart_f_ok : Room := { frames := 15, cells := 0, slots := 0, locals := 484 }
set_option maxHeartbeats 4000000 in
set_option maxRecDepth 100000 in
theorem c_X4_apart_f_ok (l : Launch) (D : va_G) (cI : ClassId) (A : Nat → Prop) (ad : Nat → Nat) (σ : Nat → Nat → Nat)  (hI : IC σ) (hW0 : WF σ) (hM0 : MadeW σ) (hcan : ∃ k, k < 3 ∧ (∃ w, w < 5 ∧ difF w = (1 + k) ∧ SatM σ w (σ 0 2) 0)) : Met l yX4_apart wsX4_apart rX4_apart_f_ok (va_Pc [.ref (ad 0), .int (nI 1)] (Wc D cI A ad σ)) (va_Qi (fun r u => (∃ k, k < 3 ∧ r = nI (1 + k) ∧ (∃ w, w < 5 ∧ difF w = (1 + k) ∧ SatM σ w (σ 0 2) 0) ∧ ∀ k1, k1 < k → ¬ (∃ w, w < 5 ∧ difF w = (1 + k1) ∧ SatM σ w (σ 0 2) 0)) ∧ KS σ u) (fun u t => Wc D cI A ad u t) A) 0 0 A := by
  refine Met.ofW (cc := cX4_apart) (maxL := 4) (ret := (some .int)) (by decide) rfl ?_
  intro p e s m args below meth c s₁ B hml hv
  obtain ⟨rfl, hP, hK, hD, hN, hZ⟩ := hv
  have hx := B.exec
  have hb := B.bytes
  have hr := B.returns
  have hts := atoms_spec (ws := wsX4_apart) B.pre
  have hown : s.vm.findClass RX4 = some m.cls := findClass_of_methodNamed B.named
  have hlocks := B.notSynchronized
  have hS : va_S A s.heap s.heap [] := va_S.rf
  have hl := lv_entry ([.ref (ad 0), .int (nI 1)]) (n := 4) (Nat.le_of_ble_eq_true rfl)
  rw [lg_entry_eq]
  generalize (lg_sl ([.ref (ad 0), .int (nI 1)]) ++ List.replicate (4 - (lg_sl ([.ref (ad 0), .int (nI 1)])).length) Slot.unset).toArray = ls at hl ⊢
  have hl : lv_has ls 4 [(0, .ref (ad 0)), (1, .int (nI 1))] := hl
  have hcm := hI.claims
  refine lv_aload_n hx hb dX4_apart_0 rfl (lv_at hl 0 rfl) ?_
  refine lv_aload_n hx hb dX4_apart_1 rfl (lv_at hl 0 rfl) ?_
  refine va_get (D := D) (ci := 3) (v := .ref (ad 2)) (C := RX4) (T := TX4) (N := 6) hx hb hts in_X4_apart_X4 hown hK hP 0 rfl rfl 1 (by decide) (hts _ lk_X4_apart_21) (fun _ h9 => h9) rfl dX4_apart_2 ?_
  refine va_getN (D := D) (ci := 0) (v := .int (nI (σ 0 2))) (C := RX0) (T := TX0) (N := 3) hx hb hts in_X4_apart_X0 hown hK hP 2 rfl rfl 2 (by decide) (hN.use 7 rfl) (fun _ h9 => h9) rfl dX4_apart_5 ?_
  refine lv_iconst (v := mI 0) hx hb dX4_apart_8 (by decide) ?_
  refine va_callv (va_runV (As := [.int (nI (σ 0 2)), .int (mI 0)]) (rest := []) ⟨hx, hb, hml, hown, hts⟩ (c_X4_askClaims l D cI A ad σ (σ 0 2) 0 hI (Nat.le_refl _) (by omega)) (cwV 2 hts gX4_apart_X4_askClaims rfl rfl rfl (by decide +kernel) ⟨Nat.le_of_ble_eq_true rfl, Nat.le_of_ble_eq_true rfl⟩) ⟨Wc.blind, va_recv hK hP (ci := 3) (q0 := 0) rfl rfl, fun U hU hW => ⟨rfl, Wc.go hP hK hD hN hZ hS hU hW⟩⟩ rfl rfl hl.1 rfl (lv_room (Nat.le_of_ble_eq_true rfl)) dX4_apart_9 ⟨Nat.zero_le _, Nat.zero_le _⟩) hS (fun q _ h => h) (fun q h => h) (fun σ_1 t H1 locs ht hvm hwσ_1 hB hz1 hk1 hS => ?_)
  obtain ⟨hP, -, hD, -⟩ := hB
  rw [ht] at hP
  generalize H1 = H at hP hS ⊢
  have hks := KS.ofAQ hI (by omega) hwσ_1
  have hIs := hks.2.2
  have hAs := AQ.ask hI (Nat.le_refl _) hM0 hwσ_1
  have hsat := fun w => AQ.sat hI (by omega) hwσ_1 w
  refine lv_iconst (v := nI 0) hx hb dX4_apart_12 (by decide) ?_
  refine lv_istore_n (lv' := [(2, .int (nI 0)), (0, .ref (ad 0)), (1, .int (nI 1))]) hx hb dX4_apart_13 rfl hl (by decide) rfl (fun ls hl => ?_)
  have lp14 : ∀ (n : Nat) (k : Nat) (σ_2 : Nat → Nat → Nat) (H : Heap) (locs : List Loc) (ls : Array Slot), (k + n = 3) → (IC σ_2) → (AskW σ_2) → (∀ w, SatA σ_2 w ↔ SatM σ w (σ 0 2) 0) → (KS σ σ_2) → (∀ k1, k1 < k → ¬ (∃ w, w < 5 ∧ difF w = (1 + k1) ∧ SatM σ w (σ 0 2) 0)) → va_P D vwCl (WC ad cI σ_2) H → va_D A (WC ad cI σ_2) → va_S A s.heap H locs → lv_has ls 4 [(2, .int (nI k)), (0, .ref (ad 0)), (1, .int (nI 1))] → W p l e rX4_apart_f_ok s m (([.ref (ad 0), .int (nI 1)] : List Value).toArray) below meth c H locs 0 0 (MQ below (va_Qi (fun r u => (∃ k, k < 3 ∧ r = nI (1 + k) ∧ (∃ w, w < 5 ∧ difF w = (1 + k) ∧ SatM σ w (σ 0 2) 0) ∧ ∀ k1, k1 < k → ¬ (∃ w, w < 5 ∧ difF w = (1 + k1) ∧ SatM σ w (σ 0 2) 0)) ∧ KS σ u) (fun u t => Wc D cI A ad u t) A) (([.ref (ad 0), .int (nI 1)] : List Value).toArray) s 0 0 A) (F0 m 14 ls []) := by
    intro n
    induction n with
    | zero =>
      intro k σ_2 H locs ls hF1 hIs hAs hsat hks hX hP hD hS hl
      refine lv_iload_n hx hb dX4_apart_14 rfl (lv_at hl 0 rfl) ?_
      refine lv_iconst (v := nI 3) hx hb dX4_apart_15 (by decide) ?_
      refine n_icmp_ge hx hb (tgt := 61) (by omega) (by omega) dX4_apart_16 (by decide) (fun c_16 => ?_) (fun c_16 => ?_)
      · exact absurd hcan (fun ⟨k1, q1, q2⟩ => hX k1 (by omega) q2)
      · omega
    | succ n ih14 =>
      intro k σ_2 H locs ls hF1 hIs hAs hsat hks hX hP hD hS hl
      have hfdd : fdB σ_2 (1 + k) (1 + k) = true ↔ (∃ w, w < 5 ∧ difF w = (1 + k) ∧ SatM σ w (σ 0 2) 0) := fdd hsat
      refine lv_iload_n hx hb dX4_apart_14 rfl (lv_at hl 0 rfl) ?_
      refine lv_iconst (v := nI 3) hx hb dX4_apart_15 (by decide) ?_
      refine n_icmp_ge hx hb (tgt := 61) (by omega) (by omega) dX4_apart_16 (by decide) (fun c_16 => ?_) (fun c_16 => ?_)
      · omega
      · refine lv_iload_n hx hb dX4_apart_19 rfl (lv_at hl 2 rfl) ?_
        refine q_if_eq hx hb (tgt := 29) (nI_z (by omega)) dX4_apart_20 (by decide) (fun c_20 => ?_) (fun c_20 => ?_)
        · exact absurd c_20 (by decide)
        · refine lv_iconst (v := nI 1) hx hb dX4_apart_23 (by decide) ?_
          refine lv_iload_n hx hb dX4_apart_24 rfl (lv_at hl 0 rfl) ?_
          refine n_add hx hb dX4_apart_25 ?_
          refine lv_goto (tgt := 32) hx hb dX4_apart_26 (by decide) ?_
          refine lv_istore_n (lv' := [(3, .int (nI (1 + k))), (2, .int (nI k)), (0, .ref (ad 0)), (1, .int (nI 1))]) hx hb dX4_apart_32 rfl hl (by decide) rfl (fun ls hl => ?_)
          refine lv_aload_n hx hb dX4_apart_33 rfl (lv_at hl 2 rfl) ?_
          refine va_get (D := D) (ci := 3) (v := .ref (ad 5)) (C := RX4) (T := TX4) (N := 6) hx hb hts in_X4_apart_X4 hown hK hP 0 rfl rfl 5 (by decide) (hts _ lk_X4_apart_39) (fun _ h9 => h9) rfl dX4_apart_34 ?_
          refine lv_aload_n hx hb dX4_apart_37 rfl (lv_at hl 2 rfl) ?_
          refine va_get (D := D) (ci := 3) (v := .ref (ad 1)) (C := RX4) (T := TX4) (N := 6) hx hb hts in_X4_apart_X4 hown hK hP 0 rfl rfl 0 (by decide) (hts _ lk_X4_apart_12) (fun _ h9 => h9) rfl dX4_apart_38 ?_
          refine lv_aload_n hx hb dX4_apart_41 rfl (lv_at hl 2 rfl) ?_
          refine va_get (D := D) (ci := 3) (v := .ref (ad 4)) (C := RX4) (T := TX4) (N := 6) hx hb hts in_X4_apart_X4 hown hK hP 0 rfl rfl 4 (by decide) (hts _ lk_X4_apart_33) (fun _ h9 => h9) rfl dX4_apart_42 ?_
          refine lv_iload_n hx hb dX4_apart_45 rfl (lv_at hl 0 rfl) ?_
          refine lv_iload_n hx hb dX4_apart_46 rfl (lv_at hl 0 rfl) ?_
          refine va_calli (va_runV (As := [.ref (ad 1), .ref (ad 4), .int (nI (1 + k)), .int (nI (1 + k))]) (rest := []) ⟨hx, hb, hml, hown, hts⟩ (c_X2_finds l D cI A ad σ_2 (1 + k) (1 + k) hIs (hks.wf hW0) hAs (by omega) (by omega)) (cwV 4 hts gX4_apart_X2_finds rfl rfl rfl (by decide +kernel) ⟨Nat.le_of_ble_eq_true rfl, Nat.le_of_ble_eq_true rfl⟩) ⟨Wc.blind, va_recv hK hP (ci := 1) (q0 := 5) rfl rfl, fun U hU hW => ⟨rfl, Wc.go hP hK hD hN hZ hS hU hW⟩⟩ rfl rfl hl.1 rfl (lv_room (Nat.le_of_ble_eq_true rfl)) dX4_apart_47 ⟨Nat.zero_le _, Nat.zero_le _⟩) hS (fun q _ h => h) (fun q h => h) (fun r_4 σ_3 t H1 locs ht hvm hwσ_3 hB hz1 hk1 hS => ?_)
          obtain ⟨hr_4, hwσ_3⟩ := hwσ_3
          refine n_to (w := bI (fdB σ_2 (1 + k) (1 + k))) (hr_4) ?_
          obtain ⟨hP, -, hD, -⟩ := hB
          rw [ht] at hP
          generalize H1 = H at hP hS ⊢
          have hks2 := hks.tr (KS.ofFinds hIs hwσ_3)
          have hIs2 := hks2.2.2
          have hAs2 := AskW_of hwσ_3.1 hAs
          have hsat2 := fun w => (SatA_of hwσ_3.1 w).trans (hsat w)
          refine q_if_eq hx hb (tgt := 55) (bI_z) dX4_apart_50 (by decide) (fun c_50 => ?_) (fun c_50 => ?_)
          · refine lv_iinc (v := nI (k + 1)) (lv' := [(2, .int (nI (k + 1))), (3, .int (nI (1 + k))), (0, .ref (ad 0)), (1, .int (nI 1))]) hx hb dX4_apart_55 hl (k := 1) rfl (nI_add _ _) (by decide) rfl (fun ls hl => ?_)
            refine lv_goto (tgt := 14) hx hb dX4_apart_58 (by decide) ?_
            exact ih14 (k + 1)  _ _ _ _  (by omega) (hIs2) (hAs2) (hsat2) (hks2) (fun k1 q => by rcases Nat.lt_or_ge k1 k with z | z; exact hX k1 z; (obtain rfl : k1 = k := by omega); exact fun q => ts_ff c_50 (hfdd.mpr q)) hP hD hS (lv_sub hl [0, 2, 3] rfl)
          · refine lv_iload_n hx hb dX4_apart_53 rfl (lv_at hl 0 rfl) ?_
            exact W.iret (v := nI (1 + k)) hx hb hr (fun t ht hW => ⟨⟨_, σ_3, rfl, (⟨⟨k, by omega, rfl, hfdd.mp (ts_nf c_50), hX⟩, hks2⟩), Wc.go hP hK hD hN hZ hS ht hW⟩, hS.F ht⟩) hS.2.2 dX4_apart_54
  exact lp14 3 0  _ _ _ _ (by omega) (hIs) (hAs) (hsat) (hks) (fun k1 q => absurd q (by omega)) hP hD hS (lv_sub hl [0, 1, 2] rfl)
def rX4_apart_m_ok : Room := { frames := 15, cells := 0, slots := 0, locals := 484 }
set_option maxHeartbeats 4000000 in
set_option maxRecDepth 100000 in
theorem c_X4_apart_m_ok (l : Launch) (D : va_G) (cI : ClassId) (A : Nat → Prop) (ad : Nat → Nat) (σ : Nat → Nat → Nat)  (hI : IC σ) (hW0 : WF σ) (hM0 : MadeW σ) (hcan : ∃ k, k < 3 ∧ (∃ w, w < 5 ∧ difF w = (3 - k) ∧ SatM σ w (σ 0 2) 0)) : Met l yX4_apart wsX4_apart rX4_apart_m_ok (va_Pc [.ref (ad 0), .int (nI 0)] (Wc D cI A ad σ)) (va_Qi (fun r u => (∃ k, k < 3 ∧ r = nI (3 - k) ∧ (∃ w, w < 5 ∧ difF w = (3 - k) ∧ SatM σ w (σ 0 2) 0) ∧ ∀ k1, k1 < k → ¬ (∃ w, w < 5 ∧ difF w = (3 - k1) ∧ SatM σ w (σ 0 2) 0)) ∧ KS σ u) (fun u t => Wc D cI A ad u t) A) 0 0 A := by
  refine Met.ofW (cc := cX4_apart) (maxL := 4) (ret := (some .int)) (by decide) rfl ?_
  intro p e s m args below meth c s₁ B hml hv
  obtain ⟨rfl, hP, hK, hD, hN, hZ⟩ := hv
  have hx := B.exec
  have hb := B.bytes
  have hr := B.returns
  have hts := atoms_spec (ws := wsX4_apart) B.pre
  have hown : s.vm.findClass RX4 = some m.cls := findClass_of_methodNamed B.named
  have hlocks := B.notSynchronized
  have hS : va_S A s.heap s.heap [] := va_S.rf
  have hl := lv_entry ([.ref (ad 0), .int (nI 0)]) (n := 4) (Nat.le_of_ble_eq_true rfl)
  rw [lg_entry_eq]
  generalize (lg_sl ([.ref (ad 0), .int (nI 0)]) ++ List.replicate (4 - (lg_sl ([.ref (ad 0), .int (nI 0)])).length) Slot.unset).toArray = ls at hl ⊢
  have hl : lv_has ls 4 [(0, .ref (ad 0)), (1, .int (nI 0))] := hl
  have hcm := hI.claims
  refine lv_aload_n hx hb dX4_apart_0 rfl (lv_at hl 0 rfl) ?_
  refine lv_aload_n hx hb dX4_apart_1 rfl (lv_at hl 0 rfl) ?_
  refine va_get (D := D) (ci := 3) (v := .ref (ad 2)) (C := RX4) (T := TX4) (N := 6) hx hb hts in_X4_apart_X4 hown hK hP 0 rfl rfl 1 (by decide) (hts _ lk_X4_apart_21) (fun _ h9 => h9) rfl dX4_apart_2 ?_
  refine va_getN (D := D) (ci := 0) (v := .int (nI (σ 0 2))) (C := RX0) (T := TX0) (N := 3) hx hb hts in_X4_apart_X0 hown hK hP 2 rfl rfl 2 (by decide) (hN.use 7 rfl) (fun _ h9 => h9) rfl dX4_apart_5 ?_
  refine lv_iconst (v := mI 0) hx hb dX4_apart_8 (by decide) ?_
  refine va_callv (va_runV (As := [.int (nI (σ 0 2)), .int (mI 0)]) (rest := []) ⟨hx, hb, hml, hown, hts⟩ (c_X4_askClaims l D cI A ad σ (σ 0 2) 0 hI (Nat.le_refl _) (by omega)) (cwV 2 hts gX4_apart_X4_askClaims rfl rfl rfl (by decide +kernel) ⟨Nat.le_of_ble_eq_true rfl, Nat.le_of_ble_eq_true rfl⟩) ⟨Wc.blind, va_recv hK hP (ci := 3) (q0 := 0) rfl rfl, fun U hU hW => ⟨rfl, Wc.go hP hK hD hN hZ hS hU hW⟩⟩ rfl rfl hl.1 rfl (lv_room (Nat.le_of_ble_eq_true rfl)) dX4_apart_9 ⟨Nat.zero_le _, Nat.zero_le _⟩) hS (fun q _ h => h) (fun q h => h) (fun σ_1 t H1 locs ht hvm hwσ_1 hB hz1 hk1 hS => ?_)
  obtain ⟨hP, -, hD, -⟩ := hB
  rw [ht] at hP
  generalize H1 = H at hP hS ⊢
  have hks := KS.ofAQ hI (by omega) hwσ_1
  have hIs := hks.2.2
  have hAs := AQ.ask hI (Nat.le_refl _) hM0 hwσ_1
  have hsat := fun w => AQ.sat hI (by omega) hwσ_1 w
  refine lv_iconst (v := nI 0) hx hb dX4_apart_12 (by decide) ?_
  refine lv_istore_n (lv' := [(2, .int (nI 0)), (0, .ref (ad 0)), (1, .int (nI 0))]) hx hb dX4_apart_13 rfl hl (by decide) rfl (fun ls hl => ?_)
  have lp14 : ∀ (n : Nat) (k : Nat) (σ_2 : Nat → Nat → Nat) (H : Heap) (locs : List Loc) (ls : Array Slot), (k + n = 3) → (IC σ_2) → (AskW σ_2) → (∀ w, SatA σ_2 w ↔ SatM σ w (σ 0 2) 0) → (KS σ σ_2) → (∀ k1, k1 < k → ¬ (∃ w, w < 5 ∧ difF w = (3 - k1) ∧ SatM σ w (σ 0 2) 0)) → va_P D vwCl (WC ad cI σ_2) H → va_D A (WC ad cI σ_2) → va_S A s.heap H locs → lv_has ls 4 [(2, .int (nI k)), (0, .ref (ad 0)), (1, .int (nI 0))] → W p l e rX4_apart_m_ok s m (([.ref (ad 0), .int (nI 0)] : List Value).toArray) below meth c H locs 0 0 (MQ below (va_Qi (fun r u => (∃ k, k < 3 ∧ r = nI (3 - k) ∧ (∃ w, w < 5 ∧ difF w = (3 - k) ∧ SatM σ w (σ 0 2) 0) ∧ ∀ k1, k1 < k → ¬ (∃ w, w < 5 ∧ difF w = (3 - k1) ∧ SatM σ w (σ 0 2) 0)) ∧ KS σ u) (fun u t => Wc D cI A ad u t) A) (([.ref (ad 0), .int (nI 0)] : List Value).toArray) s 0 0 A) (F0 m 14 ls []) := by
    intro n
    induction n with
    | zero =>
      intro k σ_2 H locs ls hF1 hIs hAs hsat hks hX hP hD hS hl
      refine lv_iload_n hx hb dX4_apart_14 rfl (lv_at hl 0 rfl) ?_
      refine lv_iconst (v := nI 3) hx hb dX4_apart_15 (by decide) ?_
      refine n_icmp_ge hx hb (tgt := 61) (by omega) (by omega) dX4_apart_16 (by decide) (fun c_16 => ?_) (fun c_16 => ?_)
      · exact absurd hcan (fun ⟨k1, q1, q2⟩ => hX k1 (by omega) q2)
      · omega
    | succ n ih14 =>
      intro k σ_2 H locs ls hF1 hIs hAs hsat hks hX hP hD hS hl
      have hfdd : fdB σ_2 (3 - k) (3 - k) = true ↔ (∃ w, w < 5 ∧ difF w = (3 - k) ∧ SatM σ w (σ 0 2) 0) := fdd hsat
      refine lv_iload_n hx hb dX4_apart_14 rfl (lv_at hl 0 rfl) ?_
      refine lv_iconst (v := nI 3) hx hb dX4_apart_15 (by decide) ?_
      refine n_icmp_ge hx hb (tgt := 61) (by omega) (by omega) dX4_apart_16 (by decide) (fun c_16 => ?_) (fun c_16 => ?_)
      · omega
      · refine lv_iload_n hx hb dX4_apart_19 rfl (lv_at hl 2 rfl) ?_
        refine q_if_eq hx hb (tgt := 29) (nI_z (by omega)) dX4_apart_20 (by decide) (fun c_20 => ?_) (fun c_20 => ?_)
        · refine lv_iconst (v := nI 3) hx hb dX4_apart_29 (by decide) ?_
          refine lv_iload_n hx hb dX4_apart_30 rfl (lv_at hl 0 rfl) ?_
          refine n_sub hx hb (by omega) dX4_apart_31 ?_
          refine lv_istore_n (lv' := [(3, .int (nI (3 - k))), (2, .int (nI k)), (0, .ref (ad 0)), (1, .int (nI 0))]) hx hb dX4_apart_32 rfl hl (by decide) rfl (fun ls hl => ?_)
          refine lv_aload_n hx hb dX4_apart_33 rfl (lv_at hl 2 rfl) ?_
          refine va_get (D := D) (ci := 3) (v := .ref (ad 5)) (C := RX4) (T := TX4) (N := 6) hx hb hts in_X4_apart_X4 hown hK hP 0 rfl rfl 5 (by decide) (hts _ lk_X4_apart_39) (fun _ h9 => h9) rfl dX4_apart_34 ?_
          refine lv_aload_n hx hb dX4_apart_37 rfl (lv_at hl 2 rfl) ?_
          refine va_get (D := D) (ci := 3) (v := .ref (ad 1)) (C := RX4) (T := TX4) (N := 6) hx hb hts in_X4_apart_X4 hown hK hP 0 rfl rfl 0 (by decide) (hts _ lk_X4_apart_12) (fun _ h9 => h9) rfl dX4_apart_38 ?_
          refine lv_aload_n hx hb dX4_apart_41 rfl (lv_at hl 2 rfl) ?_
          refine va_get (D := D) (ci := 3) (v := .ref (ad 4)) (C := RX4) (T := TX4) (N := 6) hx hb hts in_X4_apart_X4 hown hK hP 0 rfl rfl 4 (by decide) (hts _ lk_X4_apart_33) (fun _ h9 => h9) rfl dX4_apart_42 ?_
          refine lv_iload_n hx hb dX4_apart_45 rfl (lv_at hl 0 rfl) ?_
          refine lv_iload_n hx hb dX4_apart_46 rfl (lv_at hl 0 rfl) ?_
          refine va_calli (va_runV (As := [.ref (ad 1), .ref (ad 4), .int (nI (3 - k)), .int (nI (3 - k))]) (rest := []) ⟨hx, hb, hml, hown, hts⟩ (c_X2_finds l D cI A ad σ_2 (3 - k) (3 - k) hIs (hks.wf hW0) hAs (by omega) (by omega)) (cwV 4 hts gX4_apart_X2_finds rfl rfl rfl (by decide +kernel) ⟨Nat.le_of_ble_eq_true rfl, Nat.le_of_ble_eq_true rfl⟩) ⟨Wc.blind, va_recv hK hP (ci := 1) (q0 := 5) rfl rfl, fun U hU hW => ⟨rfl, Wc.go hP hK hD hN hZ hS hU hW⟩⟩ rfl rfl hl.1 rfl (lv_room (Nat.le_of_ble_eq_true rfl)) dX4_apart_47 ⟨Nat.zero_le _, Nat.zero_le _⟩) hS (fun q _ h => h) (fun q h => h) (fun r_4 σ_3 t H1 locs ht hvm hwσ_3 hB hz1 hk1 hS => ?_)
          obtain ⟨hr_4, hwσ_3⟩ := hwσ_3
          refine n_to (w := bI (fdB σ_2 (3 - k) (3 - k))) (hr_4) ?_
          obtain ⟨hP, -, hD, -⟩ := hB
          rw [ht] at hP
          generalize H1 = H at hP hS ⊢
          have hks2 := hks.tr (KS.ofFinds hIs hwσ_3)
          have hIs2 := hks2.2.2
          have hAs2 := AskW_of hwσ_3.1 hAs
          have hsat2 := fun w => (SatA_of hwσ_3.1 w).trans (hsat w)
          refine q_if_eq hx hb (tgt := 55) (bI_z) dX4_apart_50 (by decide) (fun c_50 => ?_) (fun c_50 => ?_)
          · refine lv_iinc (v := nI (k + 1)) (lv' := [(2, .int (nI (k + 1))), (3, .int (nI (3 - k))), (0, .ref (ad 0)), (1, .int (nI 0))]) hx hb dX4_apart_55 hl (k := 1) rfl (nI_add _ _) (by decide) rfl (fun ls hl => ?_)
            refine lv_goto (tgt := 14) hx hb dX4_apart_58 (by decide) ?_
            exact ih14 (k + 1)  _ _ _ _  (by omega) (hIs2) (hAs2) (hsat2) (hks2) (fun k1 q => by rcases Nat.lt_or_ge k1 k with z | z; exact hX k1 z; (obtain rfl : k1 = k := by omega); exact fun q => ts_ff c_50 (hfdd.mpr q)) hP hD hS (lv_sub hl [0, 2, 3] rfl)
          · refine lv_iload_n hx hb dX4_apart_53 rfl (lv_at hl 0 rfl) ?_
            exact W.iret (v := nI (3 - k)) hx hb hr (fun t ht hW => ⟨⟨_, σ_3, rfl, (⟨⟨k, by omega, rfl, hfdd.mp (ts_nf c_50), hX⟩, hks2⟩), Wc.go hP hK hD hN hZ hS ht hW⟩, hS.F ht⟩) hS.2.2 dX4_apart_54
        · exact absurd c_20 (by decide)
  exact lp14 3 0  _ _ _ _ (by omega) (hIs) (hAs) (hsat) (hks) (fun k1 q => absurd q (by omega)) hP hD hS (lv_sub hl [0, 1, 2] rfl)
