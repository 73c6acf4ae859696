def rX5_make_found : Room := { frames := 1, cells := 0, slots := 0, locals := 25 }
set_option maxHeartbeats 4000000 in
set_option maxRecDepth 100000 in
theorem c_X5_make_found (l : Launch) (D : va_G) (cI cZ : ClassId) (A : Nat → Prop) (ad : Nat → Nat) (τ : Nat → Nat → Nat) (q a i x k : Nat) (hI : IM τ) (hq : q = 1 ∨ q = 2) (ha : a < τ 0 1) (hi : i < τ 0 1) (hx0 : x < τ 0 1) (hk : k < 24) (hfd : foundF τ q a i x (τ 0 1 - 7) 7 = k + 1) : Met l yX5_make wsX5_make rX5_make_found (va_Pc [.ref (ad 0), .int (nI q), .int (nI a), .int (nI i), .int (nI x)] (Wm D cI cZ A ad τ)) (vp_Si (fun r => r = nI k)) 0 0 (fun _ => False) := by
  refine Met.ofW (cc := cX5_make) (maxL := 10) (ret := (some .int)) (by decide) rfl ?_
  intro p e s m args below meth c s₁ B hml hv
  obtain ⟨rfl, hP, hK, hD⟩ := hv
  have hx := B.exec
  have hb := B.bytes
  have hr := B.returns
  have hts := atoms_spec (ws := wsX5_make) B.pre
  have hown : s.vm.findClass RX5 = some m.cls := findClass_of_methodNamed B.named
  have hlocks := B.notSynchronized
  have hS : va_S A s.heap s.heap [] := va_S.rf
  have hl := lv_entry ([.ref (ad 0), .int (nI q), .int (nI a), .int (nI i), .int (nI x)]) (n := 10) (Nat.le_of_ble_eq_true rfl)
  rw [lg_entry_eq]
  generalize (lg_sl ([.ref (ad 0), .int (nI q), .int (nI a), .int (nI i), .int (nI x)]) ++ List.replicate (10 - (lg_sl ([.ref (ad 0), .int (nI q), .int (nI a), .int (nI i), .int (nI x)])).length) Slot.unset).toArray = ls at hl ⊢
  have hl : lv_has ls 10 [(0, .ref (ad 0)), (1, .int (nI q)), (2, .int (nI a)), (3, .int (nI i)), (4, .int (nI x))] := hl
  have hc := hI.terms
  refine lv_aload_n hx hb dX5_make_0 rfl (lv_at hl 0 rfl) ?_
  refine lv_iload_n hx hb dX5_make_1 rfl (lv_at hl 1 rfl) ?_
  refine lv_iload_n hx hb dX5_make_2 rfl (lv_at hl 2 rfl) ?_
  refine lv_iload_n hx hb dX5_make_3 rfl (lv_at hl 3 rfl) ?_
  refine lv_iload hx hb dX5_make_4 (lv_at hl 4 rfl) ?_
  refine vp_callSi (va_Run.run (va_runV (As := [.int (nI q), .int (nI a), .int (nI i), .int (nI x)]) (rest := []) ⟨hx, hb, hml, hown, hts⟩ (c_X5_found l D cI cZ A ad τ q a i x hI (by omega) (by omega) (by omega) (by omega)) (cwV 4 hts gX5_make_X5_found rfl rfl rfl (by decide +kernel) ⟨Nat.le_of_ble_eq_true rfl, Nat.le_of_ble_eq_true rfl⟩) ⟨Wm.blind, va_recv hK hP (ci := 4) (q0 := 0) rfl rfl, fun U hU hW => ⟨rfl, Wm.go hP hK hD hU hW⟩⟩ rfl rfl hl.1 rfl (lv_room (Nat.le_of_ble_eq_true rfl)) dX5_make_6 ⟨Nat.zero_le _, Nat.zero_le _⟩)) (fun r_1 hr_1 => ?_)
  refine n_to (w := mI (foundF τ q a i x (τ 0 1 - 7) 7)) (hr_1.trans rfl) ?_
  refine lv_istore (lv' := [(5, .int (mI (foundF τ q a i x (τ 0 1 - 7) 7))), (0, .ref (ad 0)), (1, .int (nI q)), (2, .int (nI a)), (3, .int (nI i)), (4, .int (nI x))]) hx hb dX5_make_9 hl (by decide) rfl (fun ls hl => ?_)
  refine lv_iload hx hb dX5_make_11 (lv_at hl 0 rfl) ?_
  refine q_if_lt hx hb (tgt := 19) (mI_neg (by omega)) dX5_make_13 (by decide) (fun c_13 => ?_) (fun c_13 => ?_)
  · omega
  · refine lv_iload hx hb dX5_make_16 (lv_at hl 0 rfl) ?_
    exact W.iret (v := mI (foundF τ q a i x (τ 0 1 - 7) 7)) hx hb hr (fun t ht hW => ⟨_, rfl, by rw [hfd, mI_succ], ht⟩) no_locs dX5_make_18
theorem in_X5_make_X5 : ∀ w ∈ wsX50, w ∈ wsX5_make := by decide +kernel
theorem lk_X5_make_7 : Cond.fieldLink RX5 7 "ArrayClaimsModel" "terms" "I" ∈ wsX5_make := by decide +kernel
def rX5_make_full : Room := { frames := 1, cells := 0, slots := 0, locals := 25 }
set_option maxHeartbeats 4000000 in
set_option maxRecDepth 100000 in
theorem c_X5_make_full (l : Launch) (D : va_G) (cI cZ : ClassId) (A : Nat → Prop) (ad : Nat → Nat) (τ : Nat → Nat → Nat) (q a i x : Nat) (hI : IM τ) (hq : q = 1 ∨ q = 2) (ha : a < τ 0 1) (hi : i < τ 0 1) (hx0 : x < τ 0 1) (hfd : foundF τ q a i x (τ 0 1 - 7) 7 = 0) (hfl : τ 0 1 = 24) : Met l yX5_make wsX5_make rX5_make_full (va_Pc [.ref (ad 0), .int (nI q), .int (nI a), .int (nI i), .int (nI x)] (Wm D cI cZ A ad τ)) (va_Qi (fun r u => r = nI 0 ∧ u = sU τ 0 0 3) (fun u t => Wm D cI cZ A ad u t) A) 0 0 A := by
  refine Met.ofW (cc := cX5_make) (maxL := 10) (ret := (some .int)) (by decide) rfl ?_
  intro p e s m args below meth c s₁ B hml hv
  obtain ⟨rfl, hP, hK, hD⟩ := hv
  have hx := B.exec
  have hb := B.bytes
  have hr := B.returns
  have hts := atoms_spec (ws := wsX5_make) B.pre
  have hown : s.vm.findClass RX5 = some m.cls := findClass_of_methodNamed B.named
  have hlocks := B.notSynchronized
  have hS : va_S A s.heap s.heap [] := va_S.rf
  have hl := lv_entry ([.ref (ad 0), .int (nI q), .int (nI a), .int (nI i), .int (nI x)]) (n := 10) (Nat.le_of_ble_eq_true rfl)
  rw [lg_entry_eq]
  generalize (lg_sl ([.ref (ad 0), .int (nI q), .int (nI a), .int (nI i), .int (nI x)]) ++ List.replicate (10 - (lg_sl ([.ref (ad 0), .int (nI q), .int (nI a), .int (nI i), .int (nI x)])).length) Slot.unset).toArray = ls at hl ⊢
  have hl : lv_has ls 10 [(0, .ref (ad 0)), (1, .int (nI q)), (2, .int (nI a)), (3, .int (nI i)), (4, .int (nI x))] := hl
  have hc := hI.terms
  refine lv_aload_n hx hb dX5_make_0 rfl (lv_at hl 0 rfl) ?_
  refine lv_iload_n hx hb dX5_make_1 rfl (lv_at hl 1 rfl) ?_
  refine lv_iload_n hx hb dX5_make_2 rfl (lv_at hl 2 rfl) ?_
  refine lv_iload_n hx hb dX5_make_3 rfl (lv_at hl 3 rfl) ?_
  refine lv_iload hx hb dX5_make_4 (lv_at hl 4 rfl) ?_
  refine vp_callSi (va_Run.run (va_runV (As := [.int (nI q), .int (nI a), .int (nI i), .int (nI x)]) (rest := []) ⟨hx, hb, hml, hown, hts⟩ (c_X5_found l D cI cZ A ad τ q a i x hI (by omega) (by omega) (by omega) (by omega)) (cwV 4 hts gX5_make_X5_found rfl rfl rfl (by decide +kernel) ⟨Nat.le_of_ble_eq_true rfl, Nat.le_of_ble_eq_true rfl⟩) ⟨Wm.blind, va_recv hK hP (ci := 4) (q0 := 0) rfl rfl, fun U hU hW => ⟨rfl, Wm.go hP hK hD hU hW⟩⟩ rfl rfl hl.1 rfl (lv_room (Nat.le_of_ble_eq_true rfl)) dX5_make_6 ⟨Nat.zero_le _, Nat.zero_le _⟩)) (fun r_1 hr_1 => ?_)
  refine n_to (w := mI (foundF τ q a i x (τ 0 1 - 7) 7)) (hr_1.trans rfl) ?_
  refine lv_istore (lv' := [(5, .int (mI (foundF τ q a i x (τ 0 1 - 7) 7))), (0, .ref (ad 0)), (1, .int (nI q)), (2, .int (nI a)), (3, .int (nI i)), (4, .int (nI x))]) hx hb dX5_make_9 hl (by decide) rfl (fun ls hl => ?_)
  refine lv_iload hx hb dX5_make_11 (lv_at hl 0 rfl) ?_
  refine q_if_lt hx hb (tgt := 19) (mI_neg (by omega)) dX5_make_13 (by decide) (fun c_13 => ?_) (fun c_13 => ?_)
  · refine lv_aload_n hx hb dX5_make_19 rfl (lv_at hl 1 rfl) ?_
    refine va_get (D := D) (ci := 4) (v := .int (nI (τ 0 1))) (C := RX5) (T := TX5) (N := 20) hx hb hts in_X5_make_X5 hown hK hP 0 rfl rfl 1 (by decide) (hts _ lk_X5_make_7) (fun _ h9 => h9) rfl dX5_make_20 ?_
    refine lv_bipush (v := nI 24) hx hb dX5_make_23 (by decide) ?_
    refine q_icmp_ne hx hb (tgt := 34) (nI_eq (by omega) (by omega)) dX5_make_25 (by decide) (fun c_25 => ?_) (fun c_25 => ?_)
    · exact absurd hfl c_25
    · refine lv_aload_n hx hb dX5_make_28 rfl (lv_at hl 1 rfl) ?_
      refine lv_iconst (v := nI 3) hx hb dX5_make_29 (by decide) ?_
      refine va_calli (va_runV (As := [.int (nI 3)]) (rest := []) ⟨hx, hb, hml, hown, hts⟩ (c_X5_fail l D cI cZ A ad τ 3) (cwV 1 hts gX5_make_X5_fail rfl rfl rfl (by decide +kernel) ⟨Nat.le_of_ble_eq_true rfl, Nat.le_of_ble_eq_true rfl⟩) ⟨Wm.blind, va_recv hK hP (ci := 4) (q0 := 0) rfl rfl, fun U hU hW => ⟨rfl, Wm.go hP hK hD hU hW⟩⟩ rfl rfl hl.1 rfl (lv_room (Nat.le_of_ble_eq_true rfl)) dX5_make_30 ⟨Nat.zero_le _, Nat.zero_le _⟩) hS (fun q _ h => h) (fun q h => h) (fun r_3 τ_2 t H1 locs ht hvm hwτ_2 hB hz1 hk1 hS => ?_)
      obtain ⟨hr_3, hwτ_2⟩ := hwτ_2
      refine n_to (w := nI 0) (hr_3) ?_
      obtain ⟨hP, -, hD⟩ := hB
      rw [ht] at hP
      generalize H1 = H at hP hS ⊢
      exact W.iret (v := nI 0) hx hb hr (fun t ht hW => ⟨⟨_, τ_2, rfl, (⟨rfl, hwτ_2⟩), Wm.go hP hK hD ht hW⟩, hS.F ht⟩) hS.2.2 dX5_make_33
  · exact absurd hfd c_13
theorem lk_X5_make_17 : Cond.fieldLink RX5 17 "ArrayClaimsModel" "kind" "[I" ∈ wsX5_make := by decide +kernel
theorem lk_X5_make_20 : Cond.fieldLink RX5 20 "ArrayClaimsModel" "first" "[I" ∈ wsX5_make := by decide +kernel
theorem lk_X5_make_23 : Cond.fieldLink RX5 23 "ArrayClaimsModel" "second" "[I" ∈ wsX5_make := by decide +kernel
theorem lk_X5_make_26 : Cond.fieldLink RX5 26 "ArrayClaimsModel" "third" "[I" ∈ wsX5_make := by decide +kernel
theorem lk_X5_make_13 : Cond.fieldLink RX5 13 "ArrayClaimsModel" "sort" "[I" ∈ wsX5_make := by decide +kernel
theorem lk_X5_make_35 : Cond.fieldLink RX5 35 "ArrayClaimsModel" "code" "[I" ∈ wsX5_make := by decide +kernel
def rX5_make_new : Room := { frames := 1, cells := 0, slots := 0, locals := 25 }
set_option maxHeartbeats 4000000 in
set_option maxRecDepth 100000 in
theorem c_X5_make_new (l : Launch) (D : va_G) (cI cZ : ClassId) (A : Nat → Prop) (ad : Nat → Nat) (τ : Nat → Nat → Nat) (q a i x : Nat) (hI : IM τ) (hq : q = 1 ∨ q = 2) (ha : a < τ 0 1) (hi : i < τ 0 1) (hx0 : x < τ 0 1) (hfd : foundF τ q a i x (τ 0 1 - 7) 7 = 0) (hfl : τ 0 1 < 24) (hci : ∀ p, p < 5 → τ 9 (24 * p + i) < 3) (hce : q = 2 → ∀ p, p < 5 → τ 9 (24 * p + x) < 8) : Met l yX5_make wsX5_make rX5_make_new (va_Pc [.ref (ad 0), .int (nI q), .int (nI a), .int (nI i), .int (nI x)] (Wm D cI cZ A ad τ)) (va_Qi (fun r u => r = nI (τ 0 1) ∧ MK τ q a i x u) (fun u t => Wm D cI cZ A ad u t) A) 0 0 A := by
  refine Met.ofW (cc := cX5_make) (maxL := 10) (ret := (some .int)) (by decide) rfl ?_
  intro p e s m args below meth c s₁ B hml hv
  obtain ⟨rfl, hP, hK, hD⟩ := hv
  have hx := B.exec
  have hb := B.bytes
  have hr := B.returns
  have hts := atoms_spec (ws := wsX5_make) B.pre
  have hown : s.vm.findClass RX5 = some m.cls := findClass_of_methodNamed B.named
  have hlocks := B.notSynchronized
  have hS : va_S A s.heap s.heap [] := va_S.rf
  have hl := lv_entry ([.ref (ad 0), .int (nI q), .int (nI a), .int (nI i), .int (nI x)]) (n := 10) (Nat.le_of_ble_eq_true rfl)
  rw [lg_entry_eq]
  generalize (lg_sl ([.ref (ad 0), .int (nI q), .int (nI a), .int (nI i), .int (nI x)]) ++ List.replicate (10 - (lg_sl ([.ref (ad 0), .int (nI q), .int (nI a), .int (nI i), .int (nI x)])).length) Slot.unset).toArray = ls at hl ⊢
  have hl : lv_has ls 10 [(0, .ref (ad 0)), (1, .int (nI q)), (2, .int (nI a)), (3, .int (nI i)), (4, .int (nI x))] := hl
  have hc := hI.terms
  refine lv_aload_n hx hb dX5_make_0 rfl (lv_at hl 0 rfl) ?_
  refine lv_iload_n hx hb dX5_make_1 rfl (lv_at hl 1 rfl) ?_
  refine lv_iload_n hx hb dX5_make_2 rfl (lv_at hl 2 rfl) ?_
  refine lv_iload_n hx hb dX5_make_3 rfl (lv_at hl 3 rfl) ?_
  refine lv_iload hx hb dX5_make_4 (lv_at hl 4 rfl) ?_
  refine vp_callSi (va_Run.run (va_runV (As := [.int (nI q), .int (nI a), .int (nI i), .int (nI x)]) (rest := []) ⟨hx, hb, hml, hown, hts⟩ (c_X5_found l D cI cZ A ad τ q a i x hI (by omega) (by omega) (by omega) (by omega)) (cwV 4 hts gX5_make_X5_found rfl rfl rfl (by decide +kernel) ⟨Nat.le_of_ble_eq_true rfl, Nat.le_of_ble_eq_true rfl⟩) ⟨Wm.blind, va_recv hK hP (ci := 4) (q0 := 0) rfl rfl, fun U hU hW => ⟨rfl, Wm.go hP hK hD hU hW⟩⟩ rfl rfl hl.1 rfl (lv_room (Nat.le_of_ble_eq_true rfl)) dX5_make_6 ⟨Nat.zero_le _, Nat.zero_le _⟩)) (fun r_1 hr_1 => ?_)
  refine n_to (w := mI (foundF τ q a i x (τ 0 1 - 7) 7)) (hr_1.trans rfl) ?_
  refine lv_istore (lv' := [(5, .int (mI (foundF τ q a i x (τ 0 1 - 7) 7))), (0, .ref (ad 0)), (1, .int (nI q)), (2, .int (nI a)), (3, .int (nI i)), (4, .int (nI x))]) hx hb dX5_make_9 hl (by decide) rfl (fun ls hl => ?_)
  refine lv_iload hx hb dX5_make_11 (lv_at hl 0 rfl) ?_
  refine q_if_lt hx hb (tgt := 19) (mI_neg (by omega)) dX5_make_13 (by decide) (fun c_13 => ?_) (fun c_13 => ?_)
  · refine lv_aload_n hx hb dX5_make_19 rfl (lv_at hl 1 rfl) ?_
    refine va_get (D := D) (ci := 4) (v := .int (nI (τ 0 1))) (C := RX5) (T := TX5) (N := 20) hx hb hts in_X5_make_X5 hown hK hP 0 rfl rfl 1 (by decide) (hts _ lk_X5_make_7) (fun _ h9 => h9) rfl dX5_make_20 ?_
    refine lv_bipush (v := nI 24) hx hb dX5_make_23 (by decide) ?_
    refine q_icmp_ne hx hb (tgt := 34) (nI_eq (by omega) (by omega)) dX5_make_25 (by decide) (fun c_25 => ?_) (fun c_25 => ?_)
    · refine lv_aload_n hx hb dX5_make_34 rfl (lv_at hl 1 rfl) ?_
      refine va_get (D := D) (ci := 4) (v := .int (nI (τ 0 1))) (C := RX5) (T := TX5) (N := 20) hx hb hts in_X5_make_X5 hown hK hP 0 rfl rfl 1 (by decide) (hts _ lk_X5_make_7) (fun _ h9 => h9) rfl dX5_make_35 ?_
      refine lv_istore (lv' := [(5, .int (nI (τ 0 1))), (0, .ref (ad 0)), (1, .int (nI q)), (2, .int (nI a)), (3, .int (nI i)), (4, .int (nI x))]) hx hb dX5_make_38 hl (by decide) rfl (fun ls hl => ?_)
      refine lv_aload_n hx hb dX5_make_40 rfl (lv_at hl 1 rfl) ?_
      refine lv_dup hx hb dX5_make_41 rfl ?_
      refine va_get (D := D) (ci := 4) (v := .int (nI (τ 0 1))) (C := RX5) (T := TX5) (N := 20) hx hb hts in_X5_make_X5 hown hK hP 0 rfl rfl 1 (by decide) (hts _ lk_X5_make_7) (fun _ h9 => h9) rfl dX5_make_42 ?_
      refine lv_iconst (v := nI 1) hx hb dX5_make_45 (by decide) ?_
      refine n_add hx hb dX5_make_46 ?_
      refine va_put (D := D) (ci := 4) (v := .int (nI ((τ 0 1) + 1))) (ty := .int) (C := RX5) (T := TX5) (N := 20) hx hb hts in_X5_make_X5 tyX5 tyX5_ok nmX5 hown hK hP hD hS 0 rfl rfl 1 (by decide) (hts _ lk_X5_make_7) (fun _ h9 => h9) rfl (by decide +kernel) rfl rfl (Nat.le_of_ble_eq_true rfl) dX5_make_47 (fun H locs hP hD hS => ?_)
      have hP : va_P D vwCl (WM ad cI cZ (sU τ 0 1 ((τ 0 1) + 1))) H := hP
      have hD : va_D A (WM ad cI cZ (sU τ 0 1 ((τ 0 1) + 1))) := hD
      refine lv_aload_n hx hb dX5_make_50 rfl (lv_at hl 1 rfl) ?_
      refine va_get (D := D) (ci := 4) (v := .ref (ad 3)) (C := RX5) (T := TX5) (N := 20) hx hb hts in_X5_make_X5 hown hK hP 0 rfl rfl 3 (by decide) (hts _ lk_X5_make_17) (fun _ h9 => h9) rfl dX5_make_51 ?_
      refine lv_iload hx hb dX5_make_54 (lv_at hl 0 rfl) ?_
      refine lv_iload_n hx hb dX5_make_56 rfl (lv_at hl 2 rfl) ?_
      refine n_ast (ws' := WM ad cI cZ (sU (sU τ 0 1 ((τ 0 1) + 1)) 3 (τ 0 1) q)) hx hb hK hP hD hS 2 0 rfl rfl (i := τ 0 1) (by omega) (by decide) (WMs3 ..) dX5_make_57 (fun H locs hP hD hS => ?_)
      refine lv_aload_n hx hb dX5_make_58 rfl (lv_at hl 1 rfl) ?_
      refine va_get (D := D) (ci := 4) (v := .ref (ad 4)) (C := RX5) (T := TX5) (N := 20) hx hb hts in_X5_make_X5 hown hK hP 0 rfl rfl 4 (by decide) (hts _ lk_X5_make_20) (fun _ h9 => h9) rfl dX5_make_59 ?_
      refine lv_iload hx hb dX5_make_62 (lv_at hl 0 rfl) ?_
      refine lv_iload_n hx hb dX5_make_64 rfl (lv_at hl 3 rfl) ?_
      refine n_ast (ws' := WM ad cI cZ (sU (sU (sU τ 0 1 ((τ 0 1) + 1)) 3 (τ 0 1) q) 4 (τ 0 1) a)) hx hb hK hP hD hS 3 0 rfl rfl (i := τ 0 1) (by omega) (by decide) (WMs4 ..) dX5_make_65 (fun H locs hP hD hS => ?_)
      refine lv_aload_n hx hb dX5_make_66 rfl (lv_at hl 1 rfl) ?_
      refine va_get (D := D) (ci := 4) (v := .ref (ad 5)) (C := RX5) (T := TX5) (N := 20) hx hb hts in_X5_make_X5 hown hK hP 0 rfl rfl 5 (by decide) (hts _ lk_X5_make_23) (fun _ h9 => h9) rfl dX5_make_67 ?_
      refine lv_iload hx hb dX5_make_70 (lv_at hl 0 rfl) ?_
      refine lv_iload_n hx hb dX5_make_72 rfl (lv_at hl 4 rfl) ?_
      refine n_ast (ws' := WM ad cI cZ (sU (sU (sU (sU τ 0 1 ((τ 0 1) + 1)) 3 (τ 0 1) q) 4 (τ 0 1) a) 5 (τ 0 1) i)) hx hb hK hP hD hS 4 0 rfl rfl (i := τ 0 1) (by omega) (by decide) (WMs5 ..) dX5_make_73 (fun H locs hP hD hS => ?_)
      refine lv_aload_n hx hb dX5_make_74 rfl (lv_at hl 1 rfl) ?_
      refine va_get (D := D) (ci := 4) (v := .ref (ad 6)) (C := RX5) (T := TX5) (N := 20) hx hb hts in_X5_make_X5 hown hK hP 0 rfl rfl 6 (by decide) (hts _ lk_X5_make_26) (fun _ h9 => h9) rfl dX5_make_75 ?_
      refine lv_iload hx hb dX5_make_78 (lv_at hl 0 rfl) ?_
      refine lv_iload hx hb dX5_make_80 (lv_at hl 5 rfl) ?_
      refine n_ast (ws' := WM ad cI cZ (sU (sU (sU (sU (sU τ 0 1 ((τ 0 1) + 1)) 3 (τ 0 1) q) 4 (τ 0 1) a) 5 (τ 0 1) i) 6 (τ 0 1) x)) hx hb hK hP hD hS 5 0 rfl rfl (i := τ 0 1) (by omega) (by decide) (WMs6 ..) dX5_make_82 (fun H locs hP hD hS => ?_)
      refine lv_aload_n hx hb dX5_make_83 rfl (lv_at hl 1 rfl) ?_
      refine va_get (D := D) (ci := 4) (v := .ref (ad 2)) (C := RX5) (T := TX5) (N := 20) hx hb hts in_X5_make_X5 hown hK hP 0 rfl rfl 2 (by decide) (hts _ lk_X5_make_13) (fun _ h9 => h9) rfl dX5_make_84 ?_
      refine lv_iload hx hb dX5_make_87 (lv_at hl 0 rfl) ?_
      refine lv_iload_n hx hb dX5_make_89 rfl (lv_at hl 2 rfl) ?_
      refine n_ast (ws' := WM ad cI cZ (sU (sU (sU (sU (sU (sU τ 0 1 ((τ 0 1) + 1)) 3 (τ 0 1) q) 4 (τ 0 1) a) 5 (τ 0 1) i) 6 (τ 0 1) x) 2 (τ 0 1) q)) hx hb hK hP hD hS 1 0 rfl rfl (i := τ 0 1) (by omega) (by decide) (WMs2 ..) dX5_make_90 (fun H locs hP hD hS => ?_)
      refine lv_iconst (v := nI 0) hx hb dX5_make_91 (by decide) ?_
      refine lv_istore (lv' := [(6, .int (nI 0)), (5, .int (nI (τ 0 1))), (0, .ref (ad 0)), (1, .int (nI q)), (2, .int (nI a)), (3, .int (nI i)), (4, .int (nI x))]) hx hb dX5_make_92 hl (by decide) rfl (fun ls hl => ?_)
      have lp94 : ∀ (n : Nat) (p1 : Nat) (τ_2 : Nat → Nat → Nat) (H : Heap) (locs : List Loc) (ls : Array Slot), (p1 + n = 5) → (∀ r, r ≠ 9 → τ_2 r = sU (sU (sU (sU (sU (sU τ 0 1 ((τ 0 1) + 1)) 3 (τ 0 1) q) 4 (τ 0 1) a) 5 (τ 0 1) i) 6 (τ 0 1) x) 2 (τ 0 1) q r) → (∀ j, (∀ p2, p2 < p1 → j ≠ 24 * p2 + τ 0 1) → τ_2 9 j = τ 9 j) → (∀ p2, p2 < p1 → τ_2 9 (24 * p2 + τ 0 1) = cvF τ q a i x p2) → va_P D vwCl (WM ad cI cZ τ_2) H → va_D A (WM ad cI cZ τ_2) → va_S A s.heap H locs → lv_has ls 10 [(6, .int (nI p1)), (5, .int (nI (τ 0 1))), (0, .ref (ad 0)), (1, .int (nI q)), (2, .int (nI a)), (3, .int (nI i)), (4, .int (nI x))] → W p l e rX5_make_new s m (([.ref (ad 0), .int (nI q), .int (nI a), .int (nI i), .int (nI x)] : List Value).toArray) below meth c H locs 0 0 (MQ below (va_Qi (fun r u => r = nI (τ 0 1) ∧ MK τ q a i x u) (fun u t => Wm D cI cZ A ad u t) A) (([.ref (ad 0), .int (nI q), .int (nI a), .int (nI i), .int (nI x)] : List Value).toArray) s 0 0 A) (F0 m 94 ls []) := by
        intro n
        induction n with
        | zero =>
          intro p1 τ_2 H locs ls hF1 hO h9 hn hP hD hS hl
          obtain rfl : p1 = 5 := by omega
          refine lv_iload hx hb dX5_make_94 (lv_at hl 0 rfl) ?_
          refine lv_iconst (v := nI 5) hx hb dX5_make_96 (by decide) ?_
          refine n_icmp_ge hx hb (tgt := 197) (by omega) (by omega) dX5_make_97 (by decide) (fun c_97 => ?_) (fun c_97 => ?_)
          · refine lv_iload hx hb dX5_make_197 (lv_at hl 1 rfl) ?_
            exact W.iret (v := nI (τ 0 1)) hx hb hr (fun t ht hW => ⟨⟨_, τ_2, rfl, (⟨rfl, MK_of hfl hO h9 hn⟩), Wm.go hP hK hD ht hW⟩, hS.F ht⟩) hS.2.2 dX5_make_199
          · omega
        | succ n ih94 =>
          intro p1 τ_2 H locs ls hF1 hO h9 hn hP hD hS hl
          obtain ⟨X1, hX1⟩ : ∃ z, z = τ 9 (24 * p1 + a) := ⟨_, rfl⟩
          obtain ⟨C1, hC1⟩ : ∃ z, z = τ 9 (24 * p1 + i) := ⟨_, rfl⟩
          obtain ⟨E1, hE1⟩ : ∃ z, z = τ 9 (24 * p1 + x) := ⟨_, rfl⟩
          have hX3 : X1 < 1024 := by rw [hX1]; exact hI.code (by omega)
          have hC3 : C1 < 3 := by rw [hC1]; exact hci p1 (by omega)
          refine lv_iload hx hb dX5_make_94 (lv_at hl 0 rfl) ?_
          refine lv_iconst (v := nI 5) hx hb dX5_make_96 (by decide) ?_
          refine n_icmp_ge hx hb (tgt := 197) (by omega) (by omega) dX5_make_97 (by decide) (fun c_97 => ?_) (fun c_97 => ?_)
          · omega
          · refine lv_aload_n hx hb dX5_make_100 rfl (lv_at hl 2 rfl) ?_
            refine va_get (D := D) (ci := 4) (v := .ref (ad 9)) (C := RX5) (T := TX5) (N := 20) hx hb hts in_X5_make_X5 hown hK hP 0 rfl rfl 9 (by decide) (hts _ lk_X5_make_35) (fun _ h9 => h9) rfl dX5_make_101 ?_
            refine lv_bipush (v := nI 24) hx hb dX5_make_104 (by decide) ?_
            refine lv_iload hx hb dX5_make_106 (lv_at hl 0 rfl) ?_
            refine n_mul hx hb dX5_make_108 ?_
            refine lv_iload_n hx hb dX5_make_109 rfl (lv_at hl 4 rfl) ?_
            refine n_add hx hb dX5_make_110 ?_
            refine n_ald hx hb hK hP 8 0 rfl rfl (i := (24 * p1) + a) (by omega) (by decide) (v := nI (τ_2 9 ((24 * p1) + a))) rfl dX5_make_111 ?_
            refine n_to (w := nI X1) (by rw [h9 (24 * p1 + a) (fun p2 hp2 => by omega), hX1]) ?_
            refine lv_istore (lv' := [(7, .int (nI X1)), (6, .int (nI p1)), (5, .int (nI (τ 0 1))), (0, .ref (ad 0)), (1, .int (nI q)), (2, .int (nI a)), (3, .int (nI i)), (4, .int (nI x))]) hx hb dX5_make_112 hl (by decide) rfl (fun ls hl => ?_)
            refine lv_aload_n hx hb dX5_make_114 rfl (lv_at hl 3 rfl) ?_
            refine va_get (D := D) (ci := 4) (v := .ref (ad 9)) (C := RX5) (T := TX5) (N := 20) hx hb hts in_X5_make_X5 hown hK hP 0 rfl rfl 9 (by decide) (hts _ lk_X5_make_35) (fun _ h9 => h9) rfl dX5_make_115 ?_
            refine lv_bipush (v := nI 24) hx hb dX5_make_118 (by decide) ?_
            refine lv_iload hx hb dX5_make_120 (lv_at hl 1 rfl) ?_
            refine n_mul hx hb dX5_make_122 ?_
            refine lv_iload_n hx hb dX5_make_123 rfl (lv_at hl 6 rfl) ?_
            refine n_add hx hb dX5_make_124 ?_
            refine n_ald hx hb hK hP 8 0 rfl rfl (i := (24 * p1) + i) (by omega) (by decide) (v := nI (τ_2 9 ((24 * p1) + i))) rfl dX5_make_125 ?_
            refine n_to (w := nI C1) (by rw [h9 (24 * p1 + i) (fun p2 hp2 => by omega), hC1]) ?_
            refine lv_istore (lv' := [(8, .int (nI C1)), (7, .int (nI X1)), (6, .int (nI p1)), (5, .int (nI (τ 0 1))), (0, .ref (ad 0)), (1, .int (nI q)), (2, .int (nI a)), (3, .int (nI i)), (4, .int (nI x))]) hx hb dX5_make_126 hl (by decide) rfl (fun ls hl => ?_)
            refine lv_iconst (v := nI 1) hx hb dX5_make_128 (by decide) ?_
            refine lv_iconst (v := nI 3) hx hb dX5_make_129 (by decide) ?_
            refine lv_iload hx hb dX5_make_130 (lv_at hl 0 rfl) ?_
            refine n_mul hx hb dX5_make_132 ?_
            refine n_add hx hb dX5_make_133 ?_
            refine lv_istore (lv' := [(9, .int (nI (1 + (3 * C1)))), (8, .int (nI C1)), (7, .int (nI X1)), (6, .int (nI p1)), (5, .int (nI (τ 0 1))), (0, .ref (ad 0)), (1, .int (nI q)), (2, .int (nI a)), (3, .int (nI i)), (4, .int (nI x))]) hx hb dX5_make_134 hl (by decide) rfl (fun ls hl => ?_)
            refine lv_aload_n hx hb dX5_make_136 rfl (lv_at hl 5 rfl) ?_
            refine va_get (D := D) (ci := 4) (v := .ref (ad 9)) (C := RX5) (T := TX5) (N := 20) hx hb hts in_X5_make_X5 hown hK hP 0 rfl rfl 9 (by decide) (hts _ lk_X5_make_35) (fun _ h9 => h9) rfl dX5_make_137 ?_
            refine lv_bipush (v := nI 24) hx hb dX5_make_140 (by decide) ?_
            refine lv_iload hx hb dX5_make_142 (lv_at hl 3 rfl) ?_
            refine n_mul hx hb dX5_make_144 ?_
            refine lv_iload hx hb dX5_make_145 (lv_at hl 4 rfl) ?_
            refine n_add hx hb dX5_make_147 ?_
            refine lv_iload_n hx hb dX5_make_148 rfl (lv_at hl 6 rfl) ?_
            refine lv_iconst (v := nI 1) hx hb dX5_make_149 (by decide) ?_
            refine q_icmp_ne hx hb (tgt := 163) (nI_eq (by omega) (by omega)) dX5_make_150 (by decide) (fun c_150 => ?_) (fun c_150 => ?_)
            · have hE3 : E1 < 8 := by rw [hE1]; exact hce (by omega) p1 (by omega)
              refine lv_iload hx hb dX5_make_163 (lv_at hl 2 rfl) ?_
              refine lv_bipush (v := nI 7) hx hb dX5_make_165 (by decide) ?_
              refine lv_iload hx hb dX5_make_167 (lv_at hl 0 rfl) ?_
              refine lv_ishl hx hb dX5_make_169 ?_
              refine n_to (w := nI (7 * 2 ^ (1 + 3 * C1))) (st_shl (by omega) (by omega)) ?_
              refine lv_iconst (v := mI 0) hx hb dX5_make_170 (by decide) ?_
              refine lv_ixor hx hb dX5_make_171 ?_
              refine n_to (w := (nI (7 * 2 ^ (1 + 3 * C1)) ^^^ mI 0)) (rfl) ?_
              refine lv_iand hx hb dX5_make_172 ?_
              refine n_to (w := nI (X1 - partF X1 C1 * 2 ^ (1 + 3 * C1))) (st_clr C1 hC3 X1 hX3) ?_
              refine lv_aload_n hx hb dX5_make_173 rfl (lv_at hl 5 rfl) ?_
              refine va_get (D := D) (ci := 4) (v := .ref (ad 9)) (C := RX5) (T := TX5) (N := 20) hx hb hts in_X5_make_X5 hown hK hP 0 rfl rfl 9 (by decide) (hts _ lk_X5_make_35) (fun _ h9 => h9) rfl dX5_make_174 ?_
              refine lv_bipush (v := nI 24) hx hb dX5_make_177 (by decide) ?_
              refine lv_iload hx hb dX5_make_179 (lv_at hl 3 rfl) ?_
              refine n_mul hx hb dX5_make_181 ?_
              refine lv_iload hx hb dX5_make_182 (lv_at hl 9 rfl) ?_
              refine n_add hx hb dX5_make_184 ?_
              refine n_ald hx hb hK hP 8 0 rfl rfl (i := (24 * p1) + x) (by omega) (by decide) (v := nI (τ_2 9 ((24 * p1) + x))) rfl dX5_make_185 ?_
              refine n_to (w := nI E1) (by rw [h9 (24 * p1 + x) (fun p2 hp2 => by omega), hE1]) ?_
              refine lv_iload hx hb dX5_make_186 (lv_at hl 0 rfl) ?_
              refine lv_ishl hx hb dX5_make_188 ?_
              refine n_to (w := nI (E1 * 2 ^ (1 + 3 * C1))) (st_shl hC3 hE3) ?_
              refine lv_ior hx hb dX5_make_189 ?_
              refine n_to (w := nI (stF X1 C1 E1)) (st_or hC3 hX3 hE3) ?_
              refine n_ast (ws' := WM ad cI cZ (sU τ_2 9 ((24 * p1) + (τ 0 1)) (stF X1 C1 E1))) hx hb hK hP hD hS 8 0 rfl rfl (i := (24 * p1) + (τ 0 1)) (by omega) (by decide) (WMs9 ..) dX5_make_190 (fun H locs hP hD hS => ?_)
              refine lv_iinc (v := nI (p1 + 1)) (lv' := [(6, .int (nI (p1 + 1))), (9, .int (nI (1 + (3 * C1)))), (8, .int (nI C1)), (7, .int (nI X1)), (5, .int (nI (τ 0 1))), (0, .ref (ad 0)), (1, .int (nI q)), (2, .int (nI a)), (3, .int (nI i)), (4, .int (nI x))]) hx hb dX5_make_191 hl (k := 3) rfl (nI_add _ _) (by decide) rfl (fun ls hl => ?_)
              refine lv_goto (tgt := 94) hx hb dX5_make_194 (by decide) ?_
              exact ih94 (p1 + 1)  _ _ _ _  (by omega) (hO_step hO) (fun j hj => by rw [sU_at, if_neg (hj p1 (by omega))]; exact h9 j (fun p2 hp2 => hj p2 (by omega))) (fun p2 hp2 => by rw [sU_at]; split; (obtain rfl : p2 = p1 := by omega); simp [cvF, c_150, hX1, hC1, hE1]; exact hn p2 (by omega)) hP hD hS (lv_sub hl [0, 4, 5, 6, 7, 8, 9] rfl)
            · refine lv_iload hx hb dX5_make_153 (lv_at hl 2 rfl) ?_
              refine lv_iload hx hb dX5_make_155 (lv_at hl 1 rfl) ?_
              refine vp_callSi (va_Run.run (va_runS (As := [.int (nI X1), .int (nI C1)]) (rest := [.int (nI ((24 * p1) + (τ 0 1))), .ref (ad 9)]) ⟨hx, hb, hml, hown, hts⟩ (c_X5_part l   X1 C1 (by omega) (by omega)) (va_cwS 2 hts gX5_make_X5_part rfl rfl rfl (by decide +kernel) ⟨Nat.le_of_ble_eq_true rfl, Nat.le_of_ble_eq_true rfl⟩) ⟨tt_blind, fun U hU hW => ⟨rfl, trivial⟩⟩ rfl rfl hl.1 rfl (lv_room (Nat.le_of_ble_eq_true rfl)) dX5_make_157 ⟨Nat.zero_le _, Nat.zero_le _⟩)) (fun r_3 hr_3 => ?_)
              refine n_to (w := nI (partF X1 C1)) (hr_3.trans rfl) ?_
              refine lv_goto (tgt := 190) hx hb dX5_make_160 (by decide) ?_
              refine n_ast (ws' := WM ad cI cZ (sU τ_2 9 ((24 * p1) + (τ 0 1)) (partF X1 C1))) hx hb hK hP hD hS 8 0 rfl rfl (i := (24 * p1) + (τ 0 1)) (by omega) (by decide) (WMs9 ..) dX5_make_190 (fun H locs hP hD hS => ?_)
              refine lv_iinc (v := nI (p1 + 1)) (lv' := [(6, .int (nI (p1 + 1))), (9, .int (nI (1 + (3 * C1)))), (8, .int (nI C1)), (7, .int (nI X1)), (5, .int (nI (τ 0 1))), (0, .ref (ad 0)), (1, .int (nI q)), (2, .int (nI a)), (3, .int (nI i)), (4, .int (nI x))]) hx hb dX5_make_191 hl (k := 3) rfl (nI_add _ _) (by decide) rfl (fun ls hl => ?_)
              refine lv_goto (tgt := 94) hx hb dX5_make_194 (by decide) ?_
              exact ih94 (p1 + 1)  _ _ _ _  (by omega) (hO_step hO) (fun j hj => by rw [sU_at, if_neg (hj p1 (by omega))]; exact h9 j (fun p2 hp2 => hj p2 (by omega))) (fun p2 hp2 => by rw [sU_at]; split; (obtain rfl : p2 = p1 := by omega); simp [cvF, c_150, hX1, hC1, hE1]; exact hn p2 (by omega)) hP hD hS (lv_sub hl [0, 4, 5, 6, 7, 8, 9] rfl)
      exact lp94 5 0  _ _ _ _ (by omega) (fun _ _ => rfl) (fun _ _ => rfl) (fun p2 q => absurd q (by omega)) hP hD hS (lv_sub hl [0, 1, 2, 3, 4, 5, 6] rfl)
    · omega
  · exact absurd hfd c_13
theorem in_X5_select_X5 : ∀ w ∈ wsX50, w ∈ wsX5_select := by decide +kernel
theorem lk_X5_select_13 : Cond.fieldLink RX5 13 "ArrayClaimsModel" "sort" "[I" ∈ wsX5_select := by decide +kernel
theorem lk_X5_select_67 : Cond.fieldLink RX5 67 "ArrayClaimsModel" "thrown" "I" ∈ wsX5_select := by decide +kernel
def rX5_select_found : Room := { frames := 2, cells := 0, slots := 0, locals := 54 }
set_option maxHeartbeats 4000000 in
set_option maxRecDepth 100000 in
theorem c_X5_select_found (l : Launch) (D : va_G) (cI cZ : ClassId) (A : Nat → Prop) (ad : Nat → Nat) (τ : Nat → Nat → Nat) (a i k : Nat) (hI : IM τ) (ha : a < τ 0 1) (hi : i < τ 0 1) (hsa : τ 2 a = 2) (hsi : τ 2 i = 0) (hk : k < 24) (hfd : foundF τ 1 a i 0 (τ 0 1 - 7) 7 = k + 1) : Met l yX5_select wsX5_select rX5_select_found (va_Pc [.ref (ad 0), .int (nI a), .int (nI i)] (Wm D cI cZ A ad τ)) (va_Qi (fun r u => r = nI k ∧ u = sU τ 0 0 0) (fun u t => Wm D cI cZ A ad u t) A) 0 0 A := by
  refine Met.ofW (cc := cX5_select) (maxL := 3) (ret := (some .int)) (by decide) rfl ?_
  intro p e s m args below meth c s₁ B hml hv
  obtain ⟨rfl, hP, hK, hD⟩ := hv
  have hx := B.exec
  have hb := B.bytes
  have hr := B.returns
  have hts := atoms_spec (ws := wsX5_select) B.pre
  have hown : s.vm.findClass RX5 = some m.cls := findClass_of_methodNamed B.named
  have hlocks := B.notSynchronized
  have hS : va_S A s.heap s.heap [] := va_S.rf
  have hl := lv_entry ([.ref (ad 0), .int (nI a), .int (nI i)]) (n := 3) (Nat.le_of_ble_eq_true rfl)
  rw [lg_entry_eq]
  generalize (lg_sl ([.ref (ad 0), .int (nI a), .int (nI i)]) ++ List.replicate (3 - (lg_sl ([.ref (ad 0), .int (nI a), .int (nI i)])).length) Slot.unset).toArray = ls at hl ⊢
  have hl : lv_has ls 3 [(0, .ref (ad 0)), (1, .int (nI a)), (2, .int (nI i))] := hl
  have hc := hI.terms
  have hs1 := hI.sorts (j := a) (by omega)
  have hs2 := hI.sorts (j := i) (by omega)
  refine lv_aload_n hx hb dX5_select_0 rfl (lv_at hl 0 rfl) ?_
  refine lv_aload_n hx hb dX5_select_1 rfl (lv_at hl 0 rfl) ?_
  refine lv_iload_n hx hb dX5_select_2 rfl (lv_at hl 1 rfl) ?_
  refine vp_callSi (va_Run.run (va_runV (As := [.int (nI a)]) (rest := [.ref (ad 0)]) ⟨hx, hb, hml, hown, hts⟩ (c_X5_isTerm_in l D cI cZ A ad τ a ha hc.2) (cwV 1 hts gX5_select_X5_isTerm rfl rfl rfl (by decide +kernel) ⟨Nat.le_of_ble_eq_true rfl, Nat.le_of_ble_eq_true rfl⟩) ⟨Wm.blind, va_recv hK hP (ci := 4) (q0 := 0) rfl rfl, fun U hU hW => ⟨rfl, Wm.go hP hK hD hU hW⟩⟩ rfl rfl hl.1 rfl (lv_room (Nat.le_of_ble_eq_true rfl)) dX5_select_3 ⟨Nat.zero_le _, Nat.zero_le _⟩)) (fun r_1 hr_1 => ?_)
  refine n_to (w := bI true) (hr_1.trans rfl) ?_
  refine q_if_eq hx hb (tgt := 17) (bI_z) dX5_select_6 (by decide) (fun c_6 => ?_) (fun c_6 => ?_)
  · cases c_6
  · refine lv_aload_n hx hb dX5_select_9 rfl (lv_at hl 0 rfl) ?_
    refine lv_iload_n hx hb dX5_select_10 rfl (lv_at hl 2 rfl) ?_
    refine vp_callSi (va_Run.run (va_runV (As := [.int (nI i)]) (rest := [.ref (ad 0)]) ⟨hx, hb, hml, hown, hts⟩ (c_X5_isTerm_in l D cI cZ A ad τ i hi hc.2) (cwV 1 hts gX5_select_X5_isTerm rfl rfl rfl (by decide +kernel) ⟨Nat.le_of_ble_eq_true rfl, Nat.le_of_ble_eq_true rfl⟩) ⟨Wm.blind, va_recv hK hP (ci := 4) (q0 := 0) rfl rfl, fun U hU hW => ⟨rfl, Wm.go hP hK hD hU hW⟩⟩ rfl rfl hl.1 rfl (lv_room (Nat.le_of_ble_eq_true rfl)) dX5_select_11 ⟨Nat.zero_le _, Nat.zero_le _⟩)) (fun r_2 hr_2 => ?_)
    refine n_to (w := bI true) (hr_2.trans rfl) ?_
    refine q_if_ne hx hb (tgt := 21) (bI_z) dX5_select_14 (by decide) (fun c_14 => ?_) (fun c_14 => ?_)
    · refine lv_aload_n hx hb dX5_select_21 rfl (lv_at hl 0 rfl) ?_
      refine va_get (D := D) (ci := 4) (v := .ref (ad 2)) (C := RX5) (T := TX5) (N := 20) hx hb hts in_X5_select_X5 hown hK hP 0 rfl rfl 2 (by decide) (hts _ lk_X5_select_13) (fun _ h9 => h9) rfl dX5_select_22 ?_
      refine lv_iload_n hx hb dX5_select_25 rfl (lv_at hl 1 rfl) ?_
      refine n_ald hx hb hK hP 1 0 rfl rfl (i := a) (by omega) (by decide) (v := nI (τ 2 a)) rfl dX5_select_26 ?_
      refine lv_iconst (v := nI 2) hx hb dX5_select_27 (by decide) ?_
      refine q_icmp_ne hx hb (tgt := 40) (nI_eq (by omega) (by omega)) dX5_select_28 (by decide) (fun c_28 => ?_) (fun c_28 => ?_)
      · exact absurd hsa c_28
      · refine lv_aload_n hx hb dX5_select_31 rfl (lv_at hl 0 rfl) ?_
        refine va_get (D := D) (ci := 4) (v := .ref (ad 2)) (C := RX5) (T := TX5) (N := 20) hx hb hts in_X5_select_X5 hown hK hP 0 rfl rfl 2 (by decide) (hts _ lk_X5_select_13) (fun _ h9 => h9) rfl dX5_select_32 ?_
        refine lv_iload_n hx hb dX5_select_35 rfl (lv_at hl 2 rfl) ?_
        refine n_ald hx hb hK hP 1 0 rfl rfl (i := i) (by omega) (by decide) (v := nI (τ 2 i)) rfl dX5_select_36 ?_
        refine q_if_eq hx hb (tgt := 44) (nI_z (by omega)) dX5_select_37 (by decide) (fun c_37 => ?_) (fun c_37 => ?_)
        · refine lv_iconst (v := nI 0) hx hb dX5_select_44 (by decide) ?_
          refine va_put (D := D) (ci := 4) (v := .int (nI 0)) (ty := .int) (C := RX5) (T := TX5) (N := 20) hx hb hts in_X5_select_X5 tyX5 tyX5_ok nmX5 hown hK hP hD hS 0 rfl rfl 0 (by decide) (hts _ lk_X5_select_67) (fun _ h9 => h9) rfl (by decide +kernel) rfl rfl (Nat.le_of_ble_eq_true rfl) dX5_select_45 (fun H locs hP hD hS => ?_)
          have hP : va_P D vwCl (WM ad cI cZ (sU τ 0 0 0)) H := hP
          have hD : va_D A (WM ad cI cZ (sU τ 0 0 0)) := hD
          refine lv_aload_n hx hb dX5_select_48 rfl (lv_at hl 0 rfl) ?_
          refine va_get (D := D) (ci := 4) (v := .int (nI 0)) (C := RX5) (T := TX5) (N := 20) hx hb hts in_X5_select_X5 hown hK hP 0 rfl rfl 0 (by decide) (hts _ lk_X5_select_67) (fun _ h9 => h9) rfl dX5_select_49 ?_
          refine q_if_ne hx hb (tgt := 66) (nI_z (by omega)) dX5_select_52 (by decide) (fun c_52 => ?_) (fun c_52 => ?_)
          · exact absurd c_52 (by decide)
          · refine lv_aload_n hx hb dX5_select_55 rfl (lv_at hl 0 rfl) ?_
            refine lv_iconst (v := nI 1) hx hb dX5_select_56 (by decide) ?_
            refine lv_iload_n hx hb dX5_select_57 rfl (lv_at hl 1 rfl) ?_
            refine lv_iload_n hx hb dX5_select_58 rfl (lv_at hl 2 rfl) ?_
            refine lv_iconst (v := nI 0) hx hb dX5_select_59 (by decide) ?_
            refine vp_callSi (va_Run.run (va_runV (As := [.int (nI 1), .int (nI a), .int (nI i), .int (nI 0)]) (rest := []) ⟨hx, hb, hml, hown, hts⟩ (c_X5_make_found l D cI cZ A ad (sU τ 0 0 0) 1 a i 0 k (hI.thr 0) (by omega) ha hi (by show 0 < τ 0 1; omega) hk ((foundF_thr ..).trans hfd)) (cwV 4 hts gX5_select_X5_make rfl rfl rfl (by decide +kernel) ⟨Nat.le_of_ble_eq_true rfl, Nat.le_of_ble_eq_true rfl⟩) ⟨Wm.blind, va_recv hK hP (ci := 4) (q0 := 0) rfl rfl, fun U hU hW => ⟨rfl, Wm.go hP hK hD hU hW⟩⟩ rfl rfl hl.1 rfl (lv_room (Nat.le_of_ble_eq_true rfl)) dX5_select_60 ⟨Nat.zero_le _, Nat.zero_le _⟩)) (fun r_3 hr_3 => ?_)
            refine n_to (w := nI k) (hr_3.trans rfl) ?_
            refine lv_goto (tgt := 67) hx hb dX5_select_63 (by decide) ?_
            exact W.iret (v := nI k) hx hb hr (fun t ht hW => ⟨⟨_, (sU τ 0 0 0), rfl, (⟨rfl, rfl⟩), Wm.go hP hK hD ht hW⟩, hS.F ht⟩) hS.2.2 dX5_select_67
        · exact absurd hsi c_37
    · cases c_14
def rX5_select_full : Room := { frames := 2, cells := 0, slots := 0, locals := 54 }
set_option maxHeartbeats 4000000 in
set_option maxRecDepth 100000 in
theorem c_X5_select_full (l : Launch) (D : va_G) (cI cZ : ClassId) (A : Nat → Prop) (ad : Nat → Nat) (τ : Nat → Nat → Nat) (a i : Nat) (hI : IM τ) (ha : a < τ 0 1) (hi : i < τ 0 1) (hsa : τ 2 a = 2) (hsi : τ 2 i = 0) (hfd : foundF τ 1 a i 0 (τ 0 1 - 7) 7 = 0) (hfl : τ 0 1 = 24) : Met l yX5_select wsX5_select rX5_select_full (va_Pc [.ref (ad 0), .int (nI a), .int (nI i)] (Wm D cI cZ A ad τ)) (va_Qi (fun r u => r = nI 0 ∧ u = sU (sU τ 0 0 0) 0 0 3) (fun u t => Wm D cI cZ A ad u t) A) 0 0 A := by
  refine Met.ofW (cc := cX5_select) (maxL := 3) (ret := (some .int)) (by decide) rfl ?_
  intro p e s m args below meth c s₁ B hml hv
  obtain ⟨rfl, hP, hK, hD⟩ := hv
  have hx := B.exec
  have hb := B.bytes
  have hr := B.returns
  have hts := atoms_spec (ws := wsX5_select) B.pre
  have hown : s.vm.findClass RX5 = some m.cls := findClass_of_methodNamed B.named
  have hlocks := B.notSynchronized
  have hS : va_S A s.heap s.heap [] := va_S.rf
  have hl := lv_entry ([.ref (ad 0), .int (nI a), .int (nI i)]) (n := 3) (Nat.le_of_ble_eq_true rfl)
  rw [lg_entry_eq]
  generalize (lg_sl ([.ref (ad 0), .int (nI a), .int (nI i)]) ++ List.replicate (3 - (lg_sl ([.ref (ad 0), .int (nI a), .int (nI i)])).length) Slot.unset).toArray = ls at hl ⊢
  have hl : lv_has ls 3 [(0, .ref (ad 0)), (1, .int (nI a)), (2, .int (nI i))] := hl
  have hc := hI.terms
  have hs1 := hI.sorts (j := a) (by omega)
  have hs2 := hI.sorts (j := i) (by omega)
  refine lv_aload_n hx hb dX5_select_0 rfl (lv_at hl 0 rfl) ?_
  refine lv_aload_n hx hb dX5_select_1 rfl (lv_at hl 0 rfl) ?_
  refine lv_iload_n hx hb dX5_select_2 rfl (lv_at hl 1 rfl) ?_
  refine vp_callSi (va_Run.run (va_runV (As := [.int (nI a)]) (rest := [.ref (ad 0)]) ⟨hx, hb, hml, hown, hts⟩ (c_X5_isTerm_in l D cI cZ A ad τ a ha hc.2) (cwV 1 hts gX5_select_X5_isTerm rfl rfl rfl (by decide +kernel) ⟨Nat.le_of_ble_eq_true rfl, Nat.le_of_ble_eq_true rfl⟩) ⟨Wm.blind, va_recv hK hP (ci := 4) (q0 := 0) rfl rfl, fun U hU hW => ⟨rfl, Wm.go hP hK hD hU hW⟩⟩ rfl rfl hl.1 rfl (lv_room (Nat.le_of_ble_eq_true rfl)) dX5_select_3 ⟨Nat.zero_le _, Nat.zero_le _⟩)) (fun r_1 hr_1 => ?_)
  refine n_to (w := bI true) (hr_1.trans rfl) ?_
  refine q_if_eq hx hb (tgt := 17) (bI_z) dX5_select_6 (by decide) (fun c_6 => ?_) (fun c_6 => ?_)
  · cases c_6
  · refine lv_aload_n hx hb dX5_select_9 rfl (lv_at hl 0 rfl) ?_
    refine lv_iload_n hx hb dX5_select_10 rfl (lv_at hl 2 rfl) ?_
    refine vp_callSi (va_Run.run (va_runV (As := [.int (nI i)]) (rest := [.ref (ad 0)]) ⟨hx, hb, hml, hown, hts⟩ (c_X5_isTerm_in l D cI cZ A ad τ i hi hc.2) (cwV 1 hts gX5_select_X5_isTerm rfl rfl rfl (by decide +kernel) ⟨Nat.le_of_ble_eq_true rfl, Nat.le_of_ble_eq_true rfl⟩) ⟨Wm.blind, va_recv hK hP (ci := 4) (q0 := 0) rfl rfl, fun U hU hW => ⟨rfl, Wm.go hP hK hD hU hW⟩⟩ rfl rfl hl.1 rfl (lv_room (Nat.le_of_ble_eq_true rfl)) dX5_select_11 ⟨Nat.zero_le _, Nat.zero_le _⟩)) (fun r_2 hr_2 => ?_)
    refine n_to (w := bI true) (hr_2.trans rfl) ?_
    refine q_if_ne hx hb (tgt := 21) (bI_z) dX5_select_14 (by decide) (fun c_14 => ?_) (fun c_14 => ?_)
    · refine lv_aload_n hx hb dX5_select_21 rfl (lv_at hl 0 rfl) ?_
      refine va_get (D := D) (ci := 4) (v := .ref (ad 2)) (C := RX5) (T := TX5) (N := 20) hx hb hts in_X5_select_X5 hown hK hP 0 rfl rfl 2 (by decide) (hts _ lk_X5_select_13) (fun _ h9 => h9) rfl dX5_select_22 ?_
      refine lv_iload_n hx hb dX5_select_25 rfl (lv_at hl 1 rfl) ?_
      refine n_ald hx hb hK hP 1 0 rfl rfl (i := a) (by omega) (by decide) (v := nI (τ 2 a)) rfl dX5_select_26 ?_
      refine lv_iconst (v := nI 2) hx hb dX5_select_27 (by decide) ?_
      refine q_icmp_ne hx hb (tgt := 40) (nI_eq (by omega) (by omega)) dX5_select_28 (by decide) (fun c_28 => ?_) (fun c_28 => ?_)
      · exact absurd hsa c_28
      · refine lv_aload_n hx hb dX5_select_31 rfl (lv_at hl 0 rfl) ?_
        refine va_get (D := D) (ci := 4) (v := .ref (ad 2)) (C := RX5) (T := TX5) (N := 20) hx hb hts in_X5_select_X5 hown hK hP 0 rfl rfl 2 (by decide) (hts _ lk_X5_select_13) (fun _ h9 => h9) rfl dX5_select_32 ?_
        refine lv_iload_n hx hb dX5_select_35 rfl (lv_at hl 2 rfl) ?_
        refine n_ald hx hb hK hP 1 0 rfl rfl (i := i) (by omega) (by decide) (v := nI (τ 2 i)) rfl dX5_select_36 ?_
        refine q_if_eq hx hb (tgt := 44) (nI_z (by omega)) dX5_select_37 (by decide) (fun c_37 => ?_) (fun c_37 => ?_)
        · refine lv_iconst (v := nI 0) hx hb dX5_select_44 (by decide) ?_
          refine va_put (D := D) (ci := 4) (v := .int (nI 0)) (ty := .int) (C := RX5) (T := TX5) (N := 20) hx hb hts in_X5_select_X5 tyX5 tyX5_ok nmX5 hown hK hP hD hS 0 rfl rfl 0 (by decide) (hts _ lk_X5_select_67) (fun _ h9 => h9) rfl (by decide +kernel) rfl rfl (Nat.le_of_ble_eq_true rfl) dX5_select_45 (fun H locs hP hD hS => ?_)
          have hP : va_P D vwCl (WM ad cI cZ (sU τ 0 0 0)) H := hP
          have hD : va_D A (WM ad cI cZ (sU τ 0 0 0)) := hD
          refine lv_aload_n hx hb dX5_select_48 rfl (lv_at hl 0 rfl) ?_
          refine va_get (D := D) (ci := 4) (v := .int (nI 0)) (C := RX5) (T := TX5) (N := 20) hx hb hts in_X5_select_X5 hown hK hP 0 rfl rfl 0 (by decide) (hts _ lk_X5_select_67) (fun _ h9 => h9) rfl dX5_select_49 ?_
          refine q_if_ne hx hb (tgt := 66) (nI_z (by omega)) dX5_select_52 (by decide) (fun c_52 => ?_) (fun c_52 => ?_)
          · exact absurd c_52 (by decide)
          · refine lv_aload_n hx hb dX5_select_55 rfl (lv_at hl 0 rfl) ?_
            refine lv_iconst (v := nI 1) hx hb dX5_select_56 (by decide) ?_
            refine lv_iload_n hx hb dX5_select_57 rfl (lv_at hl 1 rfl) ?_
            refine lv_iload_n hx hb dX5_select_58 rfl (lv_at hl 2 rfl) ?_
            refine lv_iconst (v := nI 0) hx hb dX5_select_59 (by decide) ?_
            refine va_calli (va_runV (As := [.int (nI 1), .int (nI a), .int (nI i), .int (nI 0)]) (rest := []) ⟨hx, hb, hml, hown, hts⟩ (c_X5_make_full l D cI cZ A ad (sU τ 0 0 0) 1 a i 0 (hI.thr 0) (by omega) ha hi (by show 0 < τ 0 1; omega) ((foundF_thr ..).trans hfd) hfl) (cwV 4 hts gX5_select_X5_make rfl rfl rfl (by decide +kernel) ⟨Nat.le_of_ble_eq_true rfl, Nat.le_of_ble_eq_true rfl⟩) ⟨Wm.blind, va_recv hK hP (ci := 4) (q0 := 0) rfl rfl, fun U hU hW => ⟨rfl, Wm.go hP hK hD hU hW⟩⟩ rfl rfl hl.1 rfl (lv_room (Nat.le_of_ble_eq_true rfl)) dX5_select_60 ⟨Nat.zero_le _, Nat.zero_le _⟩) hS (fun q _ h => h) (fun q h => h) (fun r_4 τ_3 t H1 locs ht hvm hwτ_3 hB hz1 hk1 hS => ?_)
            obtain ⟨hr_4, hwτ_3⟩ := hwτ_3
            refine n_to (w := nI 0) (hr_4) ?_
            obtain ⟨hP, -, hD⟩ := hB
            rw [ht] at hP
            generalize H1 = H at hP hS ⊢
            refine lv_goto (tgt := 67) hx hb dX5_select_63 (by decide) ?_
            exact W.iret (v := nI 0) hx hb hr (fun t ht hW => ⟨⟨_, τ_3, rfl, (⟨rfl, hwτ_3⟩), Wm.go hP hK hD ht hW⟩, hS.F ht⟩) hS.2.2 dX5_select_67
        · exact absurd hsi c_37
    · cases c_14
def rX5_select_new : Room := { frames := 2, cells := 0, slots := 0, locals := 54 }
set_option maxHeartbeats 4000000 in
set_option maxRecDepth 100000 in
theorem c_X5_select_new (l : Launch) (D : va_G) (cI cZ : ClassId) (A : Nat → Prop) (ad : Nat → Nat) (τ : Nat → Nat → Nat) (a i : Nat) (hI : IM τ) (ha : a < τ 0 1) (hi : i < τ 0 1) (hsa : τ 2 a = 2) (hsi : τ 2 i = 0) (hfd : foundF τ 1 a i 0 (τ 0 1 - 7) 7 = 0) (hfl : τ 0 1 < 24) (hci : ∀ p, p < 5 → τ 9 (24 * p + i) < 3) : Met l yX5_select wsX5_select rX5_select_new (va_Pc [.ref (ad 0), .int (nI a), .int (nI i)] (Wm D cI cZ A ad τ)) (va_Qi (fun r u => r = nI (τ 0 1) ∧ MK (sU τ 0 0 0) 1 a i 0 u) (fun u t => Wm D cI cZ A ad u t) A) 0 0 A := by
  refine Met.ofW (cc := cX5_select) (maxL := 3) (ret := (some .int)) (by decide) rfl ?_
  intro p e s m args below meth c s₁ B hml hv
  obtain ⟨rfl, hP, hK, hD⟩ := hv
  have hx := B.exec
  have hb := B.bytes
  have hr := B.returns
  have hts := atoms_spec (ws := wsX5_select) B.pre
  have hown : s.vm.findClass RX5 = some m.cls := findClass_of_methodNamed B.named
  have hlocks := B.notSynchronized
  have hS : va_S A s.heap s.heap [] := va_S.rf
  have hl := lv_entry ([.ref (ad 0), .int (nI a), .int (nI i)]) (n := 3) (Nat.le_of_ble_eq_true rfl)
  rw [lg_entry_eq]
  generalize (lg_sl ([.ref (ad 0), .int (nI a), .int (nI i)]) ++ List.replicate (3 - (lg_sl ([.ref (ad 0), .int (nI a), .int (nI i)])).length) Slot.unset).toArray = ls at hl ⊢
  have hl : lv_has ls 3 [(0, .ref (ad 0)), (1, .int (nI a)), (2, .int (nI i))] := hl
  have hc := hI.terms
  have hs1 := hI.sorts (j := a) (by omega)
  have hs2 := hI.sorts (j := i) (by omega)
  refine lv_aload_n hx hb dX5_select_0 rfl (lv_at hl 0 rfl) ?_
  refine lv_aload_n hx hb dX5_select_1 rfl (lv_at hl 0 rfl) ?_
  refine lv_iload_n hx hb dX5_select_2 rfl (lv_at hl 1 rfl) ?_
  refine vp_callSi (va_Run.run (va_runV (As := [.int (nI a)]) (rest := [.ref (ad 0)]) ⟨hx, hb, hml, hown, hts⟩ (c_X5_isTerm_in l D cI cZ A ad τ a ha hc.2) (cwV 1 hts gX5_select_X5_isTerm rfl rfl rfl (by decide +kernel) ⟨Nat.le_of_ble_eq_true rfl, Nat.le_of_ble_eq_true rfl⟩) ⟨Wm.blind, va_recv hK hP (ci := 4) (q0 := 0) rfl rfl, fun U hU hW => ⟨rfl, Wm.go hP hK hD hU hW⟩⟩ rfl rfl hl.1 rfl (lv_room (Nat.le_of_ble_eq_true rfl)) dX5_select_3 ⟨Nat.zero_le _, Nat.zero_le _⟩)) (fun r_1 hr_1 => ?_)
  refine n_to (w := bI true) (hr_1.trans rfl) ?_
  refine q_if_eq hx hb (tgt := 17) (bI_z) dX5_select_6 (by decide) (fun c_6 => ?_) (fun c_6 => ?_)
  · cases c_6
  · refine lv_aload_n hx hb dX5_select_9 rfl (lv_at hl 0 rfl) ?_
    refine lv_iload_n hx hb dX5_select_10 rfl (lv_at hl 2 rfl) ?_
    refine vp_callSi (va_Run.run (va_runV (As := [.int (nI i)]) (rest := [.ref (ad 0)]) ⟨hx, hb, hml, hown, hts⟩ (c_X5_isTerm_in l D cI cZ A ad τ i hi hc.2) (cwV 1 hts gX5_select_X5_isTerm rfl rfl rfl (by decide +kernel) ⟨Nat.le_of_ble_eq_true rfl, Nat.le_of_ble_eq_true rfl⟩) ⟨Wm.blind, va_recv hK hP (ci := 4) (q0 := 0) rfl rfl, fun U hU hW => ⟨rfl, Wm.go hP hK hD hU hW⟩⟩ rfl rfl hl.1 rfl (lv_room (Nat.le_of_ble_eq_true rfl)) dX5_select_11 ⟨Nat.zero_le _, Nat.zero_le _⟩)) (fun r_2 hr_2 => ?_)
    refine n_to (w := bI true) (hr_2.trans rfl) ?_
    refine q_if_ne hx hb (tgt := 21) (bI_z) dX5_select_14 (by decide) (fun c_14 => ?_) (fun c_14 => ?_)
    · refine lv_aload_n hx hb dX5_select_21 rfl (lv_at hl 0 rfl) ?_
      refine va_get (D := D) (ci := 4) (v := .ref (ad 2)) (C := RX5) (T := TX5) (N := 20) hx hb hts in_X5_select_X5 hown hK hP 0 rfl rfl 2 (by decide) (hts _ lk_X5_select_13) (fun _ h9 => h9) rfl dX5_select_22 ?_
      refine lv_iload_n hx hb dX5_select_25 rfl (lv_at hl 1 rfl) ?_
      refine n_ald hx hb hK hP 1 0 rfl rfl (i := a) (by omega) (by decide) (v := nI (τ 2 a)) rfl dX5_select_26 ?_
      refine lv_iconst (v := nI 2) hx hb dX5_select_27 (by decide) ?_
      refine q_icmp_ne hx hb (tgt := 40) (nI_eq (by omega) (by omega)) dX5_select_28 (by decide) (fun c_28 => ?_) (fun c_28 => ?_)
      · exact absurd hsa c_28
      · refine lv_aload_n hx hb dX5_select_31 rfl (lv_at hl 0 rfl) ?_
        refine va_get (D := D) (ci := 4) (v := .ref (ad 2)) (C := RX5) (T := TX5) (N := 20) hx hb hts in_X5_select_X5 hown hK hP 0 rfl rfl 2 (by decide) (hts _ lk_X5_select_13) (fun _ h9 => h9) rfl dX5_select_32 ?_
        refine lv_iload_n hx hb dX5_select_35 rfl (lv_at hl 2 rfl) ?_
        refine n_ald hx hb hK hP 1 0 rfl rfl (i := i) (by omega) (by decide) (v := nI (τ 2 i)) rfl dX5_select_36 ?_
        refine q_if_eq hx hb (tgt := 44) (nI_z (by omega)) dX5_select_37 (by decide) (fun c_37 => ?_) (fun c_37 => ?_)
        · refine lv_iconst (v := nI 0) hx hb dX5_select_44 (by decide) ?_
          refine va_put (D := D) (ci := 4) (v := .int (nI 0)) (ty := .int) (C := RX5) (T := TX5) (N := 20) hx hb hts in_X5_select_X5 tyX5 tyX5_ok nmX5 hown hK hP hD hS 0 rfl rfl 0 (by decide) (hts _ lk_X5_select_67) (fun _ h9 => h9) rfl (by decide +kernel) rfl rfl (Nat.le_of_ble_eq_true rfl) dX5_select_45 (fun H locs hP hD hS => ?_)
          have hP : va_P D vwCl (WM ad cI cZ (sU τ 0 0 0)) H := hP
          have hD : va_D A (WM ad cI cZ (sU τ 0 0 0)) := hD
          refine lv_aload_n hx hb dX5_select_48 rfl (lv_at hl 0 rfl) ?_
          refine va_get (D := D) (ci := 4) (v := .int (nI 0)) (C := RX5) (T := TX5) (N := 20) hx hb hts in_X5_select_X5 hown hK hP 0 rfl rfl 0 (by decide) (hts _ lk_X5_select_67) (fun _ h9 => h9) rfl dX5_select_49 ?_
          refine q_if_ne hx hb (tgt := 66) (nI_z (by omega)) dX5_select_52 (by decide) (fun c_52 => ?_) (fun c_52 => ?_)
          · exact absurd c_52 (by decide)
          · refine lv_aload_n hx hb dX5_select_55 rfl (lv_at hl 0 rfl) ?_
            refine lv_iconst (v := nI 1) hx hb dX5_select_56 (by decide) ?_
            refine lv_iload_n hx hb dX5_select_57 rfl (lv_at hl 1 rfl) ?_
            refine lv_iload_n hx hb dX5_select_58 rfl (lv_at hl 2 rfl) ?_
            refine lv_iconst (v := nI 0) hx hb dX5_select_59 (by decide) ?_
            refine va_calli (va_runV (As := [.int (nI 1), .int (nI a), .int (nI i), .int (nI 0)]) (rest := []) ⟨hx, hb, hml, hown, hts⟩ (c_X5_make_new l D cI cZ A ad (sU τ 0 0 0) 1 a i 0 (hI.thr 0) (by omega) ha hi (by show 0 < τ 0 1; omega) ((foundF_thr ..).trans hfd) hfl hci (fun q => by omega)) (cwV 4 hts gX5_select_X5_make rfl rfl rfl (by decide +kernel) ⟨Nat.le_of_ble_eq_true rfl, Nat.le_of_ble_eq_true rfl⟩) ⟨Wm.blind, va_recv hK hP (ci := 4) (q0 := 0) rfl rfl, fun U hU hW => ⟨rfl, Wm.go hP hK hD hU hW⟩⟩ rfl rfl hl.1 rfl (lv_room (Nat.le_of_ble_eq_true rfl)) dX5_select_60 ⟨Nat.zero_le _, Nat.zero_le _⟩) hS (fun q _ h => h) (fun q h => h) (fun r_4 τ_3 t H1 locs ht hvm hwτ_3 hB hz1 hk1 hS => ?_)
            obtain ⟨hr_4, hwτ_3⟩ := hwτ_3
            refine n_to (w := nI (τ 0 1)) (hr_4) ?_
            obtain ⟨hP, -, hD⟩ := hB
            rw [ht] at hP
            generalize H1 = H at hP hS ⊢
            refine lv_goto (tgt := 67) hx hb dX5_select_63 (by decide) ?_
            exact W.iret (v := nI (τ 0 1)) hx hb hr (fun t ht hW => ⟨⟨_, τ_3, rfl, (⟨rfl, hwτ_3⟩), Wm.go hP hK hD ht hW⟩, hS.F ht⟩) hS.2.2 dX5_select_67
        · exact absurd hsi c_37
    · cases c_14
def rX5_select_sort : Room := { frames := 1, cells := 0, slots := 0, locals := 21 }
set_option maxHeartbeats 4000000 in
set_option maxRecDepth 100000 in
theorem c_X5_select_sort (l : Launch) (D : va_G) (cI cZ : ClassId) (A : Nat → Prop) (ad : Nat → Nat) (τ : Nat → Nat → Nat) (a i : Nat) (hI : IM τ) (ha : a < τ 0 1) (hi : i < τ 0 1) (hbad : τ 2 a ≠ 2 ∨ τ 2 i ≠ 0) : Met l yX5_select wsX5_select rX5_select_sort (va_Pc [.ref (ad 0), .int (nI a), .int (nI i)] (Wm D cI cZ A ad τ)) (va_Qi (fun r u => r = nI 0 ∧ u = sU τ 0 0 2) (fun u t => Wm D cI cZ A ad u t) A) 0 0 A := by
  refine Met.ofW (cc := cX5_select) (maxL := 3) (ret := (some .int)) (by decide) rfl ?_
  intro p e s m args below meth c s₁ B hml hv
  obtain ⟨rfl, hP, hK, hD⟩ := hv
  have hx := B.exec
  have hb := B.bytes
  have hr := B.returns
  have hts := atoms_spec (ws := wsX5_select) B.pre
  have hown : s.vm.findClass RX5 = some m.cls := findClass_of_methodNamed B.named
  have hlocks := B.notSynchronized
  have hS : va_S A s.heap s.heap [] := va_S.rf
  have hl := lv_entry ([.ref (ad 0), .int (nI a), .int (nI i)]) (n := 3) (Nat.le_of_ble_eq_true rfl)
  rw [lg_entry_eq]
  generalize (lg_sl ([.ref (ad 0), .int (nI a), .int (nI i)]) ++ List.replicate (3 - (lg_sl ([.ref (ad 0), .int (nI a), .int (nI i)])).length) Slot.unset).toArray = ls at hl ⊢
  have hl : lv_has ls 3 [(0, .ref (ad 0)), (1, .int (nI a)), (2, .int (nI i))] := hl
  have hc := hI.terms
  have hs1 := hI.sorts (j := a) (by omega)
  have hs2 := hI.sorts (j := i) (by omega)
  refine lv_aload_n hx hb dX5_select_0 rfl (lv_at hl 0 rfl) ?_
  refine lv_aload_n hx hb dX5_select_1 rfl (lv_at hl 0 rfl) ?_
  refine lv_iload_n hx hb dX5_select_2 rfl (lv_at hl 1 rfl) ?_
  refine vp_callSi (va_Run.run (va_runV (As := [.int (nI a)]) (rest := [.ref (ad 0)]) ⟨hx, hb, hml, hown, hts⟩ (c_X5_isTerm_in l D cI cZ A ad τ a ha hc.2) (cwV 1 hts gX5_select_X5_isTerm rfl rfl rfl (by decide +kernel) ⟨Nat.le_of_ble_eq_true rfl, Nat.le_of_ble_eq_true rfl⟩) ⟨Wm.blind, va_recv hK hP (ci := 4) (q0 := 0) rfl rfl, fun U hU hW => ⟨rfl, Wm.go hP hK hD hU hW⟩⟩ rfl rfl hl.1 rfl (lv_room (Nat.le_of_ble_eq_true rfl)) dX5_select_3 ⟨Nat.zero_le _, Nat.zero_le _⟩)) (fun r_1 hr_1 => ?_)
  refine n_to (w := bI true) (hr_1.trans rfl) ?_
  refine q_if_eq hx hb (tgt := 17) (bI_z) dX5_select_6 (by decide) (fun c_6 => ?_) (fun c_6 => ?_)
  · cases c_6
  · refine lv_aload_n hx hb dX5_select_9 rfl (lv_at hl 0 rfl) ?_
    refine lv_iload_n hx hb dX5_select_10 rfl (lv_at hl 2 rfl) ?_
    refine vp_callSi (va_Run.run (va_runV (As := [.int (nI i)]) (rest := [.ref (ad 0)]) ⟨hx, hb, hml, hown, hts⟩ (c_X5_isTerm_in l D cI cZ A ad τ i hi hc.2) (cwV 1 hts gX5_select_X5_isTerm rfl rfl rfl (by decide +kernel) ⟨Nat.le_of_ble_eq_true rfl, Nat.le_of_ble_eq_true rfl⟩) ⟨Wm.blind, va_recv hK hP (ci := 4) (q0 := 0) rfl rfl, fun U hU hW => ⟨rfl, Wm.go hP hK hD hU hW⟩⟩ rfl rfl hl.1 rfl (lv_room (Nat.le_of_ble_eq_true rfl)) dX5_select_11 ⟨Nat.zero_le _, Nat.zero_le _⟩)) (fun r_2 hr_2 => ?_)
    refine n_to (w := bI true) (hr_2.trans rfl) ?_
    refine q_if_ne hx hb (tgt := 21) (bI_z) dX5_select_14 (by decide) (fun c_14 => ?_) (fun c_14 => ?_)
    · refine lv_aload_n hx hb dX5_select_21 rfl (lv_at hl 0 rfl) ?_
      refine va_get (D := D) (ci := 4) (v := .ref (ad 2)) (C := RX5) (T := TX5) (N := 20) hx hb hts in_X5_select_X5 hown hK hP 0 rfl rfl 2 (by decide) (hts _ lk_X5_select_13) (fun _ h9 => h9) rfl dX5_select_22 ?_
      refine lv_iload_n hx hb dX5_select_25 rfl (lv_at hl 1 rfl) ?_
      refine n_ald hx hb hK hP 1 0 rfl rfl (i := a) (by omega) (by decide) (v := nI (τ 2 a)) rfl dX5_select_26 ?_
      refine lv_iconst (v := nI 2) hx hb dX5_select_27 (by decide) ?_
      refine q_icmp_ne hx hb (tgt := 40) (nI_eq (by omega) (by omega)) dX5_select_28 (by decide) (fun c_28 => ?_) (fun c_28 => ?_)
      · refine lv_iconst (v := nI 2) hx hb dX5_select_40 (by decide) ?_
        refine lv_goto (tgt := 45) hx hb dX5_select_41 (by decide) ?_
        refine va_put (D := D) (ci := 4) (v := .int (nI 2)) (ty := .int) (C := RX5) (T := TX5) (N := 20) hx hb hts in_X5_select_X5 tyX5 tyX5_ok nmX5 hown hK hP hD hS 0 rfl rfl 0 (by decide) (hts _ lk_X5_select_67) (fun _ h9 => h9) rfl (by decide +kernel) rfl rfl (Nat.le_of_ble_eq_true rfl) dX5_select_45 (fun H locs hP hD hS => ?_)
        have hP : va_P D vwCl (WM ad cI cZ (sU τ 0 0 2)) H := hP
        have hD : va_D A (WM ad cI cZ (sU τ 0 0 2)) := hD
        refine lv_aload_n hx hb dX5_select_48 rfl (lv_at hl 0 rfl) ?_
        refine va_get (D := D) (ci := 4) (v := .int (nI 2)) (C := RX5) (T := TX5) (N := 20) hx hb hts in_X5_select_X5 hown hK hP 0 rfl rfl 0 (by decide) (hts _ lk_X5_select_67) (fun _ h9 => h9) rfl dX5_select_49 ?_
        refine q_if_ne hx hb (tgt := 66) (nI_z (by omega)) dX5_select_52 (by decide) (fun c_52 => ?_) (fun c_52 => ?_)
        · refine lv_iconst (v := nI 0) hx hb dX5_select_66 (by decide) ?_
          exact W.iret (v := nI 0) hx hb hr (fun t ht hW => ⟨⟨_, (sU τ 0 0 2), rfl, (⟨rfl, rfl⟩), Wm.go hP hK hD ht hW⟩, hS.F ht⟩) hS.2.2 dX5_select_67
        · exact absurd c_52 (by decide)
      · refine lv_aload_n hx hb dX5_select_31 rfl (lv_at hl 0 rfl) ?_
        refine va_get (D := D) (ci := 4) (v := .ref (ad 2)) (C := RX5) (T := TX5) (N := 20) hx hb hts in_X5_select_X5 hown hK hP 0 rfl rfl 2 (by decide) (hts _ lk_X5_select_13) (fun _ h9 => h9) rfl dX5_select_32 ?_
        refine lv_iload_n hx hb dX5_select_35 rfl (lv_at hl 2 rfl) ?_
        refine n_ald hx hb hK hP 1 0 rfl rfl (i := i) (by omega) (by decide) (v := nI (τ 2 i)) rfl dX5_select_36 ?_
        refine q_if_eq hx hb (tgt := 44) (nI_z (by omega)) dX5_select_37 (by decide) (fun c_37 => ?_) (fun c_37 => ?_)
        · exact absurd hbad (fun q => q.elim (fun z => z c_28) (fun z => z c_37))
        · refine lv_iconst (v := nI 2) hx hb dX5_select_40 (by decide) ?_
          refine lv_goto (tgt := 45) hx hb dX5_select_41 (by decide) ?_
          refine va_put (D := D) (ci := 4) (v := .int (nI 2)) (ty := .int) (C := RX5) (T := TX5) (N := 20) hx hb hts in_X5_select_X5 tyX5 tyX5_ok nmX5 hown hK hP hD hS 0 rfl rfl 0 (by decide) (hts _ lk_X5_select_67) (fun _ h9 => h9) rfl (by decide +kernel) rfl rfl (Nat.le_of_ble_eq_true rfl) dX5_select_45 (fun H locs hP hD hS => ?_)
          have hP : va_P D vwCl (WM ad cI cZ (sU τ 0 0 2)) H := hP
          have hD : va_D A (WM ad cI cZ (sU τ 0 0 2)) := hD
          refine lv_aload_n hx hb dX5_select_48 rfl (lv_at hl 0 rfl) ?_
          refine va_get (D := D) (ci := 4) (v := .int (nI 2)) (C := RX5) (T := TX5) (N := 20) hx hb hts in_X5_select_X5 hown hK hP 0 rfl rfl 0 (by decide) (hts _ lk_X5_select_67) (fun _ h9 => h9) rfl dX5_select_49 ?_
          refine q_if_ne hx hb (tgt := 66) (nI_z (by omega)) dX5_select_52 (by decide) (fun c_52 => ?_) (fun c_52 => ?_)
          · refine lv_iconst (v := nI 0) hx hb dX5_select_66 (by decide) ?_
            exact W.iret (v := nI 0) hx hb hr (fun t ht hW => ⟨⟨_, (sU τ 0 0 2), rfl, (⟨rfl, rfl⟩), Wm.go hP hK hD ht hW⟩, hS.F ht⟩) hS.2.2 dX5_select_67
          · exact absurd c_52 (by decide)
    · cases c_14
def rX5_select_o1 : Room := { frames := 1, cells := 0, slots := 0, locals := 21 }
set_option maxHeartbeats 4000000 in
set_option maxRecDepth 100000 in
theorem c_X5_select_o1 (l : Launch) (D : va_G) (cI cZ : ClassId) (A : Nat → Prop) (ad : Nat → Nat) (τ : Nat → Nat → Nat) (a : Int32) (i : Int32) (hc : 7 ≤ τ 0 1 ∧ τ 0 1 ≤ 24) (hxo : a < 0 ∨ nI (τ 0 1) ≤ a) : Met l yX5_select wsX5_select rX5_select_o1 (va_Pc [.ref (ad 0), .int a, .int i] (Wm D cI cZ A ad τ)) (va_Qi (fun r u => r = nI 0 ∧ u = sU τ 0 0 1) (fun u t => Wm D cI cZ A ad u t) A) 0 0 A := by
  refine Met.ofW (cc := cX5_select) (maxL := 3) (ret := (some .int)) (by decide) rfl ?_
  intro p e s m args below meth c s₁ B hml hv
  obtain ⟨rfl, hP, hK, hD⟩ := hv
  have hx := B.exec
  have hb := B.bytes
  have hr := B.returns
  have hts := atoms_spec (ws := wsX5_select) B.pre
  have hown : s.vm.findClass RX5 = some m.cls := findClass_of_methodNamed B.named
  have hlocks := B.notSynchronized
  have hS : va_S A s.heap s.heap [] := va_S.rf
  have hl := lv_entry ([.ref (ad 0), .int a, .int i]) (n := 3) (Nat.le_of_ble_eq_true rfl)
  rw [lg_entry_eq]
  generalize (lg_sl ([.ref (ad 0), .int a, .int i]) ++ List.replicate (3 - (lg_sl ([.ref (ad 0), .int a, .int i])).length) Slot.unset).toArray = ls at hl ⊢
  have hl : lv_has ls 3 [(0, .ref (ad 0)), (1, .int a), (2, .int i)] := hl
  refine lv_aload_n hx hb dX5_select_0 rfl (lv_at hl 0 rfl) ?_
  refine lv_aload_n hx hb dX5_select_1 rfl (lv_at hl 0 rfl) ?_
  refine lv_iload_n hx hb dX5_select_2 rfl (lv_at hl 1 rfl) ?_
  refine vp_callSi (va_Run.run (va_runV (As := [.int a]) (rest := [.ref (ad 0)]) ⟨hx, hb, hml, hown, hts⟩ (c_X5_isTerm_out l D cI cZ A ad τ a hxo) (cwV 1 hts gX5_select_X5_isTerm rfl rfl rfl (by decide +kernel) ⟨Nat.le_of_ble_eq_true rfl, Nat.le_of_ble_eq_true rfl⟩) ⟨Wm.blind, va_recv hK hP (ci := 4) (q0 := 0) rfl rfl, fun U hU hW => ⟨rfl, Wm.go hP hK hD hU hW⟩⟩ rfl rfl hl.1 rfl (lv_room (Nat.le_of_ble_eq_true rfl)) dX5_select_3 ⟨Nat.zero_le _, Nat.zero_le _⟩)) (fun r_1 hr_1 => ?_)
  refine n_to (w := bI false) (hr_1.trans rfl) ?_
  refine q_if_eq hx hb (tgt := 17) (bI_z) dX5_select_6 (by decide) (fun c_6 => ?_) (fun c_6 => ?_)
  · refine lv_iconst (v := nI 1) hx hb dX5_select_17 (by decide) ?_
    refine lv_goto (tgt := 45) hx hb dX5_select_18 (by decide) ?_
    refine va_put (D := D) (ci := 4) (v := .int (nI 1)) (ty := .int) (C := RX5) (T := TX5) (N := 20) hx hb hts in_X5_select_X5 tyX5 tyX5_ok nmX5 hown hK hP hD hS 0 rfl rfl 0 (by decide) (hts _ lk_X5_select_67) (fun _ h9 => h9) rfl (by decide +kernel) rfl rfl (Nat.le_of_ble_eq_true rfl) dX5_select_45 (fun H locs hP hD hS => ?_)
    have hP : va_P D vwCl (WM ad cI cZ (sU τ 0 0 1)) H := hP
    have hD : va_D A (WM ad cI cZ (sU τ 0 0 1)) := hD
    refine lv_aload_n hx hb dX5_select_48 rfl (lv_at hl 0 rfl) ?_
    refine va_get (D := D) (ci := 4) (v := .int (nI 1)) (C := RX5) (T := TX5) (N := 20) hx hb hts in_X5_select_X5 hown hK hP 0 rfl rfl 0 (by decide) (hts _ lk_X5_select_67) (fun _ h9 => h9) rfl dX5_select_49 ?_
    refine q_if_ne hx hb (tgt := 66) (nI_z (by omega)) dX5_select_52 (by decide) (fun c_52 => ?_) (fun c_52 => ?_)
    · refine lv_iconst (v := nI 0) hx hb dX5_select_66 (by decide) ?_
      exact W.iret (v := nI 0) hx hb hr (fun t ht hW => ⟨⟨_, (sU τ 0 0 1), rfl, (⟨rfl, rfl⟩), Wm.go hP hK hD ht hW⟩, hS.F ht⟩) hS.2.2 dX5_select_67
    · exact absurd c_52 (by decide)
  · exact absurd rfl c_6
def rX5_select_o2 : Room := { frames := 1, cells := 0, slots := 0, locals := 21 }
set_option maxHeartbeats 4000000 in
set_option maxRecDepth 100000 in
theorem c_X5_select_o2 (l : Launch) (D : va_G) (cI cZ : ClassId) (A : Nat → Prop) (ad : Nat → Nat) (τ : Nat → Nat → Nat) (a : Nat) (i : Int32) (hc : 7 ≤ τ 0 1 ∧ τ 0 1 ≤ 24) (ha : a < τ 0 1) (hxo : i < 0 ∨ nI (τ 0 1) ≤ i) : Met l yX5_select wsX5_select rX5_select_o2 (va_Pc [.ref (ad 0), .int (nI a), .int i] (Wm D cI cZ A ad τ)) (va_Qi (fun r u => r = nI 0 ∧ u = sU τ 0 0 1) (fun u t => Wm D cI cZ A ad u t) A) 0 0 A := by
  refine Met.ofW (cc := cX5_select) (maxL := 3) (ret := (some .int)) (by decide) rfl ?_
  intro p e s m args below meth c s₁ B hml hv
  obtain ⟨rfl, hP, hK, hD⟩ := hv
  have hx := B.exec
  have hb := B.bytes
  have hr := B.returns
  have hts := atoms_spec (ws := wsX5_select) B.pre
  have hown : s.vm.findClass RX5 = some m.cls := findClass_of_methodNamed B.named
  have hlocks := B.notSynchronized
  have hS : va_S A s.heap s.heap [] := va_S.rf
  have hl := lv_entry ([.ref (ad 0), .int (nI a), .int i]) (n := 3) (Nat.le_of_ble_eq_true rfl)
  rw [lg_entry_eq]
  generalize (lg_sl ([.ref (ad 0), .int (nI a), .int i]) ++ List.replicate (3 - (lg_sl ([.ref (ad 0), .int (nI a), .int i])).length) Slot.unset).toArray = ls at hl ⊢
  have hl : lv_has ls 3 [(0, .ref (ad 0)), (1, .int (nI a)), (2, .int i)] := hl
  refine lv_aload_n hx hb dX5_select_0 rfl (lv_at hl 0 rfl) ?_
  refine lv_aload_n hx hb dX5_select_1 rfl (lv_at hl 0 rfl) ?_
  refine lv_iload_n hx hb dX5_select_2 rfl (lv_at hl 1 rfl) ?_
  refine vp_callSi (va_Run.run (va_runV (As := [.int (nI a)]) (rest := [.ref (ad 0)]) ⟨hx, hb, hml, hown, hts⟩ (c_X5_isTerm_in l D cI cZ A ad τ a ha hc.2) (cwV 1 hts gX5_select_X5_isTerm rfl rfl rfl (by decide +kernel) ⟨Nat.le_of_ble_eq_true rfl, Nat.le_of_ble_eq_true rfl⟩) ⟨Wm.blind, va_recv hK hP (ci := 4) (q0 := 0) rfl rfl, fun U hU hW => ⟨rfl, Wm.go hP hK hD hU hW⟩⟩ rfl rfl hl.1 rfl (lv_room (Nat.le_of_ble_eq_true rfl)) dX5_select_3 ⟨Nat.zero_le _, Nat.zero_le _⟩)) (fun r_1 hr_1 => ?_)
  refine n_to (w := bI true) (hr_1.trans rfl) ?_
  refine q_if_eq hx hb (tgt := 17) (bI_z) dX5_select_6 (by decide) (fun c_6 => ?_) (fun c_6 => ?_)
  · cases c_6
  · refine lv_aload_n hx hb dX5_select_9 rfl (lv_at hl 0 rfl) ?_
    refine lv_iload_n hx hb dX5_select_10 rfl (lv_at hl 2 rfl) ?_
    refine vp_callSi (va_Run.run (va_runV (As := [.int i]) (rest := [.ref (ad 0)]) ⟨hx, hb, hml, hown, hts⟩ (c_X5_isTerm_out l D cI cZ A ad τ i hxo) (cwV 1 hts gX5_select_X5_isTerm rfl rfl rfl (by decide +kernel) ⟨Nat.le_of_ble_eq_true rfl, Nat.le_of_ble_eq_true rfl⟩) ⟨Wm.blind, va_recv hK hP (ci := 4) (q0 := 0) rfl rfl, fun U hU hW => ⟨rfl, Wm.go hP hK hD hU hW⟩⟩ rfl rfl hl.1 rfl (lv_room (Nat.le_of_ble_eq_true rfl)) dX5_select_11 ⟨Nat.zero_le _, Nat.zero_le _⟩)) (fun r_2 hr_2 => ?_)
    refine n_to (w := bI false) (hr_2.trans rfl) ?_
    refine q_if_ne hx hb (tgt := 21) (bI_z) dX5_select_14 (by decide) (fun c_14 => ?_) (fun c_14 => ?_)
    · exact absurd rfl c_14
    · refine lv_iconst (v := nI 1) hx hb dX5_select_17 (by decide) ?_
      refine lv_goto (tgt := 45) hx hb dX5_select_18 (by decide) ?_
      refine va_put (D := D) (ci := 4) (v := .int (nI 1)) (ty := .int) (C := RX5) (T := TX5) (N := 20) hx hb hts in_X5_select_X5 tyX5 tyX5_ok nmX5 hown hK hP hD hS 0 rfl rfl 0 (by decide) (hts _ lk_X5_select_67) (fun _ h9 => h9) rfl (by decide +kernel) rfl rfl (Nat.le_of_ble_eq_true rfl) dX5_select_45 (fun H locs hP hD hS => ?_)
      have hP : va_P D vwCl (WM ad cI cZ (sU τ 0 0 1)) H := hP
      have hD : va_D A (WM ad cI cZ (sU τ 0 0 1)) := hD
      refine lv_aload_n hx hb dX5_select_48 rfl (lv_at hl 0 rfl) ?_
      refine va_get (D := D) (ci := 4) (v := .int (nI 1)) (C := RX5) (T := TX5) (N := 20) hx hb hts in_X5_select_X5 hown hK hP 0 rfl rfl 0 (by decide) (hts _ lk_X5_select_67) (fun _ h9 => h9) rfl dX5_select_49 ?_
      refine q_if_ne hx hb (tgt := 66) (nI_z (by omega)) dX5_select_52 (by decide) (fun c_52 => ?_) (fun c_52 => ?_)
      · refine lv_iconst (v := nI 0) hx hb dX5_select_66 (by decide) ?_
        exact W.iret (v := nI 0) hx hb hr (fun t ht hW => ⟨⟨_, (sU τ 0 0 1), rfl, (⟨rfl, rfl⟩), Wm.go hP hK hD ht hW⟩, hS.F ht⟩) hS.2.2 dX5_select_67
      · exact absurd c_52 (by decide)
theorem in_X5_store_X5 : ∀ w ∈ wsX50, w ∈ wsX5_store := by decide +kernel
theorem lk_X5_store_13 : Cond.fieldLink RX5 13 "ArrayClaimsModel" "sort" "[I" ∈ wsX5_store := by decide +kernel
theorem lk_X5_store_67 : Cond.fieldLink RX5 67 "ArrayClaimsModel" "thrown" "I" ∈ wsX5_store := by decide +kernel
def rX5_store_found : Room := { frames := 2, cells := 0, slots := 0, locals := 54 }
set_option maxHeartbeats 4000000 in
set_option maxRecDepth 100000 in
theorem c_X5_store_found (l : Launch) (D : va_G) (cI cZ : ClassId) (A : Nat → Prop) (ad : Nat → Nat) (τ : Nat → Nat → Nat) (a i e1 k : Nat) (hI : IM τ) (ha : a < τ 0 1) (hi : i < τ 0 1) (he1 : e1 < τ 0 1) (hsa : τ 2 a = 2) (hsi : τ 2 i = 0) (hse : τ 2 e1 = 1) (hk : k < 24) (hfd : foundF τ 2 a i e1 (τ 0 1 - 7) 7 = k + 1) : Met l yX5_store wsX5_store rX5_store_found (va_Pc [.ref (ad 0), .int (nI a), .int (nI i), .int (nI e1)] (Wm D cI cZ A ad τ)) (va_Qi (fun r u => r = nI k ∧ u = sU τ 0 0 0) (fun u t => Wm D cI cZ A ad u t) A) 0 0 A := by
  refine Met.ofW (cc := cX5_store) (maxL := 4) (ret := (some .int)) (by decide) rfl ?_
  intro p e s m args below meth c s₁ B hml hv
  obtain ⟨rfl, hP, hK, hD⟩ := hv
  have hx := B.exec
  have hb := B.bytes
  have hr := B.returns
  have hts := atoms_spec (ws := wsX5_store) B.pre
  have hown : s.vm.findClass RX5 = some m.cls := findClass_of_methodNamed B.named
  have hlocks := B.notSynchronized
  have hS : va_S A s.heap s.heap [] := va_S.rf
  have hl := lv_entry ([.ref (ad 0), .int (nI a), .int (nI i), .int (nI e1)]) (n := 4) (Nat.le_of_ble_eq_true rfl)
  rw [lg_entry_eq]
  generalize (lg_sl ([.ref (ad 0), .int (nI a), .int (nI i), .int (nI e1)]) ++ List.replicate (4 - (lg_sl ([.ref (ad 0), .int (nI a), .int (nI i), .int (nI e1)])).length) Slot.unset).toArray = ls at hl ⊢
  have hl : lv_has ls 4 [(0, .ref (ad 0)), (1, .int (nI a)), (2, .int (nI i)), (3, .int (nI e1))] := hl
  have hc := hI.terms
  have hs1 := hI.sorts (j := a) (by omega)
  have hs2 := hI.sorts (j := i) (by omega)
  have hs3 := hI.sorts (j := e1) (by omega)
  refine lv_aload_n hx hb dX5_store_0 rfl (lv_at hl 0 rfl) ?_
  refine lv_aload_n hx hb dX5_store_1 rfl (lv_at hl 0 rfl) ?_
  refine lv_iload_n hx hb dX5_store_2 rfl (lv_at hl 1 rfl) ?_
  refine vp_callSi (va_Run.run (va_runV (As := [.int (nI a)]) (rest := [.ref (ad 0)]) ⟨hx, hb, hml, hown, hts⟩ (c_X5_isTerm_in l D cI cZ A ad τ a ha hc.2) (cwV 1 hts gX5_store_X5_isTerm rfl rfl rfl (by decide +kernel) ⟨Nat.le_of_ble_eq_true rfl, Nat.le_of_ble_eq_true rfl⟩) ⟨Wm.blind, va_recv hK hP (ci := 4) (q0 := 0) rfl rfl, fun U hU hW => ⟨rfl, Wm.go hP hK hD hU hW⟩⟩ rfl rfl hl.1 rfl (lv_room (Nat.le_of_ble_eq_true rfl)) dX5_store_3 ⟨Nat.zero_le _, Nat.zero_le _⟩)) (fun r_1 hr_1 => ?_)
  refine n_to (w := bI true) (hr_1.trans rfl) ?_
  refine q_if_eq hx hb (tgt := 25) (bI_z) dX5_store_6 (by decide) (fun c_6 => ?_) (fun c_6 => ?_)
  · cases c_6
  · refine lv_aload_n hx hb dX5_store_9 rfl (lv_at hl 0 rfl) ?_
    refine lv_iload_n hx hb dX5_store_10 rfl (lv_at hl 2 rfl) ?_
    refine vp_callSi (va_Run.run (va_runV (As := [.int (nI i)]) (rest := [.ref (ad 0)]) ⟨hx, hb, hml, hown, hts⟩ (c_X5_isTerm_in l D cI cZ A ad τ i hi hc.2) (cwV 1 hts gX5_store_X5_isTerm rfl rfl rfl (by decide +kernel) ⟨Nat.le_of_ble_eq_true rfl, Nat.le_of_ble_eq_true rfl⟩) ⟨Wm.blind, va_recv hK hP (ci := 4) (q0 := 0) rfl rfl, fun U hU hW => ⟨rfl, Wm.go hP hK hD hU hW⟩⟩ rfl rfl hl.1 rfl (lv_room (Nat.le_of_ble_eq_true rfl)) dX5_store_11 ⟨Nat.zero_le _, Nat.zero_le _⟩)) (fun r_2 hr_2 => ?_)
    refine n_to (w := bI true) (hr_2.trans rfl) ?_
    refine q_if_eq hx hb (tgt := 25) (bI_z) dX5_store_14 (by decide) (fun c_14 => ?_) (fun c_14 => ?_)
    · cases c_14
    · refine lv_aload_n hx hb dX5_store_17 rfl (lv_at hl 0 rfl) ?_
      refine lv_iload_n hx hb dX5_store_18 rfl (lv_at hl 3 rfl) ?_
      refine vp_callSi (va_Run.run (va_runV (As := [.int (nI e1)]) (rest := [.ref (ad 0)]) ⟨hx, hb, hml, hown, hts⟩ (c_X5_isTerm_in l D cI cZ A ad τ e1 he1 hc.2) (cwV 1 hts gX5_store_X5_isTerm rfl rfl rfl (by decide +kernel) ⟨Nat.le_of_ble_eq_true rfl, Nat.le_of_ble_eq_true rfl⟩) ⟨Wm.blind, va_recv hK hP (ci := 4) (q0 := 0) rfl rfl, fun U hU hW => ⟨rfl, Wm.go hP hK hD hU hW⟩⟩ rfl rfl hl.1 rfl (lv_room (Nat.le_of_ble_eq_true rfl)) dX5_store_19 ⟨Nat.zero_le _, Nat.zero_le _⟩)) (fun r_3 hr_3 => ?_)
      refine n_to (w := bI true) (hr_3.trans rfl) ?_
      refine q_if_ne hx hb (tgt := 29) (bI_z) dX5_store_22 (by decide) (fun c_22 => ?_) (fun c_22 => ?_)
      · refine lv_aload_n hx hb dX5_store_29 rfl (lv_at hl 0 rfl) ?_
        refine va_get (D := D) (ci := 4) (v := .ref (ad 2)) (C := RX5) (T := TX5) (N := 20) hx hb hts in_X5_store_X5 hown hK hP 0 rfl rfl 2 (by decide) (hts _ lk_X5_store_13) (fun _ h9 => h9) rfl dX5_store_30 ?_
        refine lv_iload_n hx hb dX5_store_33 rfl (lv_at hl 1 rfl) ?_
        refine n_ald hx hb hK hP 1 0 rfl rfl (i := a) (by omega) (by decide) (v := nI (τ 2 a)) rfl dX5_store_34 ?_
        refine lv_iconst (v := nI 2) hx hb dX5_store_35 (by decide) ?_
        refine q_icmp_ne hx hb (tgt := 58) (nI_eq (by omega) (by omega)) dX5_store_36 (by decide) (fun c_36 => ?_) (fun c_36 => ?_)
        · exact absurd hsa c_36
        · refine lv_aload_n hx hb dX5_store_39 rfl (lv_at hl 0 rfl) ?_
          refine va_get (D := D) (ci := 4) (v := .ref (ad 2)) (C := RX5) (T := TX5) (N := 20) hx hb hts in_X5_store_X5 hown hK hP 0 rfl rfl 2 (by decide) (hts _ lk_X5_store_13) (fun _ h9 => h9) rfl dX5_store_40 ?_
          refine lv_iload_n hx hb dX5_store_43 rfl (lv_at hl 2 rfl) ?_
          refine n_ald hx hb hK hP 1 0 rfl rfl (i := i) (by omega) (by decide) (v := nI (τ 2 i)) rfl dX5_store_44 ?_
          refine q_if_ne hx hb (tgt := 58) (nI_z (by omega)) dX5_store_45 (by decide) (fun c_45 => ?_) (fun c_45 => ?_)
          · exact absurd hsi c_45
          · refine lv_aload_n hx hb dX5_store_48 rfl (lv_at hl 0 rfl) ?_
            refine va_get (D := D) (ci := 4) (v := .ref (ad 2)) (C := RX5) (T := TX5) (N := 20) hx hb hts in_X5_store_X5 hown hK hP 0 rfl rfl 2 (by decide) (hts _ lk_X5_store_13) (fun _ h9 => h9) rfl dX5_store_49 ?_
            refine lv_iload_n hx hb dX5_store_52 rfl (lv_at hl 3 rfl) ?_
            refine n_ald hx hb hK hP 1 0 rfl rfl (i := e1) (by omega) (by decide) (v := nI (τ 2 e1)) rfl dX5_store_53 ?_
            refine lv_iconst (v := nI 1) hx hb dX5_store_54 (by decide) ?_
            refine q_icmp_eq hx hb (tgt := 62) (nI_eq (by omega) (by omega)) dX5_store_55 (by decide) (fun c_55 => ?_) (fun c_55 => ?_)
            · refine lv_iconst (v := nI 0) hx hb dX5_store_62 (by decide) ?_
              refine va_put (D := D) (ci := 4) (v := .int (nI 0)) (ty := .int) (C := RX5) (T := TX5) (N := 20) hx hb hts in_X5_store_X5 tyX5 tyX5_ok nmX5 hown hK hP hD hS 0 rfl rfl 0 (by decide) (hts _ lk_X5_store_67) (fun _ h9 => h9) rfl (by decide +kernel) rfl rfl (Nat.le_of_ble_eq_true rfl) dX5_store_63 (fun H locs hP hD hS => ?_)
              have hP : va_P D vwCl (WM ad cI cZ (sU τ 0 0 0)) H := hP
              have hD : va_D A (WM ad cI cZ (sU τ 0 0 0)) := hD
              refine lv_aload_n hx hb dX5_store_66 rfl (lv_at hl 0 rfl) ?_
              refine va_get (D := D) (ci := 4) (v := .int (nI 0)) (C := RX5) (T := TX5) (N := 20) hx hb hts in_X5_store_X5 hown hK hP 0 rfl rfl 0 (by decide) (hts _ lk_X5_store_67) (fun _ h9 => h9) rfl dX5_store_67 ?_
              refine q_if_ne hx hb (tgt := 84) (nI_z (by omega)) dX5_store_70 (by decide) (fun c_70 => ?_) (fun c_70 => ?_)
              · exact absurd c_70 (by decide)
              · refine lv_aload_n hx hb dX5_store_73 rfl (lv_at hl 0 rfl) ?_
                refine lv_iconst (v := nI 2) hx hb dX5_store_74 (by decide) ?_
                refine lv_iload_n hx hb dX5_store_75 rfl (lv_at hl 1 rfl) ?_
                refine lv_iload_n hx hb dX5_store_76 rfl (lv_at hl 2 rfl) ?_
                refine lv_iload_n hx hb dX5_store_77 rfl (lv_at hl 3 rfl) ?_
                refine vp_callSi (va_Run.run (va_runV (As := [.int (nI 2), .int (nI a), .int (nI i), .int (nI e1)]) (rest := []) ⟨hx, hb, hml, hown, hts⟩ (c_X5_make_found l D cI cZ A ad (sU τ 0 0 0) 2 a i e1 k (hI.thr 0) (by omega) ha hi he1 hk ((foundF_thr ..).trans hfd)) (cwV 4 hts gX5_store_X5_make rfl rfl rfl (by decide +kernel) ⟨Nat.le_of_ble_eq_true rfl, Nat.le_of_ble_eq_true rfl⟩) ⟨Wm.blind, va_recv hK hP (ci := 4) (q0 := 0) rfl rfl, fun U hU hW => ⟨rfl, Wm.go hP hK hD hU hW⟩⟩ rfl rfl hl.1 rfl (lv_room (Nat.le_of_ble_eq_true rfl)) dX5_store_78 ⟨Nat.zero_le _, Nat.zero_le _⟩)) (fun r_4 hr_4 => ?_)
                refine n_to (w := nI k) (hr_4.trans rfl) ?_
                refine lv_goto (tgt := 85) hx hb dX5_store_81 (by decide) ?_
                exact W.iret (v := nI k) hx hb hr (fun t ht hW => ⟨⟨_, (sU τ 0 0 0), rfl, (⟨rfl, rfl⟩), Wm.go hP hK hD ht hW⟩, hS.F ht⟩) hS.2.2 dX5_store_85
            · exact absurd hse c_55
      · cases c_22
def rX5_store_full : Room := { frames := 2, cells := 0, slots := 0, locals := 54 }
set_option maxHeartbeats 4000000 in
set_option maxRecDepth 100000 in
theorem c_X5_store_full (l : Launch) (D : va_G) (cI cZ : ClassId) (A : Nat → Prop) (ad : Nat → Nat) (τ : Nat → Nat → Nat) (a i e1 : Nat) (hI : IM τ) (ha : a < τ 0 1) (hi : i < τ 0 1) (he1 : e1 < τ 0 1) (hsa : τ 2 a = 2) (hsi : τ 2 i = 0) (hse : τ 2 e1 = 1) (hfd : foundF τ 2 a i e1 (τ 0 1 - 7) 7 = 0) (hfl : τ 0 1 = 24) : Met l yX5_store wsX5_store rX5_store_full (va_Pc [.ref (ad 0), .int (nI a), .int (nI i), .int (nI e1)] (Wm D cI cZ A ad τ)) (va_Qi (fun r u => r = nI 0 ∧ u = sU (sU τ 0 0 0) 0 0 3) (fun u t => Wm D cI cZ A ad u t) A) 0 0 A := by
  refine Met.ofW (cc := cX5_store) (maxL := 4) (ret := (some .int)) (by decide) rfl ?_
  intro p e s m args below meth c s₁ B hml hv
  obtain ⟨rfl, hP, hK, hD⟩ := hv
  have hx := B.exec
  have hb := B.bytes
  have hr := B.returns
  have hts := atoms_spec (ws := wsX5_store) B.pre
  have hown : s.vm.findClass RX5 = some m.cls := findClass_of_methodNamed B.named
  have hlocks := B.notSynchronized
  have hS : va_S A s.heap s.heap [] := va_S.rf
  have hl := lv_entry ([.ref (ad 0), .int (nI a), .int (nI i), .int (nI e1)]) (n := 4) (Nat.le_of_ble_eq_true rfl)
  rw [lg_entry_eq]
  generalize (lg_sl ([.ref (ad 0), .int (nI a), .int (nI i), .int (nI e1)]) ++ List.replicate (4 - (lg_sl ([.ref (ad 0), .int (nI a), .int (nI i), .int (nI e1)])).length) Slot.unset).toArray = ls at hl ⊢
  have hl : lv_has ls 4 [(0, .ref (ad 0)), (1, .int (nI a)), (2, .int (nI i)), (3, .int (nI e1))] := hl
  have hc := hI.terms
  have hs1 := hI.sorts (j := a) (by omega)
  have hs2 := hI.sorts (j := i) (by omega)
  have hs3 := hI.sorts (j := e1) (by omega)
  refine lv_aload_n hx hb dX5_store_0 rfl (lv_at hl 0 rfl) ?_
  refine lv_aload_n hx hb dX5_store_1 rfl (lv_at hl 0 rfl) ?_
  refine lv_iload_n hx hb dX5_store_2 rfl (lv_at hl 1 rfl) ?_
  refine vp_callSi (va_Run.run (va_runV (As := [.int (nI a)]) (rest := [.ref (ad 0)]) ⟨hx, hb, hml, hown, hts⟩ (c_X5_isTerm_in l D cI cZ A ad τ a ha hc.2) (cwV 1 hts gX5_store_X5_isTerm rfl rfl rfl (by decide +kernel) ⟨Nat.le_of_ble_eq_true rfl, Nat.le_of_ble_eq_true rfl⟩) ⟨Wm.blind, va_recv hK hP (ci := 4) (q0 := 0) rfl rfl, fun U hU hW => ⟨rfl, Wm.go hP hK hD hU hW⟩⟩ rfl rfl hl.1 rfl (lv_room (Nat.le_of_ble_eq_true rfl)) dX5_store_3 ⟨Nat.zero_le _, Nat.zero_le _⟩)) (fun r_1 hr_1 => ?_)
  refine n_to (w := bI true) (hr_1.trans rfl) ?_
  refine q_if_eq hx hb (tgt := 25) (bI_z) dX5_store_6 (by decide) (fun c_6 => ?_) (fun c_6 => ?_)
  · cases c_6
  · refine lv_aload_n hx hb dX5_store_9 rfl (lv_at hl 0 rfl) ?_
    refine lv_iload_n hx hb dX5_store_10 rfl (lv_at hl 2 rfl) ?_
    refine vp_callSi (va_Run.run (va_runV (As := [.int (nI i)]) (rest := [.ref (ad 0)]) ⟨hx, hb, hml, hown, hts⟩ (c_X5_isTerm_in l D cI cZ A ad τ i hi hc.2) (cwV 1 hts gX5_store_X5_isTerm rfl rfl rfl (by decide +kernel) ⟨Nat.le_of_ble_eq_true rfl, Nat.le_of_ble_eq_true rfl⟩) ⟨Wm.blind, va_recv hK hP (ci := 4) (q0 := 0) rfl rfl, fun U hU hW => ⟨rfl, Wm.go hP hK hD hU hW⟩⟩ rfl rfl hl.1 rfl (lv_room (Nat.le_of_ble_eq_true rfl)) dX5_store_11 ⟨Nat.zero_le _, Nat.zero_le _⟩)) (fun r_2 hr_2 => ?_)
    refine n_to (w := bI true) (hr_2.trans rfl) ?_
    refine q_if_eq hx hb (tgt := 25) (bI_z) dX5_store_14 (by decide) (fun c_14 => ?_) (fun c_14 => ?_)
    · cases c_14
    · refine lv_aload_n hx hb dX5_store_17 rfl (lv_at hl 0 rfl) ?_
      refine lv_iload_n hx hb dX5_store_18 rfl (lv_at hl 3 rfl) ?_
      refine vp_callSi (va_Run.run (va_runV (As := [.int (nI e1)]) (rest := [.ref (ad 0)]) ⟨hx, hb, hml, hown, hts⟩ (c_X5_isTerm_in l D cI cZ A ad τ e1 he1 hc.2) (cwV 1 hts gX5_store_X5_isTerm rfl rfl rfl (by decide +kernel) ⟨Nat.le_of_ble_eq_true rfl, Nat.le_of_ble_eq_true rfl⟩) ⟨Wm.blind, va_recv hK hP (ci := 4) (q0 := 0) rfl rfl, fun U hU hW => ⟨rfl, Wm.go hP hK hD hU hW⟩⟩ rfl rfl hl.1 rfl (lv_room (Nat.le_of_ble_eq_true rfl)) dX5_store_19 ⟨Nat.zero_le _, Nat.zero_le _⟩)) (fun r_3 hr_3 => ?_)
      refine n_to (w := bI true) (hr_3.trans rfl) ?_
      refine q_if_ne hx hb (tgt := 29) (bI_z) dX5_store_22 (by decide) (fun c_22 => ?_) (fun c_22 => ?_)
      · refine lv_aload_n hx hb dX5_store_29 rfl (lv_at hl 0 rfl) ?_
        refine va_get (D := D) (ci := 4) (v := .ref (ad 2)) (C := RX5) (T := TX5) (N := 20) hx hb hts in_X5_store_X5 hown hK hP 0 rfl rfl 2 (by decide) (hts _ lk_X5_store_13) (fun _ h9 => h9) rfl dX5_store_30 ?_
        refine lv_iload_n hx hb dX5_store_33 rfl (lv_at hl 1 rfl) ?_
        refine n_ald hx hb hK hP 1 0 rfl rfl (i := a) (by omega) (by decide) (v := nI (τ 2 a)) rfl dX5_store_34 ?_
        refine lv_iconst (v := nI 2) hx hb dX5_store_35 (by decide) ?_
        refine q_icmp_ne hx hb (tgt := 58) (nI_eq (by omega) (by omega)) dX5_store_36 (by decide) (fun c_36 => ?_) (fun c_36 => ?_)
        · exact absurd hsa c_36
        · refine lv_aload_n hx hb dX5_store_39 rfl (lv_at hl 0 rfl) ?_
          refine va_get (D := D) (ci := 4) (v := .ref (ad 2)) (C := RX5) (T := TX5) (N := 20) hx hb hts in_X5_store_X5 hown hK hP 0 rfl rfl 2 (by decide) (hts _ lk_X5_store_13) (fun _ h9 => h9) rfl dX5_store_40 ?_
          refine lv_iload_n hx hb dX5_store_43 rfl (lv_at hl 2 rfl) ?_
          refine n_ald hx hb hK hP 1 0 rfl rfl (i := i) (by omega) (by decide) (v := nI (τ 2 i)) rfl dX5_store_44 ?_
          refine q_if_ne hx hb (tgt := 58) (nI_z (by omega)) dX5_store_45 (by decide) (fun c_45 => ?_) (fun c_45 => ?_)
          · exact absurd hsi c_45
          · refine lv_aload_n hx hb dX5_store_48 rfl (lv_at hl 0 rfl) ?_
            refine va_get (D := D) (ci := 4) (v := .ref (ad 2)) (C := RX5) (T := TX5) (N := 20) hx hb hts in_X5_store_X5 hown hK hP 0 rfl rfl 2 (by decide) (hts _ lk_X5_store_13) (fun _ h9 => h9) rfl dX5_store_49 ?_
            refine lv_iload_n hx hb dX5_store_52 rfl (lv_at hl 3 rfl) ?_
            refine n_ald hx hb hK hP 1 0 rfl rfl (i := e1) (by omega) (by decide) (v := nI (τ 2 e1)) rfl dX5_store_53 ?_
            refine lv_iconst (v := nI 1) hx hb dX5_store_54 (by decide) ?_
            refine q_icmp_eq hx hb (tgt := 62) (nI_eq (by omega) (by omega)) dX5_store_55 (by decide) (fun c_55 => ?_) (fun c_55 => ?_)
            · refine lv_iconst (v := nI 0) hx hb dX5_store_62 (by decide) ?_
              refine va_put (D := D) (ci := 4) (v := .int (nI 0)) (ty := .int) (C := RX5) (T := TX5) (N := 20) hx hb hts in_X5_store_X5 tyX5 tyX5_ok nmX5 hown hK hP hD hS 0 rfl rfl 0 (by decide) (hts _ lk_X5_store_67) (fun _ h9 => h9) rfl (by decide +kernel) rfl rfl (Nat.le_of_ble_eq_true rfl) dX5_store_63 (fun H locs hP hD hS => ?_)
              have hP : va_P D vwCl (WM ad cI cZ (sU τ 0 0 0)) H := hP
              have hD : va_D A (WM ad cI cZ (sU τ 0 0 0)) := hD
              refine lv_aload_n hx hb dX5_store_66 rfl (lv_at hl 0 rfl) ?_
              refine va_get (D := D) (ci := 4) (v := .int (nI 0)) (C := RX5) (T := TX5) (N := 20) hx hb hts in_X5_store_X5 hown hK hP 0 rfl rfl 0 (by decide) (hts _ lk_X5_store_67) (fun _ h9 => h9) rfl dX5_store_67 ?_
              refine q_if_ne hx hb (tgt := 84) (nI_z (by omega)) dX5_store_70 (by decide) (fun c_70 => ?_) (fun c_70 => ?_)
              · exact absurd c_70 (by decide)
              · refine lv_aload_n hx hb dX5_store_73 rfl (lv_at hl 0 rfl) ?_
                refine lv_iconst (v := nI 2) hx hb dX5_store_74 (by decide) ?_
                refine lv_iload_n hx hb dX5_store_75 rfl (lv_at hl 1 rfl) ?_
                refine lv_iload_n hx hb dX5_store_76 rfl (lv_at hl 2 rfl) ?_
                refine lv_iload_n hx hb dX5_store_77 rfl (lv_at hl 3 rfl) ?_
                refine va_calli (va_runV (As := [.int (nI 2), .int (nI a), .int (nI i), .int (nI e1)]) (rest := []) ⟨hx, hb, hml, hown, hts⟩ (c_X5_make_full l D cI cZ A ad (sU τ 0 0 0) 2 a i e1 (hI.thr 0) (by omega) ha hi he1 ((foundF_thr ..).trans hfd) hfl) (cwV 4 hts gX5_store_X5_make rfl rfl rfl (by decide +kernel) ⟨Nat.le_of_ble_eq_true rfl, Nat.le_of_ble_eq_true rfl⟩) ⟨Wm.blind, va_recv hK hP (ci := 4) (q0 := 0) rfl rfl, fun U hU hW => ⟨rfl, Wm.go hP hK hD hU hW⟩⟩ rfl rfl hl.1 rfl (lv_room (Nat.le_of_ble_eq_true rfl)) dX5_store_78 ⟨Nat.zero_le _, Nat.zero_le _⟩) hS (fun q _ h => h) (fun q h => h) (fun r_5 τ_4 t H1 locs ht hvm hwτ_4 hB hz1 hk1 hS => ?_)
                obtain ⟨hr_5, hwτ_4⟩ := hwτ_4
                refine n_to (w := nI 0) (hr_5) ?_
                obtain ⟨hP, -, hD⟩ := hB
                rw [ht] at hP
                generalize H1 = H at hP hS ⊢
                refine lv_goto (tgt := 85) hx hb dX5_store_81 (by decide) ?_
                exact W.iret (v := nI 0) hx hb hr (fun t ht hW => ⟨⟨_, τ_4, rfl, (⟨rfl, hwτ_4⟩), Wm.go hP hK hD ht hW⟩, hS.F ht⟩) hS.2.2 dX5_store_85
            · exact absurd hse c_55
      · cases c_22
def rX5_store_new : Room := { frames := 2, cells := 0, slots := 0, locals := 54 }
set_option maxHeartbeats 4000000 in
set_option maxRecDepth 100000 in
theorem c_X5_store_new (l : Launch) (D : va_G) (cI cZ : ClassId) (A : Nat → Prop) (ad : Nat → Nat) (τ : Nat → Nat → Nat) (a i e1 : Nat) (hI : IM τ) (ha : a < τ 0 1) (hi : i < τ 0 1) (he1 : e1 < τ 0 1) (hsa : τ 2 a = 2) (hsi : τ 2 i = 0) (hse : τ 2 e1 = 1) (hfd : foundF τ 2 a i e1 (τ 0 1 - 7) 7 = 0) (hfl : τ 0 1 < 24) (hci : ∀ p, p < 5 → τ 9 (24 * p + i) < 3) (hce : ∀ p, p < 5 → τ 9 (24 * p + e1) < 8) : Met l yX5_store wsX5_store rX5_store_new (va_Pc [.ref (ad 0), .int (nI a), .int (nI i), .int (nI e1)] (Wm D cI cZ A ad τ)) (va_Qi (fun r u => r = nI (τ 0 1) ∧ MK (sU τ 0 0 0) 2 a i e1 u) (fun u t => Wm D cI cZ A ad u t) A) 0 0 A := by
  refine Met.ofW (cc := cX5_store) (maxL := 4) (ret := (some .int)) (by decide) rfl ?_
  intro p e s m args below meth c s₁ B hml hv
  obtain ⟨rfl, hP, hK, hD⟩ := hv
  have hx := B.exec
  have hb := B.bytes
  have hr := B.returns
  have hts := atoms_spec (ws := wsX5_store) B.pre
  have hown : s.vm.findClass RX5 = some m.cls := findClass_of_methodNamed B.named
  have hlocks := B.notSynchronized
  have hS : va_S A s.heap s.heap [] := va_S.rf
  have hl := lv_entry ([.ref (ad 0), .int (nI a), .int (nI i), .int (nI e1)]) (n := 4) (Nat.le_of_ble_eq_true rfl)
  rw [lg_entry_eq]
  generalize (lg_sl ([.ref (ad 0), .int (nI a), .int (nI i), .int (nI e1)]) ++ List.replicate (4 - (lg_sl ([.ref (ad 0), .int (nI a), .int (nI i), .int (nI e1)])).length) Slot.unset).toArray = ls at hl ⊢
  have hl : lv_has ls 4 [(0, .ref (ad 0)), (1, .int (nI a)), (2, .int (nI i)), (3, .int (nI e1))] := hl
  have hc := hI.terms
  have hs1 := hI.sorts (j := a) (by omega)
  have hs2 := hI.sorts (j := i) (by omega)
  have hs3 := hI.sorts (j := e1) (by omega)
  refine lv_aload_n hx hb dX5_store_0 rfl (lv_at hl 0 rfl) ?_
  refine lv_aload_n hx hb dX5_store_1 rfl (lv_at hl 0 rfl) ?_
  refine lv_iload_n hx hb dX5_store_2 rfl (lv_at hl 1 rfl) ?_
  refine vp_callSi (va_Run.run (va_runV (As := [.int (nI a)]) (rest := [.ref (ad 0)]) ⟨hx, hb, hml, hown, hts⟩ (c_X5_isTerm_in l D cI cZ A ad τ a ha hc.2) (cwV 1 hts gX5_store_X5_isTerm rfl rfl rfl (by decide +kernel) ⟨Nat.le_of_ble_eq_true rfl, Nat.le_of_ble_eq_true rfl⟩) ⟨Wm.blind, va_recv hK hP (ci := 4) (q0 := 0) rfl rfl, fun U hU hW => ⟨rfl, Wm.go hP hK hD hU hW⟩⟩ rfl rfl hl.1 rfl (lv_room (Nat.le_of_ble_eq_true rfl)) dX5_store_3 ⟨Nat.zero_le _, Nat.zero_le _⟩)) (fun r_1 hr_1 => ?_)
  refine n_to (w := bI true) (hr_1.trans rfl) ?_
  refine q_if_eq hx hb (tgt := 25) (bI_z) dX5_store_6 (by decide) (fun c_6 => ?_) (fun c_6 => ?_)
  · cases c_6
  · refine lv_aload_n hx hb dX5_store_9 rfl (lv_at hl 0 rfl) ?_
    refine lv_iload_n hx hb dX5_store_10 rfl (lv_at hl 2 rfl) ?_
    refine vp_callSi (va_Run.run (va_runV (As := [.int (nI i)]) (rest := [.ref (ad 0)]) ⟨hx, hb, hml, hown, hts⟩ (c_X5_isTerm_in l D cI cZ A ad τ i hi hc.2) (cwV 1 hts gX5_store_X5_isTerm rfl rfl rfl (by decide +kernel) ⟨Nat.le_of_ble_eq_true rfl, Nat.le_of_ble_eq_true rfl⟩) ⟨Wm.blind, va_recv hK hP (ci := 4) (q0 := 0) rfl rfl, fun U hU hW => ⟨rfl, Wm.go hP hK hD hU hW⟩⟩ rfl rfl hl.1 rfl (lv_room (Nat.le_of_ble_eq_true rfl)) dX5_store_11 ⟨Nat.zero_le _, Nat.zero_le _⟩)) (fun r_2 hr_2 => ?_)
    refine n_to (w := bI true) (hr_2.trans rfl) ?_
    refine q_if_eq hx hb (tgt := 25) (bI_z) dX5_store_14 (by decide) (fun c_14 => ?_) (fun c_14 => ?_)
    · cases c_14
    · refine lv_aload_n hx hb dX5_store_17 rfl (lv_at hl 0 rfl) ?_
      refine lv_iload_n hx hb dX5_store_18 rfl (lv_at hl 3 rfl) ?_
      refine vp_callSi (va_Run.run (va_runV (As := [.int (nI e1)]) (rest := [.ref (ad 0)]) ⟨hx, hb, hml, hown, hts⟩ (c_X5_isTerm_in l D cI cZ A ad τ e1 he1 hc.2) (cwV 1 hts gX5_store_X5_isTerm rfl rfl rfl (by decide +kernel) ⟨Nat.le_of_ble_eq_true rfl, Nat.le_of_ble_eq_true rfl⟩) ⟨Wm.blind, va_recv hK hP (ci := 4) (q0 := 0) rfl rfl, fun U hU hW => ⟨rfl, Wm.go hP hK hD hU hW⟩⟩ rfl rfl hl.1 rfl (lv_room (Nat.le_of_ble_eq_true rfl)) dX5_store_19 ⟨Nat.zero_le _, Nat.zero_le _⟩)) (fun r_3 hr_3 => ?_)
      refine n_to (w := bI true) (hr_3.trans rfl) ?_
      refine q_if_ne hx hb (tgt := 29) (bI_z) dX5_store_22 (by decide) (fun c_22 => ?_) (fun c_22 => ?_)
      · refine lv_aload_n hx hb dX5_store_29 rfl (lv_at hl 0 rfl) ?_
        refine va_get (D := D) (ci := 4) (v := .ref (ad 2)) (C := RX5) (T := TX5) (N := 20) hx hb hts in_X5_store_X5 hown hK hP 0 rfl rfl 2 (by decide) (hts _ lk_X5_store_13) (fun _ h9 => h9) rfl dX5_store_30 ?_
        refine lv_iload_n hx hb dX5_store_33 rfl (lv_at hl 1 rfl) ?_
        refine n_ald hx hb hK hP 1 0 rfl rfl (i := a) (by omega) (by decide) (v := nI (τ 2 a)) rfl dX5_store_34 ?_
        refine lv_iconst (v := nI 2) hx hb dX5_store_35 (by decide) ?_
        refine q_icmp_ne hx hb (tgt := 58) (nI_eq (by omega) (by omega)) dX5_store_36 (by decide) (fun c_36 => ?_) (fun c_36 => ?_)
        · exact absurd hsa c_36
        · refine lv_aload_n hx hb dX5_store_39 rfl (lv_at hl 0 rfl) ?_
          refine va_get (D := D) (ci := 4) (v := .ref (ad 2)) (C := RX5) (T := TX5) (N := 20) hx hb hts in_X5_store_X5 hown hK hP 0 rfl rfl 2 (by decide) (hts _ lk_X5_store_13) (fun _ h9 => h9) rfl dX5_store_40 ?_
          refine lv_iload_n hx hb dX5_store_43 rfl (lv_at hl 2 rfl) ?_
          refine n_ald hx hb hK hP 1 0 rfl rfl (i := i) (by omega) (by decide) (v := nI (τ 2 i)) rfl dX5_store_44 ?_
          refine q_if_ne hx hb (tgt := 58) (nI_z (by omega)) dX5_store_45 (by decide) (fun c_45 => ?_) (fun c_45 => ?_)
          · exact absurd hsi c_45
          · refine lv_aload_n hx hb dX5_store_48 rfl (lv_at hl 0 rfl) ?_
            refine va_get (D := D) (ci := 4) (v := .ref (ad 2)) (C := RX5) (T := TX5) (N := 20) hx hb hts in_X5_store_X5 hown hK hP 0 rfl rfl 2 (by decide) (hts _ lk_X5_store_13) (fun _ h9 => h9) rfl dX5_store_49 ?_
            refine lv_iload_n hx hb dX5_store_52 rfl (lv_at hl 3 rfl) ?_
            refine n_ald hx hb hK hP 1 0 rfl rfl (i := e1) (by omega) (by decide) (v := nI (τ 2 e1)) rfl dX5_store_53 ?_
            refine lv_iconst (v := nI 1) hx hb dX5_store_54 (by decide) ?_
            refine q_icmp_eq hx hb (tgt := 62) (nI_eq (by omega) (by omega)) dX5_store_55 (by decide) (fun c_55 => ?_) (fun c_55 => ?_)
            · refine lv_iconst (v := nI 0) hx hb dX5_store_62 (by decide) ?_
              refine va_put (D := D) (ci := 4) (v := .int (nI 0)) (ty := .int) (C := RX5) (T := TX5) (N := 20) hx hb hts in_X5_store_X5 tyX5 tyX5_ok nmX5 hown hK hP hD hS 0 rfl rfl 0 (by decide) (hts _ lk_X5_store_67) (fun _ h9 => h9) rfl (by decide +kernel) rfl rfl (Nat.le_of_ble_eq_true rfl) dX5_store_63 (fun H locs hP hD hS => ?_)
              have hP : va_P D vwCl (WM ad cI cZ (sU τ 0 0 0)) H := hP
              have hD : va_D A (WM ad cI cZ (sU τ 0 0 0)) := hD
              refine lv_aload_n hx hb dX5_store_66 rfl (lv_at hl 0 rfl) ?_
              refine va_get (D := D) (ci := 4) (v := .int (nI 0)) (C := RX5) (T := TX5) (N := 20) hx hb hts in_X5_store_X5 hown hK hP 0 rfl rfl 0 (by decide) (hts _ lk_X5_store_67) (fun _ h9 => h9) rfl dX5_store_67 ?_
              refine q_if_ne hx hb (tgt := 84) (nI_z (by omega)) dX5_store_70 (by decide) (fun c_70 => ?_) (fun c_70 => ?_)
              · exact absurd c_70 (by decide)
              · refine lv_aload_n hx hb dX5_store_73 rfl (lv_at hl 0 rfl) ?_
                refine lv_iconst (v := nI 2) hx hb dX5_store_74 (by decide) ?_
                refine lv_iload_n hx hb dX5_store_75 rfl (lv_at hl 1 rfl) ?_
                refine lv_iload_n hx hb dX5_store_76 rfl (lv_at hl 2 rfl) ?_
                refine lv_iload_n hx hb dX5_store_77 rfl (lv_at hl 3 rfl) ?_
                refine va_calli (va_runV (As := [.int (nI 2), .int (nI a), .int (nI i), .int (nI e1)]) (rest := []) ⟨hx, hb, hml, hown, hts⟩ (c_X5_make_new l D cI cZ A ad (sU τ 0 0 0) 2 a i e1 (hI.thr 0) (by omega) ha hi he1 ((foundF_thr ..).trans hfd) hfl hci (fun _ => hce)) (cwV 4 hts gX5_store_X5_make rfl rfl rfl (by decide +kernel) ⟨Nat.le_of_ble_eq_true rfl, Nat.le_of_ble_eq_true rfl⟩) ⟨Wm.blind, va_recv hK hP (ci := 4) (q0 := 0) rfl rfl, fun U hU hW => ⟨rfl, Wm.go hP hK hD hU hW⟩⟩ rfl rfl hl.1 rfl (lv_room (Nat.le_of_ble_eq_true rfl)) dX5_store_78 ⟨Nat.zero_le _, Nat.zero_le _⟩) hS (fun q _ h => h) (fun q h => h) (fun r_5 τ_4 t H1 locs ht hvm hwτ_4 hB hz1 hk1 hS => ?_)
                obtain ⟨hr_5, hwτ_4⟩ := hwτ_4
                refine n_to (w := nI (τ 0 1)) (hr_5) ?_
                obtain ⟨hP, -, hD⟩ := hB
                rw [ht] at hP
                generalize H1 = H at hP hS ⊢
                refine lv_goto (tgt := 85) hx hb dX5_store_81 (by decide) ?_
                exact W.iret (v := nI (τ 0 1)) hx hb hr (fun t ht hW => ⟨⟨_, τ_4, rfl, (⟨rfl, hwτ_4⟩), Wm.go hP hK hD ht hW⟩, hS.F ht⟩) hS.2.2 dX5_store_85
            · exact absurd hse c_55
      · cases c_22
def rX5_store_sort : Room := { frames := 1, cells := 0, slots := 0, locals := 21 }
set_option maxHeartbeats 4000000 in
set_option maxRecDepth 100000 in
theorem c_X5_store_sort (l : Launch) (D : va_G) (cI cZ : ClassId) (A : Nat → Prop) (ad : Nat → Nat) (τ : Nat → Nat → Nat) (a i e1 : Nat) (hI : IM τ) (ha : a < τ 0 1) (hi : i < τ 0 1) (he1 : e1 < τ 0 1) (hbad : τ 2 a ≠ 2 ∨ τ 2 i ≠ 0 ∨ τ 2 e1 ≠ 1) : Met l yX5_store wsX5_store rX5_store_sort (va_Pc [.ref (ad 0), .int (nI a), .int (nI i), .int (nI e1)] (Wm D cI cZ A ad τ)) (va_Qi (fun r u => r = nI 0 ∧ u = sU τ 0 0 2) (fun u t => Wm D cI cZ A ad u t) A) 0 0 A := by
  refine Met.ofW (cc := cX5_store) (maxL := 4) (ret := (some .int)) (by decide) rfl ?_
  intro p e s m args below meth c s₁ B hml hv
  obtain ⟨rfl, hP, hK, hD⟩ := hv
  have hx := B.exec
  have hb := B.bytes
  have hr := B.returns
  have hts := atoms_spec (ws := wsX5_store) B.pre
  have hown : s.vm.findClass RX5 = some m.cls := findClass_of_methodNamed B.named
  have hlocks := B.notSynchronized
  have hS : va_S A s.heap s.heap [] := va_S.rf
  have hl := lv_entry ([.ref (ad 0), .int (nI a), .int (nI i), .int (nI e1)]) (n := 4) (Nat.le_of_ble_eq_true rfl)
  rw [lg_entry_eq]
  generalize (lg_sl ([.ref (ad 0), .int (nI a), .int (nI i), .int (nI e1)]) ++ List.replicate (4 - (lg_sl ([.ref (ad 0), .int (nI a), .int (nI i), .int (nI e1)])).length) Slot.unset).toArray = ls at hl ⊢
  have hl : lv_has ls 4 [(0, .ref (ad 0)), (1, .int (nI a)), (2, .int (nI i)), (3, .int (nI e1))] := hl
  have hc := hI.terms
  have hs1 := hI.sorts (j := a) (by omega)
  have hs2 := hI.sorts (j := i) (by omega)
  have hs3 := hI.sorts (j := e1) (by omega)
  refine lv_aload_n hx hb dX5_store_0 rfl (lv_at hl 0 rfl) ?_
  refine lv_aload_n hx hb dX5_store_1 rfl (lv_at hl 0 rfl) ?_
  refine lv_iload_n hx hb dX5_store_2 rfl (lv_at hl 1 rfl) ?_
  refine vp_callSi (va_Run.run (va_runV (As := [.int (nI a)]) (rest := [.ref (ad 0)]) ⟨hx, hb, hml, hown, hts⟩ (c_X5_isTerm_in l D cI cZ A ad τ a ha hc.2) (cwV 1 hts gX5_store_X5_isTerm rfl rfl rfl (by decide +kernel) ⟨Nat.le_of_ble_eq_true rfl, Nat.le_of_ble_eq_true rfl⟩) ⟨Wm.blind, va_recv hK hP (ci := 4) (q0 := 0) rfl rfl, fun U hU hW => ⟨rfl, Wm.go hP hK hD hU hW⟩⟩ rfl rfl hl.1 rfl (lv_room (Nat.le_of_ble_eq_true rfl)) dX5_store_3 ⟨Nat.zero_le _, Nat.zero_le _⟩)) (fun r_1 hr_1 => ?_)
  refine n_to (w := bI true) (hr_1.trans rfl) ?_
  refine q_if_eq hx hb (tgt := 25) (bI_z) dX5_store_6 (by decide) (fun c_6 => ?_) (fun c_6 => ?_)
  · cases c_6
  · refine lv_aload_n hx hb dX5_store_9 rfl (lv_at hl 0 rfl) ?_
    refine lv_iload_n hx hb dX5_store_10 rfl (lv_at hl 2 rfl) ?_
    refine vp_callSi (va_Run.run (va_runV (As := [.int (nI i)]) (rest := [.ref (ad 0)]) ⟨hx, hb, hml, hown, hts⟩ (c_X5_isTerm_in l D cI cZ A ad τ i hi hc.2) (cwV 1 hts gX5_store_X5_isTerm rfl rfl rfl (by decide +kernel) ⟨Nat.le_of_ble_eq_true rfl, Nat.le_of_ble_eq_true rfl⟩) ⟨Wm.blind, va_recv hK hP (ci := 4) (q0 := 0) rfl rfl, fun U hU hW => ⟨rfl, Wm.go hP hK hD hU hW⟩⟩ rfl rfl hl.1 rfl (lv_room (Nat.le_of_ble_eq_true rfl)) dX5_store_11 ⟨Nat.zero_le _, Nat.zero_le _⟩)) (fun r_2 hr_2 => ?_)
    refine n_to (w := bI true) (hr_2.trans rfl) ?_
    refine q_if_eq hx hb (tgt := 25) (bI_z) dX5_store_14 (by decide) (fun c_14 => ?_) (fun c_14 => ?_)
    · cases c_14
    · refine lv_aload_n hx hb dX5_store_17 rfl (lv_at hl 0 rfl) ?_
      refine lv_iload_n hx hb dX5_store_18 rfl (lv_at hl 3 rfl) ?_
      refine vp_callSi (va_Run.run (va_runV (As := [.int (nI e1)]) (rest := [.ref (ad 0)]) ⟨hx, hb, hml, hown, hts⟩ (c_X5_isTerm_in l D cI cZ A ad τ e1 he1 hc.2) (cwV 1 hts gX5_store_X5_isTerm rfl rfl rfl (by decide +kernel) ⟨Nat.le_of_ble_eq_true rfl, Nat.le_of_ble_eq_true rfl⟩) ⟨Wm.blind, va_recv hK hP (ci := 4) (q0 := 0) rfl rfl, fun U hU hW => ⟨rfl, Wm.go hP hK hD hU hW⟩⟩ rfl rfl hl.1 rfl (lv_room (Nat.le_of_ble_eq_true rfl)) dX5_store_19 ⟨Nat.zero_le _, Nat.zero_le _⟩)) (fun r_3 hr_3 => ?_)
      refine n_to (w := bI true) (hr_3.trans rfl) ?_
      refine q_if_ne hx hb (tgt := 29) (bI_z) dX5_store_22 (by decide) (fun c_22 => ?_) (fun c_22 => ?_)
      · refine lv_aload_n hx hb dX5_store_29 rfl (lv_at hl 0 rfl) ?_
        refine va_get (D := D) (ci := 4) (v := .ref (ad 2)) (C := RX5) (T := TX5) (N := 20) hx hb hts in_X5_store_X5 hown hK hP 0 rfl rfl 2 (by decide) (hts _ lk_X5_store_13) (fun _ h9 => h9) rfl dX5_store_30 ?_
        refine lv_iload_n hx hb dX5_store_33 rfl (lv_at hl 1 rfl) ?_
        refine n_ald hx hb hK hP 1 0 rfl rfl (i := a) (by omega) (by decide) (v := nI (τ 2 a)) rfl dX5_store_34 ?_
        refine lv_iconst (v := nI 2) hx hb dX5_store_35 (by decide) ?_
        refine q_icmp_ne hx hb (tgt := 58) (nI_eq (by omega) (by omega)) dX5_store_36 (by decide) (fun c_36 => ?_) (fun c_36 => ?_)
        · refine lv_iconst (v := nI 2) hx hb dX5_store_58 (by decide) ?_
          refine lv_goto (tgt := 63) hx hb dX5_store_59 (by decide) ?_
          refine va_put (D := D) (ci := 4) (v := .int (nI 2)) (ty := .int) (C := RX5) (T := TX5) (N := 20) hx hb hts in_X5_store_X5 tyX5 tyX5_ok nmX5 hown hK hP hD hS 0 rfl rfl 0 (by decide) (hts _ lk_X5_store_67) (fun _ h9 => h9) rfl (by decide +kernel) rfl rfl (Nat.le_of_ble_eq_true rfl) dX5_store_63 (fun H locs hP hD hS => ?_)
          have hP : va_P D vwCl (WM ad cI cZ (sU τ 0 0 2)) H := hP
          have hD : va_D A (WM ad cI cZ (sU τ 0 0 2)) := hD
          refine lv_aload_n hx hb dX5_store_66 rfl (lv_at hl 0 rfl) ?_
          refine va_get (D := D) (ci := 4) (v := .int (nI 2)) (C := RX5) (T := TX5) (N := 20) hx hb hts in_X5_store_X5 hown hK hP 0 rfl rfl 0 (by decide) (hts _ lk_X5_store_67) (fun _ h9 => h9) rfl dX5_store_67 ?_
          refine q_if_ne hx hb (tgt := 84) (nI_z (by omega)) dX5_store_70 (by decide) (fun c_70 => ?_) (fun c_70 => ?_)
          · refine lv_iconst (v := nI 0) hx hb dX5_store_84 (by decide) ?_
            exact W.iret (v := nI 0) hx hb hr (fun t ht hW => ⟨⟨_, (sU τ 0 0 2), rfl, (⟨rfl, rfl⟩), Wm.go hP hK hD ht hW⟩, hS.F ht⟩) hS.2.2 dX5_store_85
          · exact absurd c_70 (by decide)
        · refine lv_aload_n hx hb dX5_store_39 rfl (lv_at hl 0 rfl) ?_
          refine va_get (D := D) (ci := 4) (v := .ref (ad 2)) (C := RX5) (T := TX5) (N := 20) hx hb hts in_X5_store_X5 hown hK hP 0 rfl rfl 2 (by decide) (hts _ lk_X5_store_13) (fun _ h9 => h9) rfl dX5_store_40 ?_
          refine lv_iload_n hx hb dX5_store_43 rfl (lv_at hl 2 rfl) ?_
          refine n_ald hx hb hK hP 1 0 rfl rfl (i := i) (by omega) (by decide) (v := nI (τ 2 i)) rfl dX5_store_44 ?_
          refine q_if_ne hx hb (tgt := 58) (nI_z (by omega)) dX5_store_45 (by decide) (fun c_45 => ?_) (fun c_45 => ?_)
          · refine lv_iconst (v := nI 2) hx hb dX5_store_58 (by decide) ?_
            refine lv_goto (tgt := 63) hx hb dX5_store_59 (by decide) ?_
            refine va_put (D := D) (ci := 4) (v := .int (nI 2)) (ty := .int) (C := RX5) (T := TX5) (N := 20) hx hb hts in_X5_store_X5 tyX5 tyX5_ok nmX5 hown hK hP hD hS 0 rfl rfl 0 (by decide) (hts _ lk_X5_store_67) (fun _ h9 => h9) rfl (by decide +kernel) rfl rfl (Nat.le_of_ble_eq_true rfl) dX5_store_63 (fun H locs hP hD hS => ?_)
            have hP : va_P D vwCl (WM ad cI cZ (sU τ 0 0 2)) H := hP
            have hD : va_D A (WM ad cI cZ (sU τ 0 0 2)) := hD
            refine lv_aload_n hx hb dX5_store_66 rfl (lv_at hl 0 rfl) ?_
            refine va_get (D := D) (ci := 4) (v := .int (nI 2)) (C := RX5) (T := TX5) (N := 20) hx hb hts in_X5_store_X5 hown hK hP 0 rfl rfl 0 (by decide) (hts _ lk_X5_store_67) (fun _ h9 => h9) rfl dX5_store_67 ?_
            refine q_if_ne hx hb (tgt := 84) (nI_z (by omega)) dX5_store_70 (by decide) (fun c_70 => ?_) (fun c_70 => ?_)
            · refine lv_iconst (v := nI 0) hx hb dX5_store_84 (by decide) ?_
              exact W.iret (v := nI 0) hx hb hr (fun t ht hW => ⟨⟨_, (sU τ 0 0 2), rfl, (⟨rfl, rfl⟩), Wm.go hP hK hD ht hW⟩, hS.F ht⟩) hS.2.2 dX5_store_85
            · exact absurd c_70 (by decide)
          · refine lv_aload_n hx hb dX5_store_48 rfl (lv_at hl 0 rfl) ?_
            refine va_get (D := D) (ci := 4) (v := .ref (ad 2)) (C := RX5) (T := TX5) (N := 20) hx hb hts in_X5_store_X5 hown hK hP 0 rfl rfl 2 (by decide) (hts _ lk_X5_store_13) (fun _ h9 => h9) rfl dX5_store_49 ?_
            refine lv_iload_n hx hb dX5_store_52 rfl (lv_at hl 3 rfl) ?_
            refine n_ald hx hb hK hP 1 0 rfl rfl (i := e1) (by omega) (by decide) (v := nI (τ 2 e1)) rfl dX5_store_53 ?_
            refine lv_iconst (v := nI 1) hx hb dX5_store_54 (by decide) ?_
            refine q_icmp_eq hx hb (tgt := 62) (nI_eq (by omega) (by omega)) dX5_store_55 (by decide) (fun c_55 => ?_) (fun c_55 => ?_)
            · exact absurd hbad (fun q => q.elim (fun z => z c_36) (fun q => q.elim (fun z => z c_45) (fun z => z c_55)))
            · refine lv_iconst (v := nI 2) hx hb dX5_store_58 (by decide) ?_
              refine lv_goto (tgt := 63) hx hb dX5_store_59 (by decide) ?_
              refine va_put (D := D) (ci := 4) (v := .int (nI 2)) (ty := .int) (C := RX5) (T := TX5) (N := 20) hx hb hts in_X5_store_X5 tyX5 tyX5_ok nmX5 hown hK hP hD hS 0 rfl rfl 0 (by decide) (hts _ lk_X5_store_67) (fun _ h9 => h9) rfl (by decide +kernel) rfl rfl (Nat.le_of_ble_eq_true rfl) dX5_store_63 (fun H locs hP hD hS => ?_)
              have hP : va_P D vwCl (WM ad cI cZ (sU τ 0 0 2)) H := hP
              have hD : va_D A (WM ad cI cZ (sU τ 0 0 2)) := hD
              refine lv_aload_n hx hb dX5_store_66 rfl (lv_at hl 0 rfl) ?_
              refine va_get (D := D) (ci := 4) (v := .int (nI 2)) (C := RX5) (T := TX5) (N := 20) hx hb hts in_X5_store_X5 hown hK hP 0 rfl rfl 0 (by decide) (hts _ lk_X5_store_67) (fun _ h9 => h9) rfl dX5_store_67 ?_
              refine q_if_ne hx hb (tgt := 84) (nI_z (by omega)) dX5_store_70 (by decide) (fun c_70 => ?_) (fun c_70 => ?_)
              · refine lv_iconst (v := nI 0) hx hb dX5_store_84 (by decide) ?_
                exact W.iret (v := nI 0) hx hb hr (fun t ht hW => ⟨⟨_, (sU τ 0 0 2), rfl, (⟨rfl, rfl⟩), Wm.go hP hK hD ht hW⟩, hS.F ht⟩) hS.2.2 dX5_store_85
              · exact absurd c_70 (by decide)
      · cases c_22
def rX5_store_o1 : Room := { frames := 1, cells := 0, slots := 0, locals := 21 }
set_option maxHeartbeats 4000000 in
set_option maxRecDepth 100000 in
theorem c_X5_store_o1 (l : Launch) (D : va_G) (cI cZ : ClassId) (A : Nat → Prop) (ad : Nat → Nat) (τ : Nat → Nat → Nat) (a : Int32) (i : Int32) (e1 : Int32) (hc : 7 ≤ τ 0 1 ∧ τ 0 1 ≤ 24) (hxo : a < 0 ∨ nI (τ 0 1) ≤ a) : Met l yX5_store wsX5_store rX5_store_o1 (va_Pc [.ref (ad 0), .int a, .int i, .int e1] (Wm D cI cZ A ad τ)) (va_Qi (fun r u => r = nI 0 ∧ u = sU τ 0 0 1) (fun u t => Wm D cI cZ A ad u t) A) 0 0 A := by
  refine Met.ofW (cc := cX5_store) (maxL := 4) (ret := (some .int)) (by decide) rfl ?_
  intro p e s m args below meth c s₁ B hml hv
  obtain ⟨rfl, hP, hK, hD⟩ := hv
  have hx := B.exec
  have hb := B.bytes
  have hr := B.returns
  have hts := atoms_spec (ws := wsX5_store) B.pre
  have hown : s.vm.findClass RX5 = some m.cls := findClass_of_methodNamed B.named
  have hlocks := B.notSynchronized
  have hS : va_S A s.heap s.heap [] := va_S.rf
  have hl := lv_entry ([.ref (ad 0), .int a, .int i, .int e1]) (n := 4) (Nat.le_of_ble_eq_true rfl)
  rw [lg_entry_eq]
  generalize (lg_sl ([.ref (ad 0), .int a, .int i, .int e1]) ++ List.replicate (4 - (lg_sl ([.ref (ad 0), .int a, .int i, .int e1])).length) Slot.unset).toArray = ls at hl ⊢
  have hl : lv_has ls 4 [(0, .ref (ad 0)), (1, .int a), (2, .int i), (3, .int e1)] := hl
  refine lv_aload_n hx hb dX5_store_0 rfl (lv_at hl 0 rfl) ?_
  refine lv_aload_n hx hb dX5_store_1 rfl (lv_at hl 0 rfl) ?_
  refine lv_iload_n hx hb dX5_store_2 rfl (lv_at hl 1 rfl) ?_
  refine vp_callSi (va_Run.run (va_runV (As := [.int a]) (rest := [.ref (ad 0)]) ⟨hx, hb, hml, hown, hts⟩ (c_X5_isTerm_out l D cI cZ A ad τ a hxo) (cwV 1 hts gX5_store_X5_isTerm rfl rfl rfl (by decide +kernel) ⟨Nat.le_of_ble_eq_true rfl, Nat.le_of_ble_eq_true rfl⟩) ⟨Wm.blind, va_recv hK hP (ci := 4) (q0 := 0) rfl rfl, fun U hU hW => ⟨rfl, Wm.go hP hK hD hU hW⟩⟩ rfl rfl hl.1 rfl (lv_room (Nat.le_of_ble_eq_true rfl)) dX5_store_3 ⟨Nat.zero_le _, Nat.zero_le _⟩)) (fun r_1 hr_1 => ?_)
  refine n_to (w := bI false) (hr_1.trans rfl) ?_
  refine q_if_eq hx hb (tgt := 25) (bI_z) dX5_store_6 (by decide) (fun c_6 => ?_) (fun c_6 => ?_)
  · refine lv_iconst (v := nI 1) hx hb dX5_store_25 (by decide) ?_
    refine lv_goto (tgt := 63) hx hb dX5_store_26 (by decide) ?_
    refine va_put (D := D) (ci := 4) (v := .int (nI 1)) (ty := .int) (C := RX5) (T := TX5) (N := 20) hx hb hts in_X5_store_X5 tyX5 tyX5_ok nmX5 hown hK hP hD hS 0 rfl rfl 0 (by decide) (hts _ lk_X5_store_67) (fun _ h9 => h9) rfl (by decide +kernel) rfl rfl (Nat.le_of_ble_eq_true rfl) dX5_store_63 (fun H locs hP hD hS => ?_)
    have hP : va_P D vwCl (WM ad cI cZ (sU τ 0 0 1)) H := hP
    have hD : va_D A (WM ad cI cZ (sU τ 0 0 1)) := hD
    refine lv_aload_n hx hb dX5_store_66 rfl (lv_at hl 0 rfl) ?_
    refine va_get (D := D) (ci := 4) (v := .int (nI 1)) (C := RX5) (T := TX5) (N := 20) hx hb hts in_X5_store_X5 hown hK hP 0 rfl rfl 0 (by decide) (hts _ lk_X5_store_67) (fun _ h9 => h9) rfl dX5_store_67 ?_
    refine q_if_ne hx hb (tgt := 84) (nI_z (by omega)) dX5_store_70 (by decide) (fun c_70 => ?_) (fun c_70 => ?_)
    · refine lv_iconst (v := nI 0) hx hb dX5_store_84 (by decide) ?_
      exact W.iret (v := nI 0) hx hb hr (fun t ht hW => ⟨⟨_, (sU τ 0 0 1), rfl, (⟨rfl, rfl⟩), Wm.go hP hK hD ht hW⟩, hS.F ht⟩) hS.2.2 dX5_store_85
    · exact absurd c_70 (by decide)
  · exact absurd rfl c_6
def rX5_store_o2 : Room := { frames := 1, cells := 0, slots := 0, locals := 21 }
set_option maxHeartbeats 4000000 in
set_option maxRecDepth 100000 in
theorem c_X5_store_o2 (l : Launch) (D : va_G) (cI cZ : ClassId) (A : Nat → Prop) (ad : Nat → Nat) (τ : Nat → Nat → Nat) (a : Nat) (i : Int32) (e1 : Int32) (hc : 7 ≤ τ 0 1 ∧ τ 0 1 ≤ 24) (ha : a < τ 0 1) (hxo : i < 0 ∨ nI (τ 0 1) ≤ i) : Met l yX5_store wsX5_store rX5_store_o2 (va_Pc [.ref (ad 0), .int (nI a), .int i, .int e1] (Wm D cI cZ A ad τ)) (va_Qi (fun r u => r = nI 0 ∧ u = sU τ 0 0 1) (fun u t => Wm D cI cZ A ad u t) A) 0 0 A := by
  refine Met.ofW (cc := cX5_store) (maxL := 4) (ret := (some .int)) (by decide) rfl ?_
  intro p e s m args below meth c s₁ B hml hv
  obtain ⟨rfl, hP, hK, hD⟩ := hv
  have hx := B.exec
  have hb := B.bytes
  have hr := B.returns
  have hts := atoms_spec (ws := wsX5_store) B.pre
  have hown : s.vm.findClass RX5 = some m.cls := findClass_of_methodNamed B.named
  have hlocks := B.notSynchronized
  have hS : va_S A s.heap s.heap [] := va_S.rf
  have hl := lv_entry ([.ref (ad 0), .int (nI a), .int i, .int e1]) (n := 4) (Nat.le_of_ble_eq_true rfl)
  rw [lg_entry_eq]
  generalize (lg_sl ([.ref (ad 0), .int (nI a), .int i, .int e1]) ++ List.replicate (4 - (lg_sl ([.ref (ad 0), .int (nI a), .int i, .int e1])).length) Slot.unset).toArray = ls at hl ⊢
  have hl : lv_has ls 4 [(0, .ref (ad 0)), (1, .int (nI a)), (2, .int i), (3, .int e1)] := hl
  refine lv_aload_n hx hb dX5_store_0 rfl (lv_at hl 0 rfl) ?_
  refine lv_aload_n hx hb dX5_store_1 rfl (lv_at hl 0 rfl) ?_
  refine lv_iload_n hx hb dX5_store_2 rfl (lv_at hl 1 rfl) ?_
  refine vp_callSi (va_Run.run (va_runV (As := [.int (nI a)]) (rest := [.ref (ad 0)]) ⟨hx, hb, hml, hown, hts⟩ (c_X5_isTerm_in l D cI cZ A ad τ a ha hc.2) (cwV 1 hts gX5_store_X5_isTerm rfl rfl rfl (by decide +kernel) ⟨Nat.le_of_ble_eq_true rfl, Nat.le_of_ble_eq_true rfl⟩) ⟨Wm.blind, va_recv hK hP (ci := 4) (q0 := 0) rfl rfl, fun U hU hW => ⟨rfl, Wm.go hP hK hD hU hW⟩⟩ rfl rfl hl.1 rfl (lv_room (Nat.le_of_ble_eq_true rfl)) dX5_store_3 ⟨Nat.zero_le _, Nat.zero_le _⟩)) (fun r_1 hr_1 => ?_)
  refine n_to (w := bI true) (hr_1.trans rfl) ?_
  refine q_if_eq hx hb (tgt := 25) (bI_z) dX5_store_6 (by decide) (fun c_6 => ?_) (fun c_6 => ?_)
  · cases c_6
  · refine lv_aload_n hx hb dX5_store_9 rfl (lv_at hl 0 rfl) ?_
    refine lv_iload_n hx hb dX5_store_10 rfl (lv_at hl 2 rfl) ?_
    refine vp_callSi (va_Run.run (va_runV (As := [.int i]) (rest := [.ref (ad 0)]) ⟨hx, hb, hml, hown, hts⟩ (c_X5_isTerm_out l D cI cZ A ad τ i hxo) (cwV 1 hts gX5_store_X5_isTerm rfl rfl rfl (by decide +kernel) ⟨Nat.le_of_ble_eq_true rfl, Nat.le_of_ble_eq_true rfl⟩) ⟨Wm.blind, va_recv hK hP (ci := 4) (q0 := 0) rfl rfl, fun U hU hW => ⟨rfl, Wm.go hP hK hD hU hW⟩⟩ rfl rfl hl.1 rfl (lv_room (Nat.le_of_ble_eq_true rfl)) dX5_store_11 ⟨Nat.zero_le _, Nat.zero_le _⟩)) (fun r_2 hr_2 => ?_)
    refine n_to (w := bI false) (hr_2.trans rfl) ?_
    refine q_if_eq hx hb (tgt := 25) (bI_z) dX5_store_14 (by decide) (fun c_14 => ?_) (fun c_14 => ?_)
    · refine lv_iconst (v := nI 1) hx hb dX5_store_25 (by decide) ?_
      refine lv_goto (tgt := 63) hx hb dX5_store_26 (by decide) ?_
      refine va_put (D := D) (ci := 4) (v := .int (nI 1)) (ty := .int) (C := RX5) (T := TX5) (N := 20) hx hb hts in_X5_store_X5 tyX5 tyX5_ok nmX5 hown hK hP hD hS 0 rfl rfl 0 (by decide) (hts _ lk_X5_store_67) (fun _ h9 => h9) rfl (by decide +kernel) rfl rfl (Nat.le_of_ble_eq_true rfl) dX5_store_63 (fun H locs hP hD hS => ?_)
      have hP : va_P D vwCl (WM ad cI cZ (sU τ 0 0 1)) H := hP
      have hD : va_D A (WM ad cI cZ (sU τ 0 0 1)) := hD
      refine lv_aload_n hx hb dX5_store_66 rfl (lv_at hl 0 rfl) ?_
      refine va_get (D := D) (ci := 4) (v := .int (nI 1)) (C := RX5) (T := TX5) (N := 20) hx hb hts in_X5_store_X5 hown hK hP 0 rfl rfl 0 (by decide) (hts _ lk_X5_store_67) (fun _ h9 => h9) rfl dX5_store_67 ?_
      refine q_if_ne hx hb (tgt := 84) (nI_z (by omega)) dX5_store_70 (by decide) (fun c_70 => ?_) (fun c_70 => ?_)
      · refine lv_iconst (v := nI 0) hx hb dX5_store_84 (by decide) ?_
        exact W.iret (v := nI 0) hx hb hr (fun t ht hW => ⟨⟨_, (sU τ 0 0 1), rfl, (⟨rfl, rfl⟩), Wm.go hP hK hD ht hW⟩, hS.F ht⟩) hS.2.2 dX5_store_85
      · exact absurd c_70 (by decide)
    · exact absurd rfl c_14
def rX5_store_o3 : Room := { frames := 1, cells := 0, slots := 0, locals := 21 }
set_option maxHeartbeats 4000000 in
set_option maxRecDepth 100000 in
theorem c_X5_store_o3 (l : Launch) (D : va_G) (cI cZ : ClassId) (A : Nat → Prop) (ad : Nat → Nat) (τ : Nat → Nat → Nat) (a : Nat) (i : Nat) (e1 : Int32) (hc : 7 ≤ τ 0 1 ∧ τ 0 1 ≤ 24) (ha : a < τ 0 1) (hi : i < τ 0 1) (hxo : e1 < 0 ∨ nI (τ 0 1) ≤ e1) : Met l yX5_store wsX5_store rX5_store_o3 (va_Pc [.ref (ad 0), .int (nI a), .int (nI i), .int e1] (Wm D cI cZ A ad τ)) (va_Qi (fun r u => r = nI 0 ∧ u = sU τ 0 0 1) (fun u t => Wm D cI cZ A ad u t) A) 0 0 A := by
  refine Met.ofW (cc := cX5_store) (maxL := 4) (ret := (some .int)) (by decide) rfl ?_
  intro p e s m args below meth c s₁ B hml hv
  obtain ⟨rfl, hP, hK, hD⟩ := hv
  have hx := B.exec
  have hb := B.bytes
  have hr := B.returns
  have hts := atoms_spec (ws := wsX5_store) B.pre
  have hown : s.vm.findClass RX5 = some m.cls := findClass_of_methodNamed B.named
  have hlocks := B.notSynchronized
  have hS : va_S A s.heap s.heap [] := va_S.rf
  have hl := lv_entry ([.ref (ad 0), .int (nI a), .int (nI i), .int e1]) (n := 4) (Nat.le_of_ble_eq_true rfl)
  rw [lg_entry_eq]
  generalize (lg_sl ([.ref (ad 0), .int (nI a), .int (nI i), .int e1]) ++ List.replicate (4 - (lg_sl ([.ref (ad 0), .int (nI a), .int (nI i), .int e1])).length) Slot.unset).toArray = ls at hl ⊢
  have hl : lv_has ls 4 [(0, .ref (ad 0)), (1, .int (nI a)), (2, .int (nI i)), (3, .int e1)] := hl
  refine lv_aload_n hx hb dX5_store_0 rfl (lv_at hl 0 rfl) ?_
  refine lv_aload_n hx hb dX5_store_1 rfl (lv_at hl 0 rfl) ?_
  refine lv_iload_n hx hb dX5_store_2 rfl (lv_at hl 1 rfl) ?_
  refine vp_callSi (va_Run.run (va_runV (As := [.int (nI a)]) (rest := [.ref (ad 0)]) ⟨hx, hb, hml, hown, hts⟩ (c_X5_isTerm_in l D cI cZ A ad τ a ha hc.2) (cwV 1 hts gX5_store_X5_isTerm rfl rfl rfl (by decide +kernel) ⟨Nat.le_of_ble_eq_true rfl, Nat.le_of_ble_eq_true rfl⟩) ⟨Wm.blind, va_recv hK hP (ci := 4) (q0 := 0) rfl rfl, fun U hU hW => ⟨rfl, Wm.go hP hK hD hU hW⟩⟩ rfl rfl hl.1 rfl (lv_room (Nat.le_of_ble_eq_true rfl)) dX5_store_3 ⟨Nat.zero_le _, Nat.zero_le _⟩)) (fun r_1 hr_1 => ?_)
  refine n_to (w := bI true) (hr_1.trans rfl) ?_
  refine q_if_eq hx hb (tgt := 25) (bI_z) dX5_store_6 (by decide) (fun c_6 => ?_) (fun c_6 => ?_)
  · cases c_6
  · refine lv_aload_n hx hb dX5_store_9 rfl (lv_at hl 0 rfl) ?_
    refine lv_iload_n hx hb dX5_store_10 rfl (lv_at hl 2 rfl) ?_
    refine vp_callSi (va_Run.run (va_runV (As := [.int (nI i)]) (rest := [.ref (ad 0)]) ⟨hx, hb, hml, hown, hts⟩ (c_X5_isTerm_in l D cI cZ A ad τ i hi hc.2) (cwV 1 hts gX5_store_X5_isTerm rfl rfl rfl (by decide +kernel) ⟨Nat.le_of_ble_eq_true rfl, Nat.le_of_ble_eq_true rfl⟩) ⟨Wm.blind, va_recv hK hP (ci := 4) (q0 := 0) rfl rfl, fun U hU hW => ⟨rfl, Wm.go hP hK hD hU hW⟩⟩ rfl rfl hl.1 rfl (lv_room (Nat.le_of_ble_eq_true rfl)) dX5_store_11 ⟨Nat.zero_le _, Nat.zero_le _⟩)) (fun r_2 hr_2 => ?_)
    refine n_to (w := bI true) (hr_2.trans rfl) ?_
    refine q_if_eq hx hb (tgt := 25) (bI_z) dX5_store_14 (by decide) (fun c_14 => ?_) (fun c_14 => ?_)
    · cases c_14
    · refine lv_aload_n hx hb dX5_store_17 rfl (lv_at hl 0 rfl) ?_
      refine lv_iload_n hx hb dX5_store_18 rfl (lv_at hl 3 rfl) ?_
      refine vp_callSi (va_Run.run (va_runV (As := [.int e1]) (rest := [.ref (ad 0)]) ⟨hx, hb, hml, hown, hts⟩ (c_X5_isTerm_out l D cI cZ A ad τ e1 hxo) (cwV 1 hts gX5_store_X5_isTerm rfl rfl rfl (by decide +kernel) ⟨Nat.le_of_ble_eq_true rfl, Nat.le_of_ble_eq_true rfl⟩) ⟨Wm.blind, va_recv hK hP (ci := 4) (q0 := 0) rfl rfl, fun U hU hW => ⟨rfl, Wm.go hP hK hD hU hW⟩⟩ rfl rfl hl.1 rfl (lv_room (Nat.le_of_ble_eq_true rfl)) dX5_store_19 ⟨Nat.zero_le _, Nat.zero_le _⟩)) (fun r_3 hr_3 => ?_)
      refine n_to (w := bI false) (hr_3.trans rfl) ?_
      refine q_if_ne hx hb (tgt := 29) (bI_z) dX5_store_22 (by decide) (fun c_22 => ?_) (fun c_22 => ?_)
      · exact absurd rfl c_22
      · refine lv_iconst (v := nI 1) hx hb dX5_store_25 (by decide) ?_
        refine lv_goto (tgt := 63) hx hb dX5_store_26 (by decide) ?_
        refine va_put (D := D) (ci := 4) (v := .int (nI 1)) (ty := .int) (C := RX5) (T := TX5) (N := 20) hx hb hts in_X5_store_X5 tyX5 tyX5_ok nmX5 hown hK hP hD hS 0 rfl rfl 0 (by decide) (hts _ lk_X5_store_67) (fun _ h9 => h9) rfl (by decide +kernel) rfl rfl (Nat.le_of_ble_eq_true rfl) dX5_store_63 (fun H locs hP hD hS => ?_)
        have hP : va_P D vwCl (WM ad cI cZ (sU τ 0 0 1)) H := hP
        have hD : va_D A (WM ad cI cZ (sU τ 0 0 1)) := hD
        refine lv_aload_n hx hb dX5_store_66 rfl (lv_at hl 0 rfl) ?_
        refine va_get (D := D) (ci := 4) (v := .int (nI 1)) (C := RX5) (T := TX5) (N := 20) hx hb hts in_X5_store_X5 hown hK hP 0 rfl rfl 0 (by decide) (hts _ lk_X5_store_67) (fun _ h9 => h9) rfl dX5_store_67 ?_
        refine q_if_ne hx hb (tgt := 84) (nI_z (by omega)) dX5_store_70 (by decide) (fun c_70 => ?_) (fun c_70 => ?_)
        · refine lv_iconst (v := nI 0) hx hb dX5_store_84 (by decide) ?_
          exact W.iret (v := nI 0) hx hb hr (fun t ht hW => ⟨⟨_, (sU τ 0 0 1), rfl, (⟨rfl, rfl⟩), Wm.go hP hK hD ht hW⟩, hS.F ht⟩) hS.2.2 dX5_store_85
        · exact absurd c_70 (by decide)
theorem in_X5_literal_X5 : ∀ w ∈ wsX50, w ∈ wsX5_literal := by decide +kernel
theorem lk_X5_literal_13 : Cond.fieldLink RX5 13 "ArrayClaimsModel" "sort" "[I" ∈ wsX5_literal := by decide +kernel
theorem lk_X5_literal_102 : Cond.fieldLink RX5 102 "ArrayClaimsModel" "literals" "I" ∈ wsX5_literal := by decide +kernel
theorem lk_X5_literal_67 : Cond.fieldLink RX5 67 "ArrayClaimsModel" "thrown" "I" ∈ wsX5_literal := by decide +kernel
theorem lk_X5_literal_53 : Cond.fieldLink RX5 53 "ArrayClaimsModel" "left" "[I" ∈ wsX5_literal := by decide +kernel
theorem lk_X5_literal_56 : Cond.fieldLink RX5 56 "ArrayClaimsModel" "right" "[I" ∈ wsX5_literal := by decide +kernel
theorem lk_X5_literal_59 : Cond.fieldLink RX5 59 "ArrayClaimsModel" "alike" "[Z" ∈ wsX5_literal := by decide +kernel
def rX5_literal_ok : Room := { frames := 1, cells := 0, slots := 0, locals := 21 }
set_option maxHeartbeats 4000000 in
set_option maxRecDepth 100000 in
theorem c_X5_literal_ok (l : Launch) (D : va_G) (cI cZ : ClassId) (A : Nat → Prop) (ad : Nat → Nat) (τ : Nat → Nat → Nat) (t1 u1 : Nat) (b : Bool) (hI : IM τ) (ht : t1 < τ 0 1) (hu : u1 < τ 0 1) (hsu : τ 2 t1 = τ 2 u1) (hl3 : τ 0 16 ≠ 3) : Met l yX5_literal wsX5_literal rX5_literal_ok (va_Pc [.ref (ad 0), .int (nI t1), .int (nI u1), .int (bI b)] (Wm D cI cZ A ad τ)) (va_Qi (fun r u => r = nI (τ 0 16 + 1) ∧ u = sU (sU (sU (sU (sU τ 0 0 0) 17 (τ 0 16) t1) 18 (τ 0 16) u1) 19 (τ 0 16) (bN b)) 0 16 (τ 0 16 + 1)) (fun u t => Wm D cI cZ A ad u t) A) 0 0 A := by
  refine Met.ofW (cc := cX5_literal) (maxL := 4) (ret := (some .int)) (by decide) rfl ?_
  intro p e s m args below meth c s₁ B hml hv
  obtain ⟨rfl, hP, hK, hD⟩ := hv
  have hx := B.exec
  have hb := B.bytes
  have hr := B.returns
  have hts := atoms_spec (ws := wsX5_literal) B.pre
  have hown : s.vm.findClass RX5 = some m.cls := findClass_of_methodNamed B.named
  have hlocks := B.notSynchronized
  have hS : va_S A s.heap s.heap [] := va_S.rf
  have hl := lv_entry ([.ref (ad 0), .int (nI t1), .int (nI u1), .int (bI b)]) (n := 4) (Nat.le_of_ble_eq_true rfl)
  rw [lg_entry_eq]
  generalize (lg_sl ([.ref (ad 0), .int (nI t1), .int (nI u1), .int (bI b)]) ++ List.replicate (4 - (lg_sl ([.ref (ad 0), .int (nI t1), .int (nI u1), .int (bI b)])).length) Slot.unset).toArray = ls at hl ⊢
  have hl : lv_has ls 4 [(0, .ref (ad 0)), (1, .int (nI t1)), (2, .int (nI u1)), (3, .int (bI b))] := hl
  have hc := hI.terms
  have hs1 := hI.sorts (j := t1) (by omega)
  have hs2 := hI.sorts (j := u1) (by omega)
  have hli := hI.lits
  refine lv_aload_n hx hb dX5_literal_0 rfl (lv_at hl 0 rfl) ?_
  refine lv_aload_n hx hb dX5_literal_1 rfl (lv_at hl 0 rfl) ?_
  refine lv_iload_n hx hb dX5_literal_2 rfl (lv_at hl 1 rfl) ?_
  refine vp_callSi (va_Run.run (va_runV (As := [.int (nI t1)]) (rest := [.ref (ad 0)]) ⟨hx, hb, hml, hown, hts⟩ (c_X5_isTerm_in l D cI cZ A ad τ t1 ht hc.2) (cwV 1 hts gX5_literal_X5_isTerm rfl rfl rfl (by decide +kernel) ⟨Nat.le_of_ble_eq_true rfl, Nat.le_of_ble_eq_true rfl⟩) ⟨Wm.blind, va_recv hK hP (ci := 4) (q0 := 0) rfl rfl, fun U hU hW => ⟨rfl, Wm.go hP hK hD hU hW⟩⟩ rfl rfl hl.1 rfl (lv_room (Nat.le_of_ble_eq_true rfl)) dX5_literal_3 ⟨Nat.zero_le _, Nat.zero_le _⟩)) (fun r_1 hr_1 => ?_)
  refine n_to (w := bI true) (hr_1.trans rfl) ?_
  refine q_if_eq hx hb (tgt := 17) (bI_z) dX5_literal_6 (by decide) (fun c_6 => ?_) (fun c_6 => ?_)
  · cases c_6
  · refine lv_aload_n hx hb dX5_literal_9 rfl (lv_at hl 0 rfl) ?_
    refine lv_iload_n hx hb dX5_literal_10 rfl (lv_at hl 2 rfl) ?_
    refine vp_callSi (va_Run.run (va_runV (As := [.int (nI u1)]) (rest := [.ref (ad 0)]) ⟨hx, hb, hml, hown, hts⟩ (c_X5_isTerm_in l D cI cZ A ad τ u1 hu hc.2) (cwV 1 hts gX5_literal_X5_isTerm rfl rfl rfl (by decide +kernel) ⟨Nat.le_of_ble_eq_true rfl, Nat.le_of_ble_eq_true rfl⟩) ⟨Wm.blind, va_recv hK hP (ci := 4) (q0 := 0) rfl rfl, fun U hU hW => ⟨rfl, Wm.go hP hK hD hU hW⟩⟩ rfl rfl hl.1 rfl (lv_room (Nat.le_of_ble_eq_true rfl)) dX5_literal_11 ⟨Nat.zero_le _, Nat.zero_le _⟩)) (fun r_2 hr_2 => ?_)
    refine n_to (w := bI true) (hr_2.trans rfl) ?_
    refine q_if_ne hx hb (tgt := 21) (bI_z) dX5_literal_14 (by decide) (fun c_14 => ?_) (fun c_14 => ?_)
    · refine lv_aload_n hx hb dX5_literal_21 rfl (lv_at hl 0 rfl) ?_
      refine va_get (D := D) (ci := 4) (v := .ref (ad 2)) (C := RX5) (T := TX5) (N := 20) hx hb hts in_X5_literal_X5 hown hK hP 0 rfl rfl 2 (by decide) (hts _ lk_X5_literal_13) (fun _ h9 => h9) rfl dX5_literal_22 ?_
      refine lv_iload_n hx hb dX5_literal_25 rfl (lv_at hl 1 rfl) ?_
      refine n_ald hx hb hK hP 1 0 rfl rfl (i := t1) (by omega) (by decide) (v := nI (τ 2 t1)) rfl dX5_literal_26 ?_
      refine lv_aload_n hx hb dX5_literal_27 rfl (lv_at hl 0 rfl) ?_
      refine va_get (D := D) (ci := 4) (v := .ref (ad 2)) (C := RX5) (T := TX5) (N := 20) hx hb hts in_X5_literal_X5 hown hK hP 0 rfl rfl 2 (by decide) (hts _ lk_X5_literal_13) (fun _ h9 => h9) rfl dX5_literal_28 ?_
      refine lv_iload_n hx hb dX5_literal_31 rfl (lv_at hl 2 rfl) ?_
      refine n_ald hx hb hK hP 1 0 rfl rfl (i := u1) (by omega) (by decide) (v := nI (τ 2 u1)) rfl dX5_literal_32 ?_
      refine q_icmp_eq hx hb (tgt := 40) (nI_eq (by omega) (by omega)) dX5_literal_33 (by decide) (fun c_33 => ?_) (fun c_33 => ?_)
      · refine lv_aload_n hx hb dX5_literal_40 rfl (lv_at hl 0 rfl) ?_
        refine va_get (D := D) (ci := 4) (v := .int (nI (τ 0 16))) (C := RX5) (T := TX5) (N := 20) hx hb hts in_X5_literal_X5 hown hK hP 0 rfl rfl 16 (by decide) (hts _ lk_X5_literal_102) (fun _ h9 => h9) rfl dX5_literal_41 ?_
        refine lv_iconst (v := nI 3) hx hb dX5_literal_44 (by decide) ?_
        refine q_icmp_ne hx hb (tgt := 52) (nI_eq (by omega) (by omega)) dX5_literal_45 (by decide) (fun c_45 => ?_) (fun c_45 => ?_)
        · refine lv_iconst (v := nI 0) hx hb dX5_literal_52 (by decide) ?_
          refine va_put (D := D) (ci := 4) (v := .int (nI 0)) (ty := .int) (C := RX5) (T := TX5) (N := 20) hx hb hts in_X5_literal_X5 tyX5 tyX5_ok nmX5 hown hK hP hD hS 0 rfl rfl 0 (by decide) (hts _ lk_X5_literal_67) (fun _ h9 => h9) rfl (by decide +kernel) rfl rfl (Nat.le_of_ble_eq_true rfl) dX5_literal_53 (fun H locs hP hD hS => ?_)
          have hP : va_P D vwCl (WM ad cI cZ (sU τ 0 0 0)) H := hP
          have hD : va_D A (WM ad cI cZ (sU τ 0 0 0)) := hD
          refine lv_aload_n hx hb dX5_literal_56 rfl (lv_at hl 0 rfl) ?_
          refine va_get (D := D) (ci := 4) (v := .int (nI 0)) (C := RX5) (T := TX5) (N := 20) hx hb hts in_X5_literal_X5 hown hK hP 0 rfl rfl 0 (by decide) (hts _ lk_X5_literal_67) (fun _ h9 => h9) rfl dX5_literal_57 ?_
          refine q_if_le hx hb (tgt := 65) (nI_le0 (by omega)) dX5_literal_60 (by decide) (fun c_60 => ?_) (fun c_60 => ?_)
          · refine lv_aload_n hx hb dX5_literal_65 rfl (lv_at hl 0 rfl) ?_
            refine va_get (D := D) (ci := 4) (v := .ref (ad 17)) (C := RX5) (T := TX5) (N := 20) hx hb hts in_X5_literal_X5 hown hK hP 0 rfl rfl 17 (by decide) (hts _ lk_X5_literal_53) (fun _ h9 => h9) rfl dX5_literal_66 ?_
            refine lv_aload_n hx hb dX5_literal_69 rfl (lv_at hl 0 rfl) ?_
            refine va_get (D := D) (ci := 4) (v := .int (nI (τ 0 16))) (C := RX5) (T := TX5) (N := 20) hx hb hts in_X5_literal_X5 hown hK hP 0 rfl rfl 16 (by decide) (hts _ lk_X5_literal_102) (fun _ h9 => h9) rfl dX5_literal_70 ?_
            refine lv_iload_n hx hb dX5_literal_73 rfl (lv_at hl 1 rfl) ?_
            refine n_ast (ws' := WM ad cI cZ (sU (sU τ 0 0 0) 17 (τ 0 16) t1)) hx hb hK hP hD hS 14 0 rfl rfl (i := τ 0 16) (by omega) (by decide) (WMs17 ..) dX5_literal_74 (fun H locs hP hD hS => ?_)
            refine lv_aload_n hx hb dX5_literal_75 rfl (lv_at hl 0 rfl) ?_
            refine va_get (D := D) (ci := 4) (v := .ref (ad 18)) (C := RX5) (T := TX5) (N := 20) hx hb hts in_X5_literal_X5 hown hK hP 0 rfl rfl 18 (by decide) (hts _ lk_X5_literal_56) (fun _ h9 => h9) rfl dX5_literal_76 ?_
            refine lv_aload_n hx hb dX5_literal_79 rfl (lv_at hl 0 rfl) ?_
            refine va_get (D := D) (ci := 4) (v := .int (nI (τ 0 16))) (C := RX5) (T := TX5) (N := 20) hx hb hts in_X5_literal_X5 hown hK hP 0 rfl rfl 16 (by decide) (hts _ lk_X5_literal_102) (fun _ h9 => h9) rfl dX5_literal_80 ?_
            refine lv_iload_n hx hb dX5_literal_83 rfl (lv_at hl 2 rfl) ?_
            refine n_ast (ws' := WM ad cI cZ (sU (sU (sU τ 0 0 0) 17 (τ 0 16) t1) 18 (τ 0 16) u1)) hx hb hK hP hD hS 15 0 rfl rfl (i := τ 0 16) (by omega) (by decide) (WMs18 ..) dX5_literal_84 (fun H locs hP hD hS => ?_)
            refine lv_aload_n hx hb dX5_literal_85 rfl (lv_at hl 0 rfl) ?_
            refine va_get (D := D) (ci := 4) (v := .ref (ad 19)) (C := RX5) (T := TX5) (N := 20) hx hb hts in_X5_literal_X5 hown hK hP 0 rfl rfl 19 (by decide) (hts _ lk_X5_literal_59) (fun _ h9 => h9) rfl dX5_literal_86 ?_
            refine lv_aload_n hx hb dX5_literal_89 rfl (lv_at hl 0 rfl) ?_
            refine va_get (D := D) (ci := 4) (v := .int (nI (τ 0 16))) (C := RX5) (T := TX5) (N := 20) hx hb hts in_X5_literal_X5 hown hK hP 0 rfl rfl 16 (by decide) (hts _ lk_X5_literal_102) (fun _ h9 => h9) rfl dX5_literal_90 ?_
            refine lv_iload_n hx hb dX5_literal_93 rfl (lv_at hl 3 rfl) ?_
            refine n_to (bI_n _) ?_
            refine n_zst (ws' := WM ad cI cZ (sU (sU (sU (sU τ 0 0 0) 17 (τ 0 16) t1) 18 (τ 0 16) u1) 19 (τ 0 16) (bN b))) hx hb hK hP hD hS 16 1 rfl rfl (i := τ 0 16) (by omega) (by decide) (bN_nar _) (WMs19 ..) dX5_literal_94 (fun H locs hP hD hS => ?_)
            refine lv_aload_n hx hb dX5_literal_95 rfl (lv_at hl 0 rfl) ?_
            refine lv_dup hx hb dX5_literal_96 rfl ?_
            refine va_get (D := D) (ci := 4) (v := .int (nI (τ 0 16))) (C := RX5) (T := TX5) (N := 20) hx hb hts in_X5_literal_X5 hown hK hP 0 rfl rfl 16 (by decide) (hts _ lk_X5_literal_102) (fun _ h9 => h9) rfl dX5_literal_97 ?_
            refine lv_iconst (v := nI 1) hx hb dX5_literal_100 (by decide) ?_
            refine n_add hx hb dX5_literal_101 ?_
            refine va_put (D := D) (ci := 4) (v := .int (nI ((τ 0 16) + 1))) (ty := .int) (C := RX5) (T := TX5) (N := 20) hx hb hts in_X5_literal_X5 tyX5 tyX5_ok nmX5 hown hK hP hD hS 0 rfl rfl 16 (by decide) (hts _ lk_X5_literal_102) (fun _ h9 => h9) rfl (by decide +kernel) rfl rfl (Nat.le_of_ble_eq_true rfl) dX5_literal_102 (fun H locs hP hD hS => ?_)
            have hP : va_P D vwCl (WM ad cI cZ (sU (sU (sU (sU (sU τ 0 0 0) 17 (τ 0 16) t1) 18 (τ 0 16) u1) 19 (τ 0 16) (bN b)) 0 16 ((τ 0 16) + 1))) H := hP
            have hD : va_D A (WM ad cI cZ (sU (sU (sU (sU (sU τ 0 0 0) 17 (τ 0 16) t1) 18 (τ 0 16) u1) 19 (τ 0 16) (bN b)) 0 16 ((τ 0 16) + 1))) := hD
            refine lv_aload_n hx hb dX5_literal_105 rfl (lv_at hl 0 rfl) ?_
            refine va_get (D := D) (ci := 4) (v := .int (nI ((τ 0 16) + 1))) (C := RX5) (T := TX5) (N := 20) hx hb hts in_X5_literal_X5 hown hK hP 0 rfl rfl 16 (by decide) (hts _ lk_X5_literal_102) (fun _ h9 => h9) rfl dX5_literal_106 ?_
            exact W.iret (v := nI ((τ 0 16) + 1)) hx hb hr (fun t ht hW => ⟨⟨_, (sU (sU (sU (sU (sU τ 0 0 0) 17 (τ 0 16) t1) 18 (τ 0 16) u1) 19 (τ 0 16) (bN b)) 0 16 ((τ 0 16) + 1)), rfl, (⟨rfl, rfl⟩), Wm.go hP hK hD ht hW⟩, hS.F ht⟩) hS.2.2 dX5_literal_109
          · exact absurd c_60 (by decide)
        · exact absurd c_45 hl3
      · exact absurd hsu c_33
    · cases c_14
def rX5_literal_full : Room := { frames := 1, cells := 0, slots := 0, locals := 21 }
set_option maxHeartbeats 4000000 in
set_option maxRecDepth 100000 in
theorem c_X5_literal_full (l : Launch) (D : va_G) (cI cZ : ClassId) (A : Nat → Prop) (ad : Nat → Nat) (τ : Nat → Nat → Nat) (t1 u1 : Nat) (b : Bool) (hI : IM τ) (ht : t1 < τ 0 1) (hu : u1 < τ 0 1) (hsu : τ 2 t1 = τ 2 u1) (hl3 : τ 0 16 = 3) : Met l yX5_literal wsX5_literal rX5_literal_full (va_Pc [.ref (ad 0), .int (nI t1), .int (nI u1), .int (bI b)] (Wm D cI cZ A ad τ)) (va_Qi (fun r u => r = nI 0 ∧ u = sU τ 0 0 3) (fun u t => Wm D cI cZ A ad u t) A) 0 0 A := by
  refine Met.ofW (cc := cX5_literal) (maxL := 4) (ret := (some .int)) (by decide) rfl ?_
  intro p e s m args below meth c s₁ B hml hv
  obtain ⟨rfl, hP, hK, hD⟩ := hv
  have hx := B.exec
  have hb := B.bytes
  have hr := B.returns
  have hts := atoms_spec (ws := wsX5_literal) B.pre
  have hown : s.vm.findClass RX5 = some m.cls := findClass_of_methodNamed B.named
  have hlocks := B.notSynchronized
  have hS : va_S A s.heap s.heap [] := va_S.rf
  have hl := lv_entry ([.ref (ad 0), .int (nI t1), .int (nI u1), .int (bI b)]) (n := 4) (Nat.le_of_ble_eq_true rfl)
  rw [lg_entry_eq]
  generalize (lg_sl ([.ref (ad 0), .int (nI t1), .int (nI u1), .int (bI b)]) ++ List.replicate (4 - (lg_sl ([.ref (ad 0), .int (nI t1), .int (nI u1), .int (bI b)])).length) Slot.unset).toArray = ls at hl ⊢
  have hl : lv_has ls 4 [(0, .ref (ad 0)), (1, .int (nI t1)), (2, .int (nI u1)), (3, .int (bI b))] := hl
  have hc := hI.terms
  have hs1 := hI.sorts (j := t1) (by omega)
  have hs2 := hI.sorts (j := u1) (by omega)
  have hli := hI.lits
  refine lv_aload_n hx hb dX5_literal_0 rfl (lv_at hl 0 rfl) ?_
  refine lv_aload_n hx hb dX5_literal_1 rfl (lv_at hl 0 rfl) ?_
  refine lv_iload_n hx hb dX5_literal_2 rfl (lv_at hl 1 rfl) ?_
  refine vp_callSi (va_Run.run (va_runV (As := [.int (nI t1)]) (rest := [.ref (ad 0)]) ⟨hx, hb, hml, hown, hts⟩ (c_X5_isTerm_in l D cI cZ A ad τ t1 ht hc.2) (cwV 1 hts gX5_literal_X5_isTerm rfl rfl rfl (by decide +kernel) ⟨Nat.le_of_ble_eq_true rfl, Nat.le_of_ble_eq_true rfl⟩) ⟨Wm.blind, va_recv hK hP (ci := 4) (q0 := 0) rfl rfl, fun U hU hW => ⟨rfl, Wm.go hP hK hD hU hW⟩⟩ rfl rfl hl.1 rfl (lv_room (Nat.le_of_ble_eq_true rfl)) dX5_literal_3 ⟨Nat.zero_le _, Nat.zero_le _⟩)) (fun r_1 hr_1 => ?_)
  refine n_to (w := bI true) (hr_1.trans rfl) ?_
  refine q_if_eq hx hb (tgt := 17) (bI_z) dX5_literal_6 (by decide) (fun c_6 => ?_) (fun c_6 => ?_)
  · cases c_6
  · refine lv_aload_n hx hb dX5_literal_9 rfl (lv_at hl 0 rfl) ?_
    refine lv_iload_n hx hb dX5_literal_10 rfl (lv_at hl 2 rfl) ?_
    refine vp_callSi (va_Run.run (va_runV (As := [.int (nI u1)]) (rest := [.ref (ad 0)]) ⟨hx, hb, hml, hown, hts⟩ (c_X5_isTerm_in l D cI cZ A ad τ u1 hu hc.2) (cwV 1 hts gX5_literal_X5_isTerm rfl rfl rfl (by decide +kernel) ⟨Nat.le_of_ble_eq_true rfl, Nat.le_of_ble_eq_true rfl⟩) ⟨Wm.blind, va_recv hK hP (ci := 4) (q0 := 0) rfl rfl, fun U hU hW => ⟨rfl, Wm.go hP hK hD hU hW⟩⟩ rfl rfl hl.1 rfl (lv_room (Nat.le_of_ble_eq_true rfl)) dX5_literal_11 ⟨Nat.zero_le _, Nat.zero_le _⟩)) (fun r_2 hr_2 => ?_)
    refine n_to (w := bI true) (hr_2.trans rfl) ?_
    refine q_if_ne hx hb (tgt := 21) (bI_z) dX5_literal_14 (by decide) (fun c_14 => ?_) (fun c_14 => ?_)
    · refine lv_aload_n hx hb dX5_literal_21 rfl (lv_at hl 0 rfl) ?_
      refine va_get (D := D) (ci := 4) (v := .ref (ad 2)) (C := RX5) (T := TX5) (N := 20) hx hb hts in_X5_literal_X5 hown hK hP 0 rfl rfl 2 (by decide) (hts _ lk_X5_literal_13) (fun _ h9 => h9) rfl dX5_literal_22 ?_
      refine lv_iload_n hx hb dX5_literal_25 rfl (lv_at hl 1 rfl) ?_
      refine n_ald hx hb hK hP 1 0 rfl rfl (i := t1) (by omega) (by decide) (v := nI (τ 2 t1)) rfl dX5_literal_26 ?_
      refine lv_aload_n hx hb dX5_literal_27 rfl (lv_at hl 0 rfl) ?_
      refine va_get (D := D) (ci := 4) (v := .ref (ad 2)) (C := RX5) (T := TX5) (N := 20) hx hb hts in_X5_literal_X5 hown hK hP 0 rfl rfl 2 (by decide) (hts _ lk_X5_literal_13) (fun _ h9 => h9) rfl dX5_literal_28 ?_
      refine lv_iload_n hx hb dX5_literal_31 rfl (lv_at hl 2 rfl) ?_
      refine n_ald hx hb hK hP 1 0 rfl rfl (i := u1) (by omega) (by decide) (v := nI (τ 2 u1)) rfl dX5_literal_32 ?_
      refine q_icmp_eq hx hb (tgt := 40) (nI_eq (by omega) (by omega)) dX5_literal_33 (by decide) (fun c_33 => ?_) (fun c_33 => ?_)
      · refine lv_aload_n hx hb dX5_literal_40 rfl (lv_at hl 0 rfl) ?_
        refine va_get (D := D) (ci := 4) (v := .int (nI (τ 0 16))) (C := RX5) (T := TX5) (N := 20) hx hb hts in_X5_literal_X5 hown hK hP 0 rfl rfl 16 (by decide) (hts _ lk_X5_literal_102) (fun _ h9 => h9) rfl dX5_literal_41 ?_
        refine lv_iconst (v := nI 3) hx hb dX5_literal_44 (by decide) ?_
        refine q_icmp_ne hx hb (tgt := 52) (nI_eq (by omega) (by omega)) dX5_literal_45 (by decide) (fun c_45 => ?_) (fun c_45 => ?_)
        · exact absurd hl3 c_45
        · refine lv_iconst (v := nI 3) hx hb dX5_literal_48 (by decide) ?_
          refine lv_goto (tgt := 53) hx hb dX5_literal_49 (by decide) ?_
          refine va_put (D := D) (ci := 4) (v := .int (nI 3)) (ty := .int) (C := RX5) (T := TX5) (N := 20) hx hb hts in_X5_literal_X5 tyX5 tyX5_ok nmX5 hown hK hP hD hS 0 rfl rfl 0 (by decide) (hts _ lk_X5_literal_67) (fun _ h9 => h9) rfl (by decide +kernel) rfl rfl (Nat.le_of_ble_eq_true rfl) dX5_literal_53 (fun H locs hP hD hS => ?_)
          have hP : va_P D vwCl (WM ad cI cZ (sU τ 0 0 3)) H := hP
          have hD : va_D A (WM ad cI cZ (sU τ 0 0 3)) := hD
          refine lv_aload_n hx hb dX5_literal_56 rfl (lv_at hl 0 rfl) ?_
          refine va_get (D := D) (ci := 4) (v := .int (nI 3)) (C := RX5) (T := TX5) (N := 20) hx hb hts in_X5_literal_X5 hown hK hP 0 rfl rfl 0 (by decide) (hts _ lk_X5_literal_67) (fun _ h9 => h9) rfl dX5_literal_57 ?_
          refine q_if_le hx hb (tgt := 65) (nI_le0 (by omega)) dX5_literal_60 (by decide) (fun c_60 => ?_) (fun c_60 => ?_)
          · exact absurd c_60 (by decide)
          · refine lv_iconst (v := nI 0) hx hb dX5_literal_63 (by decide) ?_
            exact W.iret (v := nI 0) hx hb hr (fun t ht hW => ⟨⟨_, (sU τ 0 0 3), rfl, (⟨rfl, rfl⟩), Wm.go hP hK hD ht hW⟩, hS.F ht⟩) hS.2.2 dX5_literal_64
      · exact absurd hsu c_33
    · cases c_14
def rX5_literal_sort : Room := { frames := 1, cells := 0, slots := 0, locals := 21 }
set_option maxHeartbeats 4000000 in
set_option maxRecDepth 100000 in
theorem c_X5_literal_sort (l : Launch) (D : va_G) (cI cZ : ClassId) (A : Nat → Prop) (ad : Nat → Nat) (τ : Nat → Nat → Nat) (t1 u1 : Nat) (b : Bool) (hI : IM τ) (ht : t1 < τ 0 1) (hu : u1 < τ 0 1) (hsu : τ 2 t1 ≠ τ 2 u1) : Met l yX5_literal wsX5_literal rX5_literal_sort (va_Pc [.ref (ad 0), .int (nI t1), .int (nI u1), .int (bI b)] (Wm D cI cZ A ad τ)) (va_Qi (fun r u => r = nI 0 ∧ u = sU τ 0 0 2) (fun u t => Wm D cI cZ A ad u t) A) 0 0 A := by
  refine Met.ofW (cc := cX5_literal) (maxL := 4) (ret := (some .int)) (by decide) rfl ?_
  intro p e s m args below meth c s₁ B hml hv
  obtain ⟨rfl, hP, hK, hD⟩ := hv
  have hx := B.exec
  have hb := B.bytes
  have hr := B.returns
  have hts := atoms_spec (ws := wsX5_literal) B.pre
  have hown : s.vm.findClass RX5 = some m.cls := findClass_of_methodNamed B.named
  have hlocks := B.notSynchronized
  have hS : va_S A s.heap s.heap [] := va_S.rf
  have hl := lv_entry ([.ref (ad 0), .int (nI t1), .int (nI u1), .int (bI b)]) (n := 4) (Nat.le_of_ble_eq_true rfl)
  rw [lg_entry_eq]
  generalize (lg_sl ([.ref (ad 0), .int (nI t1), .int (nI u1), .int (bI b)]) ++ List.replicate (4 - (lg_sl ([.ref (ad 0), .int (nI t1), .int (nI u1), .int (bI b)])).length) Slot.unset).toArray = ls at hl ⊢
  have hl : lv_has ls 4 [(0, .ref (ad 0)), (1, .int (nI t1)), (2, .int (nI u1)), (3, .int (bI b))] := hl
  have hc := hI.terms
  have hs1 := hI.sorts (j := t1) (by omega)
  have hs2 := hI.sorts (j := u1) (by omega)
  have hli := hI.lits
  refine lv_aload_n hx hb dX5_literal_0 rfl (lv_at hl 0 rfl) ?_
  refine lv_aload_n hx hb dX5_literal_1 rfl (lv_at hl 0 rfl) ?_
  refine lv_iload_n hx hb dX5_literal_2 rfl (lv_at hl 1 rfl) ?_
  refine vp_callSi (va_Run.run (va_runV (As := [.int (nI t1)]) (rest := [.ref (ad 0)]) ⟨hx, hb, hml, hown, hts⟩ (c_X5_isTerm_in l D cI cZ A ad τ t1 ht hc.2) (cwV 1 hts gX5_literal_X5_isTerm rfl rfl rfl (by decide +kernel) ⟨Nat.le_of_ble_eq_true rfl, Nat.le_of_ble_eq_true rfl⟩) ⟨Wm.blind, va_recv hK hP (ci := 4) (q0 := 0) rfl rfl, fun U hU hW => ⟨rfl, Wm.go hP hK hD hU hW⟩⟩ rfl rfl hl.1 rfl (lv_room (Nat.le_of_ble_eq_true rfl)) dX5_literal_3 ⟨Nat.zero_le _, Nat.zero_le _⟩)) (fun r_1 hr_1 => ?_)
  refine n_to (w := bI true) (hr_1.trans rfl) ?_
  refine q_if_eq hx hb (tgt := 17) (bI_z) dX5_literal_6 (by decide) (fun c_6 => ?_) (fun c_6 => ?_)
  · cases c_6
  · refine lv_aload_n hx hb dX5_literal_9 rfl (lv_at hl 0 rfl) ?_
    refine lv_iload_n hx hb dX5_literal_10 rfl (lv_at hl 2 rfl) ?_
    refine vp_callSi (va_Run.run (va_runV (As := [.int (nI u1)]) (rest := [.ref (ad 0)]) ⟨hx, hb, hml, hown, hts⟩ (c_X5_isTerm_in l D cI cZ A ad τ u1 hu hc.2) (cwV 1 hts gX5_literal_X5_isTerm rfl rfl rfl (by decide +kernel) ⟨Nat.le_of_ble_eq_true rfl, Nat.le_of_ble_eq_true rfl⟩) ⟨Wm.blind, va_recv hK hP (ci := 4) (q0 := 0) rfl rfl, fun U hU hW => ⟨rfl, Wm.go hP hK hD hU hW⟩⟩ rfl rfl hl.1 rfl (lv_room (Nat.le_of_ble_eq_true rfl)) dX5_literal_11 ⟨Nat.zero_le _, Nat.zero_le _⟩)) (fun r_2 hr_2 => ?_)
    refine n_to (w := bI true) (hr_2.trans rfl) ?_
    refine q_if_ne hx hb (tgt := 21) (bI_z) dX5_literal_14 (by decide) (fun c_14 => ?_) (fun c_14 => ?_)
    · refine lv_aload_n hx hb dX5_literal_21 rfl (lv_at hl 0 rfl) ?_
      refine va_get (D := D) (ci := 4) (v := .ref (ad 2)) (C := RX5) (T := TX5) (N := 20) hx hb hts in_X5_literal_X5 hown hK hP 0 rfl rfl 2 (by decide) (hts _ lk_X5_literal_13) (fun _ h9 => h9) rfl dX5_literal_22 ?_
      refine lv_iload_n hx hb dX5_literal_25 rfl (lv_at hl 1 rfl) ?_
      refine n_ald hx hb hK hP 1 0 rfl rfl (i := t1) (by omega) (by decide) (v := nI (τ 2 t1)) rfl dX5_literal_26 ?_
      refine lv_aload_n hx hb dX5_literal_27 rfl (lv_at hl 0 rfl) ?_
      refine va_get (D := D) (ci := 4) (v := .ref (ad 2)) (C := RX5) (T := TX5) (N := 20) hx hb hts in_X5_literal_X5 hown hK hP 0 rfl rfl 2 (by decide) (hts _ lk_X5_literal_13) (fun _ h9 => h9) rfl dX5_literal_28 ?_
      refine lv_iload_n hx hb dX5_literal_31 rfl (lv_at hl 2 rfl) ?_
      refine n_ald hx hb hK hP 1 0 rfl rfl (i := u1) (by omega) (by decide) (v := nI (τ 2 u1)) rfl dX5_literal_32 ?_
      refine q_icmp_eq hx hb (tgt := 40) (nI_eq (by omega) (by omega)) dX5_literal_33 (by decide) (fun c_33 => ?_) (fun c_33 => ?_)
      · exact absurd c_33 hsu
      · refine lv_iconst (v := nI 2) hx hb dX5_literal_36 (by decide) ?_
        refine lv_goto (tgt := 53) hx hb dX5_literal_37 (by decide) ?_
        refine va_put (D := D) (ci := 4) (v := .int (nI 2)) (ty := .int) (C := RX5) (T := TX5) (N := 20) hx hb hts in_X5_literal_X5 tyX5 tyX5_ok nmX5 hown hK hP hD hS 0 rfl rfl 0 (by decide) (hts _ lk_X5_literal_67) (fun _ h9 => h9) rfl (by decide +kernel) rfl rfl (Nat.le_of_ble_eq_true rfl) dX5_literal_53 (fun H locs hP hD hS => ?_)
        have hP : va_P D vwCl (WM ad cI cZ (sU τ 0 0 2)) H := hP
        have hD : va_D A (WM ad cI cZ (sU τ 0 0 2)) := hD
        refine lv_aload_n hx hb dX5_literal_56 rfl (lv_at hl 0 rfl) ?_
        refine va_get (D := D) (ci := 4) (v := .int (nI 2)) (C := RX5) (T := TX5) (N := 20) hx hb hts in_X5_literal_X5 hown hK hP 0 rfl rfl 0 (by decide) (hts _ lk_X5_literal_67) (fun _ h9 => h9) rfl dX5_literal_57 ?_
        refine q_if_le hx hb (tgt := 65) (nI_le0 (by omega)) dX5_literal_60 (by decide) (fun c_60 => ?_) (fun c_60 => ?_)
        · exact absurd c_60 (by decide)
        · refine lv_iconst (v := nI 0) hx hb dX5_literal_63 (by decide) ?_
          exact W.iret (v := nI 0) hx hb hr (fun t ht hW => ⟨⟨_, (sU τ 0 0 2), rfl, (⟨rfl, rfl⟩), Wm.go hP hK hD ht hW⟩, hS.F ht⟩) hS.2.2 dX5_literal_64
    · cases c_14
def rX5_literal_o1 : Room := { frames := 1, cells := 0, slots := 0, locals := 21 }
set_option maxHeartbeats 4000000 in
set_option maxRecDepth 100000 in
theorem c_X5_literal_o1 (l : Launch) (D : va_G) (cI cZ : ClassId) (A : Nat → Prop) (ad : Nat → Nat) (τ : Nat → Nat → Nat) (t u : Int32) (b : Bool) (hc : 7 ≤ τ 0 1 ∧ τ 0 1 ≤ 24) (hxo : t < 0 ∨ nI (τ 0 1) ≤ t) : Met l yX5_literal wsX5_literal rX5_literal_o1 (va_Pc [.ref (ad 0), .int t, .int u, .int (bI b)] (Wm D cI cZ A ad τ)) (va_Qi (fun r u => r = nI 0 ∧ u = sU τ 0 0 1) (fun u t => Wm D cI cZ A ad u t) A) 0 0 A := by
  refine Met.ofW (cc := cX5_literal) (maxL := 4) (ret := (some .int)) (by decide) rfl ?_
  intro p e s m args below meth c s₁ B hml hv
  obtain ⟨rfl, hP, hK, hD⟩ := hv
  have hx := B.exec
  have hb := B.bytes
  have hr := B.returns
  have hts := atoms_spec (ws := wsX5_literal) B.pre
  have hown : s.vm.findClass RX5 = some m.cls := findClass_of_methodNamed B.named
  have hlocks := B.notSynchronized
  have hS : va_S A s.heap s.heap [] := va_S.rf
  have hl := lv_entry ([.ref (ad 0), .int t, .int u, .int (bI b)]) (n := 4) (Nat.le_of_ble_eq_true rfl)
  rw [lg_entry_eq]
  generalize (lg_sl ([.ref (ad 0), .int t, .int u, .int (bI b)]) ++ List.replicate (4 - (lg_sl ([.ref (ad 0), .int t, .int u, .int (bI b)])).length) Slot.unset).toArray = ls at hl ⊢
  have hl : lv_has ls 4 [(0, .ref (ad 0)), (1, .int t), (2, .int u), (3, .int (bI b))] := hl
  refine lv_aload_n hx hb dX5_literal_0 rfl (lv_at hl 0 rfl) ?_
  refine lv_aload_n hx hb dX5_literal_1 rfl (lv_at hl 0 rfl) ?_
  refine lv_iload_n hx hb dX5_literal_2 rfl (lv_at hl 1 rfl) ?_
  refine vp_callSi (va_Run.run (va_runV (As := [.int t]) (rest := [.ref (ad 0)]) ⟨hx, hb, hml, hown, hts⟩ (c_X5_isTerm_out l D cI cZ A ad τ t hxo) (cwV 1 hts gX5_literal_X5_isTerm rfl rfl rfl (by decide +kernel) ⟨Nat.le_of_ble_eq_true rfl, Nat.le_of_ble_eq_true rfl⟩) ⟨Wm.blind, va_recv hK hP (ci := 4) (q0 := 0) rfl rfl, fun U hU hW => ⟨rfl, Wm.go hP hK hD hU hW⟩⟩ rfl rfl hl.1 rfl (lv_room (Nat.le_of_ble_eq_true rfl)) dX5_literal_3 ⟨Nat.zero_le _, Nat.zero_le _⟩)) (fun r_1 hr_1 => ?_)
  refine n_to (w := bI false) (hr_1.trans rfl) ?_
  refine q_if_eq hx hb (tgt := 17) (bI_z) dX5_literal_6 (by decide) (fun c_6 => ?_) (fun c_6 => ?_)
  · refine lv_iconst (v := nI 1) hx hb dX5_literal_17 (by decide) ?_
    refine lv_goto (tgt := 53) hx hb dX5_literal_18 (by decide) ?_
    refine va_put (D := D) (ci := 4) (v := .int (nI 1)) (ty := .int) (C := RX5) (T := TX5) (N := 20) hx hb hts in_X5_literal_X5 tyX5 tyX5_ok nmX5 hown hK hP hD hS 0 rfl rfl 0 (by decide) (hts _ lk_X5_literal_67) (fun _ h9 => h9) rfl (by decide +kernel) rfl rfl (Nat.le_of_ble_eq_true rfl) dX5_literal_53 (fun H locs hP hD hS => ?_)
    have hP : va_P D vwCl (WM ad cI cZ (sU τ 0 0 1)) H := hP
    have hD : va_D A (WM ad cI cZ (sU τ 0 0 1)) := hD
    refine lv_aload_n hx hb dX5_literal_56 rfl (lv_at hl 0 rfl) ?_
    refine va_get (D := D) (ci := 4) (v := .int (nI 1)) (C := RX5) (T := TX5) (N := 20) hx hb hts in_X5_literal_X5 hown hK hP 0 rfl rfl 0 (by decide) (hts _ lk_X5_literal_67) (fun _ h9 => h9) rfl dX5_literal_57 ?_
    refine q_if_le hx hb (tgt := 65) (nI_le0 (by omega)) dX5_literal_60 (by decide) (fun c_60 => ?_) (fun c_60 => ?_)
    · exact absurd c_60 (by decide)
    · refine lv_iconst (v := nI 0) hx hb dX5_literal_63 (by decide) ?_
      exact W.iret (v := nI 0) hx hb hr (fun t ht hW => ⟨⟨_, (sU τ 0 0 1), rfl, (⟨rfl, rfl⟩), Wm.go hP hK hD ht hW⟩, hS.F ht⟩) hS.2.2 dX5_literal_64
  · exact absurd rfl c_6
def rX5_literal_o2 : Room := { frames := 1, cells := 0, slots := 0, locals := 21 }
set_option maxHeartbeats 4000000 in
set_option maxRecDepth 100000 in
theorem c_X5_literal_o2 (l : Launch) (D : va_G) (cI cZ : ClassId) (A : Nat → Prop) (ad : Nat → Nat) (τ : Nat → Nat → Nat) (t : Nat) (u : Int32) (b : Bool) (hc : 7 ≤ τ 0 1 ∧ τ 0 1 ≤ 24) (ht : t < τ 0 1) (hxo : u < 0 ∨ nI (τ 0 1) ≤ u) : Met l yX5_literal wsX5_literal rX5_literal_o2 (va_Pc [.ref (ad 0), .int (nI t), .int u, .int (bI b)] (Wm D cI cZ A ad τ)) (va_Qi (fun r u => r = nI 0 ∧ u = sU τ 0 0 1) (fun u t => Wm D cI cZ A ad u t) A) 0 0 A := by
  refine Met.ofW (cc := cX5_literal) (maxL := 4) (ret := (some .int)) (by decide) rfl ?_
  intro p e s m args below meth c s₁ B hml hv
  obtain ⟨rfl, hP, hK, hD⟩ := hv
  have hx := B.exec
  have hb := B.bytes
  have hr := B.returns
  have hts := atoms_spec (ws := wsX5_literal) B.pre
  have hown : s.vm.findClass RX5 = some m.cls := findClass_of_methodNamed B.named
  have hlocks := B.notSynchronized
  have hS : va_S A s.heap s.heap [] := va_S.rf
  have hl := lv_entry ([.ref (ad 0), .int (nI t), .int u, .int (bI b)]) (n := 4) (Nat.le_of_ble_eq_true rfl)
  rw [lg_entry_eq]
  generalize (lg_sl ([.ref (ad 0), .int (nI t), .int u, .int (bI b)]) ++ List.replicate (4 - (lg_sl ([.ref (ad 0), .int (nI t), .int u, .int (bI b)])).length) Slot.unset).toArray = ls at hl ⊢
  have hl : lv_has ls 4 [(0, .ref (ad 0)), (1, .int (nI t)), (2, .int u), (3, .int (bI b))] := hl
  refine lv_aload_n hx hb dX5_literal_0 rfl (lv_at hl 0 rfl) ?_
  refine lv_aload_n hx hb dX5_literal_1 rfl (lv_at hl 0 rfl) ?_
  refine lv_iload_n hx hb dX5_literal_2 rfl (lv_at hl 1 rfl) ?_
  refine vp_callSi (va_Run.run (va_runV (As := [.int (nI t)]) (rest := [.ref (ad 0)]) ⟨hx, hb, hml, hown, hts⟩ (c_X5_isTerm_in l D cI cZ A ad τ t ht hc.2) (cwV 1 hts gX5_literal_X5_isTerm rfl rfl rfl (by decide +kernel) ⟨Nat.le_of_ble_eq_true rfl, Nat.le_of_ble_eq_true rfl⟩) ⟨Wm.blind, va_recv hK hP (ci := 4) (q0 := 0) rfl rfl, fun U hU hW => ⟨rfl, Wm.go hP hK hD hU hW⟩⟩ rfl rfl hl.1 rfl (lv_room (Nat.le_of_ble_eq_true rfl)) dX5_literal_3 ⟨Nat.zero_le _, Nat.zero_le _⟩)) (fun r_1 hr_1 => ?_)
  refine n_to (w := bI true) (hr_1.trans rfl) ?_
  refine q_if_eq hx hb (tgt := 17) (bI_z) dX5_literal_6 (by decide) (fun c_6 => ?_) (fun c_6 => ?_)
  · cases c_6
  · refine lv_aload_n hx hb dX5_literal_9 rfl (lv_at hl 0 rfl) ?_
    refine lv_iload_n hx hb dX5_literal_10 rfl (lv_at hl 2 rfl) ?_
    refine vp_callSi (va_Run.run (va_runV (As := [.int u]) (rest := [.ref (ad 0)]) ⟨hx, hb, hml, hown, hts⟩ (c_X5_isTerm_out l D cI cZ A ad τ u hxo) (cwV 1 hts gX5_literal_X5_isTerm rfl rfl rfl (by decide +kernel) ⟨Nat.le_of_ble_eq_true rfl, Nat.le_of_ble_eq_true rfl⟩) ⟨Wm.blind, va_recv hK hP (ci := 4) (q0 := 0) rfl rfl, fun U hU hW => ⟨rfl, Wm.go hP hK hD hU hW⟩⟩ rfl rfl hl.1 rfl (lv_room (Nat.le_of_ble_eq_true rfl)) dX5_literal_11 ⟨Nat.zero_le _, Nat.zero_le _⟩)) (fun r_2 hr_2 => ?_)
    refine n_to (w := bI false) (hr_2.trans rfl) ?_
    refine q_if_ne hx hb (tgt := 21) (bI_z) dX5_literal_14 (by decide) (fun c_14 => ?_) (fun c_14 => ?_)
    · exact absurd rfl c_14
    · refine lv_iconst (v := nI 1) hx hb dX5_literal_17 (by decide) ?_
      refine lv_goto (tgt := 53) hx hb dX5_literal_18 (by decide) ?_
      refine va_put (D := D) (ci := 4) (v := .int (nI 1)) (ty := .int) (C := RX5) (T := TX5) (N := 20) hx hb hts in_X5_literal_X5 tyX5 tyX5_ok nmX5 hown hK hP hD hS 0 rfl rfl 0 (by decide) (hts _ lk_X5_literal_67) (fun _ h9 => h9) rfl (by decide +kernel) rfl rfl (Nat.le_of_ble_eq_true rfl) dX5_literal_53 (fun H locs hP hD hS => ?_)
      have hP : va_P D vwCl (WM ad cI cZ (sU τ 0 0 1)) H := hP
      have hD : va_D A (WM ad cI cZ (sU τ 0 0 1)) := hD
      refine lv_aload_n hx hb dX5_literal_56 rfl (lv_at hl 0 rfl) ?_
      refine va_get (D := D) (ci := 4) (v := .int (nI 1)) (C := RX5) (T := TX5) (N := 20) hx hb hts in_X5_literal_X5 hown hK hP 0 rfl rfl 0 (by decide) (hts _ lk_X5_literal_67) (fun _ h9 => h9) rfl dX5_literal_57 ?_
      refine q_if_le hx hb (tgt := 65) (nI_le0 (by omega)) dX5_literal_60 (by decide) (fun c_60 => ?_) (fun c_60 => ?_)
      · exact absurd c_60 (by decide)
      · refine lv_iconst (v := nI 0) hx hb dX5_literal_63 (by decide) ?_
        exact W.iret (v := nI 0) hx hb hr (fun t ht hW => ⟨⟨_, (sU τ 0 0 1), rfl, (⟨rfl, rfl⟩), Wm.go hP hK hD ht hW⟩, hS.F ht⟩) hS.2.2 dX5_literal_64
