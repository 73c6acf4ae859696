theorem in_X5_sameIn_X5 : ∀ w ∈ wsX50, w ∈ wsX5_sameIn := by decide +kernel
theorem lk_X5_sameIn_50 : Cond.fieldLink RX5 50 "ArrayClaimsModel" "from" "[I" ∈ wsX5_sameIn := by decide +kernel
theorem lk_X5_sameIn_38 : Cond.fieldLink RX5 38 "ArrayClaimsModel" "ways" "[I" ∈ wsX5_sameIn := by decide +kernel
theorem lk_X5_sameIn_41 : Cond.fieldLink RX5 41 "ArrayClaimsModel" "waysFrom" "[I" ∈ wsX5_sameIn := by decide +kernel
theorem lk_X5_sameIn_32 : Cond.fieldLink RX5 32 "ArrayClaimsModel" "classes" "[I" ∈ wsX5_sameIn := by decide +kernel
def rX5_sameIn : Room := { frames := 2, cells := 0, slots := 0, locals := 50 }
set_option maxHeartbeats 4000000 in
set_option maxRecDepth 100000 in
theorem c_X5_sameIn (l : Launch) (D : va_G) (cI cZ : ClassId) (A : Nat → Prop) (ad : Nat → Nat) (τ : Nat → Nat → Nat) (t u p1 r1 : Nat) (hI : IM τ) (ht : t < 24) (hu : u < 24) (hp1 : p1 < 5) (hr1 : frT p1 ≤ r1) (hr2 : r1 < frT (p1 + 1)) (hsu : τ 2 u = τ 2 t) : Met l yX5_sameIn wsX5_sameIn rX5_sameIn (va_Pc [.ref (ad 0), .int (nI t), .int (nI u), .int (nI p1), .int (nI r1)] (Wm D cI cZ A ad τ)) (vp_Si (fun r => r = bI (siB τ t u p1 r1))) 0 0 (fun _ => False) := by
  refine Met.ofW (cc := cX5_sameIn) (maxL := 6) (ret := (some .boolean)) (by decide) rfl ?_
  intro p e s m args below meth c s₁ B hml hv
  obtain ⟨rfl, hP, hK, hD⟩ := hv
  have hx := B.exec
  have hb := B.bytes
  have hr := B.returns
  have hts := atoms_spec (ws := wsX5_sameIn) B.pre
  have hown : s.vm.findClass RX5 = some m.cls := findClass_of_methodNamed B.named
  have hlocks := B.notSynchronized
  have hS : va_S A s.heap s.heap [] := va_S.rf
  have hl := lv_entry ([.ref (ad 0), .int (nI t), .int (nI u), .int (nI p1), .int (nI r1)]) (n := 6) (Nat.le_of_ble_eq_true rfl)
  rw [lg_entry_eq]
  generalize (lg_sl ([.ref (ad 0), .int (nI t), .int (nI u), .int (nI p1), .int (nI r1)]) ++ List.replicate (6 - (lg_sl ([.ref (ad 0), .int (nI t), .int (nI u), .int (nI p1), .int (nI r1)])).length) Slot.unset).toArray = ls at hl ⊢
  have hl : lv_has ls 6 [(0, .ref (ad 0)), (1, .int (nI t)), (2, .int (nI u)), (3, .int (nI p1)), (4, .int (nI r1))] := hl
  have hcl := hI.cls hp1
  have hdf := tab_ok p1 hp1
  have hfr := hI.from (j := p1) (by omega)
  have hwf := hI.wf (j := τ 8 p1 - 1) (by omega)
  rw [hcl] at hwf
  refine lv_iload hx hb dX5_sameIn_0 (lv_at hl 4 rfl) ?_
  refine lv_aload_n hx hb dX5_sameIn_2 rfl (lv_at hl 0 rfl) ?_
  refine va_get (D := D) (ci := 4) (v := .ref (ad 14)) (C := RX5) (T := TX5) (N := 20) hx hb hts in_X5_sameIn_X5 hown hK hP 0 rfl rfl 14 (by decide) (hts _ lk_X5_sameIn_50) (fun _ h9 => h9) rfl dX5_sameIn_3 ?_
  refine lv_iload_n hx hb dX5_sameIn_6 rfl (lv_at hl 3 rfl) ?_
  refine n_ald hx hb hK hP 13 0 rfl rfl (i := p1) (by omega) (by decide) (v := nI (τ 14 p1)) rfl dX5_sameIn_7 ?_
  refine n_sub hx hb (by omega) dX5_sameIn_8 ?_
  refine lv_istore (lv' := [(5, .int (nI (r1 - (τ 14 p1)))), (0, .ref (ad 0)), (1, .int (nI t)), (2, .int (nI u)), (3, .int (nI p1)), (4, .int (nI r1))]) hx hb dX5_sameIn_9 hl (by decide) rfl (fun ls hl => ?_)
  refine lv_aload_n hx hb dX5_sameIn_11 rfl (lv_at hl 1 rfl) ?_
  refine lv_iload_n hx hb dX5_sameIn_12 rfl (lv_at hl 2 rfl) ?_
  refine lv_iload_n hx hb dX5_sameIn_13 rfl (lv_at hl 3 rfl) ?_
  refine lv_iload_n hx hb dX5_sameIn_14 rfl (lv_at hl 4 rfl) ?_
  refine lv_aload_n hx hb dX5_sameIn_15 rfl (lv_at hl 1 rfl) ?_
  refine va_get (D := D) (ci := 4) (v := .ref (ad 10)) (C := RX5) (T := TX5) (N := 20) hx hb hts in_X5_sameIn_X5 hown hK hP 0 rfl rfl 10 (by decide) (hts _ lk_X5_sameIn_38) (fun _ h9 => h9) rfl dX5_sameIn_16 ?_
  refine lv_aload_n hx hb dX5_sameIn_19 rfl (lv_at hl 1 rfl) ?_
  refine va_get (D := D) (ci := 4) (v := .ref (ad 11)) (C := RX5) (T := TX5) (N := 20) hx hb hts in_X5_sameIn_X5 hown hK hP 0 rfl rfl 11 (by decide) (hts _ lk_X5_sameIn_41) (fun _ h9 => h9) rfl dX5_sameIn_20 ?_
  refine lv_aload_n hx hb dX5_sameIn_23 rfl (lv_at hl 1 rfl) ?_
  refine va_get (D := D) (ci := 4) (v := .ref (ad 8)) (C := RX5) (T := TX5) (N := 20) hx hb hts in_X5_sameIn_X5 hown hK hP 0 rfl rfl 8 (by decide) (hts _ lk_X5_sameIn_32) (fun _ h9 => h9) rfl dX5_sameIn_24 ?_
  refine lv_iload_n hx hb dX5_sameIn_27 rfl (lv_at hl 4 rfl) ?_
  refine n_ald hx hb hK hP 7 0 rfl rfl (i := p1) (by omega) (by decide) (v := nI (τ 8 p1)) rfl dX5_sameIn_28 ?_
  refine lv_iconst (v := nI 1) hx hb dX5_sameIn_29 (by decide) ?_
  refine n_sub hx hb (by omega) dX5_sameIn_30 ?_
  refine n_ald hx hb hK hP 10 0 rfl rfl (i := (τ 8 p1) - 1) (by omega) (by decide) (v := nI (τ 11 ((τ 8 p1) - 1))) rfl dX5_sameIn_31 ?_
  refine lv_iload hx hb dX5_sameIn_32 (lv_at hl 0 rfl) ?_
  refine lv_iconst (v := nI 2) hx hb dX5_sameIn_34 (by decide) ?_
  refine lv_idiv hx hb dX5_sameIn_35 (by decide) ?_
  refine n_to (w := nI ((r1 - τ 14 p1) / 2)) (pk_div (by omega) (by omega) (by omega)) ?_
  refine n_add hx hb dX5_sameIn_36 ?_
  refine n_ald hx hb hK hP 9 0 rfl rfl (i := (τ 11 ((τ 8 p1) - 1)) + ((r1 - τ 14 p1) / 2)) (by rw [hcl, hwf]; omega) (by decide) (v := nI (τ 10 ((τ 11 ((τ 8 p1) - 1)) + ((r1 - τ 14 p1) / 2)))) rfl dX5_sameIn_37 ?_
  refine lv_iload hx hb dX5_sameIn_38 (lv_at hl 0 rfl) ?_
  refine lv_iconst (v := nI 2) hx hb dX5_sameIn_40 (by decide) ?_
  refine lv_irem hx hb dX5_sameIn_41 (by decide) ?_
  refine n_to (w := nI ((r1 - τ 14 p1) % 2)) (pk_rem (by omega) (by omega) (by omega)) ?_
  refine lv_iconst (v := nI 1) hx hb dX5_sameIn_42 (by decide) ?_
  refine q_icmp_ne hx hb (tgt := 50) (nI_eq (by omega) (by omega)) dX5_sameIn_43 (by decide) (fun c_43 => ?_) (fun c_43 => ?_)
  · refine lv_iconst (v := nI 0) hx hb dX5_sameIn_50 (by decide) ?_
    refine vp_callSi (va_Run.run (va_runV (As := [.int (nI t), .int (nI u), .int (nI p1), .int (nI (τ 10 ((τ 11 ((τ 8 p1) - 1)) + ((r1 - τ 14 p1) / 2)))), .int (nI 0)]) (rest := []) ⟨hx, hb, hml, hown, hts⟩ (c_X5_areSame l D cI cZ A ad τ t u p1 (τ 10 (τ 11 (τ 8 p1 - 1) + (r1 - τ 14 p1) / 2)) false hI ht hu hp1 (hI.ways (by rw [hcl, hwf]; omega)) hsu) (cwV 5 hts gX5_sameIn_X5_areSame rfl rfl rfl (by decide +kernel) ⟨Nat.le_of_ble_eq_true rfl, Nat.le_of_ble_eq_true rfl⟩) ⟨Wm.blind, va_recv hK hP (ci := 4) (q0 := 0) rfl rfl, fun U hU hW => ⟨rfl, Wm.go hP hK hD hU hW⟩⟩ rfl rfl hl.1 rfl (lv_room (Nat.le_of_ble_eq_true rfl)) dX5_sameIn_51 ⟨Nat.zero_le _, Nat.zero_le _⟩)) (fun r_1 hr_1 => ?_)
    refine n_to (w := bI (siB τ t u p1 r1)) (hr_1.trans (by unfold siB; first | (rw [decide_eq_true c_43]) | (rw [decide_eq_false c_43]))) ?_
    exact W.zret (v := bI (siB τ t u p1 r1)) hx hb hr (bI_nar _) (fun t ht hW => ⟨_, rfl, rfl, ht⟩) no_locs dX5_sameIn_54
  · refine lv_iconst (v := nI 1) hx hb dX5_sameIn_46 (by decide) ?_
    refine lv_goto (tgt := 51) hx hb dX5_sameIn_47 (by decide) ?_
    refine vp_callSi (va_Run.run (va_runV (As := [.int (nI t), .int (nI u), .int (nI p1), .int (nI (τ 10 ((τ 11 ((τ 8 p1) - 1)) + ((r1 - τ 14 p1) / 2)))), .int (nI 1)]) (rest := []) ⟨hx, hb, hml, hown, hts⟩ (c_X5_areSame l D cI cZ A ad τ t u p1 (τ 10 (τ 11 (τ 8 p1 - 1) + (r1 - τ 14 p1) / 2)) true hI ht hu hp1 (hI.ways (by rw [hcl, hwf]; omega)) hsu) (cwV 5 hts gX5_sameIn_X5_areSame rfl rfl rfl (by decide +kernel) ⟨Nat.le_of_ble_eq_true rfl, Nat.le_of_ble_eq_true rfl⟩) ⟨Wm.blind, va_recv hK hP (ci := 4) (q0 := 0) rfl rfl, fun U hU hW => ⟨rfl, Wm.go hP hK hD hU hW⟩⟩ rfl rfl hl.1 rfl (lv_room (Nat.le_of_ble_eq_true rfl)) dX5_sameIn_51 ⟨Nat.zero_le _, Nat.zero_le _⟩)) (fun r_2 hr_2 => ?_)
    refine n_to (w := bI (siB τ t u p1 r1)) (hr_2.trans (by unfold siB; first | (rw [decide_eq_true c_43]) | (rw [decide_eq_false c_43]))) ?_
    exact W.zret (v := bI (siB τ t u p1 r1)) hx hb hr (bI_nar _) (fun t ht hW => ⟨_, rfl, rfl, ht⟩) no_locs dX5_sameIn_54
theorem in_X5_draftHolds_X5 : ∀ w ∈ wsX50, w ∈ wsX5_draftHolds := by decide +kernel
theorem lk_X5_draftHolds_102 : Cond.fieldLink RX5 102 "ArrayClaimsModel" "literals" "I" ∈ wsX5_draftHolds := by decide +kernel
theorem lk_X5_draftHolds_53 : Cond.fieldLink RX5 53 "ArrayClaimsModel" "left" "[I" ∈ wsX5_draftHolds := by decide +kernel
theorem lk_X5_draftHolds_56 : Cond.fieldLink RX5 56 "ArrayClaimsModel" "right" "[I" ∈ wsX5_draftHolds := by decide +kernel
theorem lk_X5_draftHolds_59 : Cond.fieldLink RX5 59 "ArrayClaimsModel" "alike" "[Z" ∈ wsX5_draftHolds := by decide +kernel
def rX5_draftHolds : Room := { frames := 3, cells := 0, slots := 0, locals := 75 }
set_option maxHeartbeats 4000000 in
set_option maxRecDepth 100000 in
theorem c_X5_draftHolds (l : Launch) (D : va_G) (cI cZ : ClassId) (A : Nat → Prop) (ad : Nat → Nat) (τ : Nat → Nat → Nat) (p1 r1 : Nat) (hI : IM τ) (hDS : DrS τ) (hp1 : p1 < 5) (hr1 : frT p1 ≤ r1) (hr2 : r1 < frT (p1 + 1)) : Met l yX5_draftHolds wsX5_draftHolds rX5_draftHolds (va_Pc [.ref (ad 0), .int (nI p1), .int (nI r1)] (Wm D cI cZ A ad τ)) (vp_Si (fun r => r = bI (dhB τ p1 r1))) 0 0 (fun _ => False) := by
  refine Met.ofW (cc := cX5_draftHolds) (maxL := 5) (ret := (some .boolean)) (by decide) rfl ?_
  intro p e s m args below meth c s₁ B hml hv
  obtain ⟨rfl, hP, hK, hD⟩ := hv
  have hx := B.exec
  have hb := B.bytes
  have hr := B.returns
  have hts := atoms_spec (ws := wsX5_draftHolds) B.pre
  have hown : s.vm.findClass RX5 = some m.cls := findClass_of_methodNamed B.named
  have hlocks := B.notSynchronized
  have hS : va_S A s.heap s.heap [] := va_S.rf
  have hl := lv_entry ([.ref (ad 0), .int (nI p1), .int (nI r1)]) (n := 5) (Nat.le_of_ble_eq_true rfl)
  rw [lg_entry_eq]
  generalize (lg_sl ([.ref (ad 0), .int (nI p1), .int (nI r1)]) ++ List.replicate (5 - (lg_sl ([.ref (ad 0), .int (nI p1), .int (nI r1)])).length) Slot.unset).toArray = ls at hl ⊢
  have hl : lv_has ls 5 [(0, .ref (ad 0)), (1, .int (nI p1)), (2, .int (nI r1))] := hl
  have hli := hI.lits
  refine lv_iconst (v := nI 0) hx hb dX5_draftHolds_0 (by decide) ?_
  refine lv_istore_n (lv' := [(3, .int (nI 0)), (0, .ref (ad 0)), (1, .int (nI p1)), (2, .int (nI r1))]) hx hb dX5_draftHolds_1 rfl hl (by decide) rfl (fun ls hl => ?_)
  refine lv_iconst (v := nI 0) hx hb dX5_draftHolds_2 (by decide) ?_
  refine lv_istore (lv' := [(4, .int (nI 0)), (3, .int (nI 0)), (0, .ref (ad 0)), (1, .int (nI p1)), (2, .int (nI r1))]) hx hb dX5_draftHolds_3 hl (by decide) rfl (fun ls hl => ?_)
  have lp5 : ∀ (n : Nat) (k : Nat) (sm : Bool) (ls : Array Slot), (k + n = τ 0 16) → (dhB τ p1 r1 = dhL τ p1 r1 n k sm) → lv_has ls 5 [(4, .int (nI k)), (3, .int (bI sm)), (0, .ref (ad 0)), (1, .int (nI p1)), (2, .int (nI r1))] → WR p l e rX5_draftHolds s m (([.ref (ad 0), .int (nI p1), .int (nI r1)] : List Value).toArray) below meth c s.heap (fun r => r = bI (dhB τ p1 r1)) (F0 m 5 ls []) := by
    intro n
    induction n with
    | zero =>
      intro k sm ls hF1 hF hl
      refine lv_iload hx hb dX5_draftHolds_5 (lv_at hl 0 rfl) ?_
      refine lv_aload_n hx hb dX5_draftHolds_7 rfl (lv_at hl 2 rfl) ?_
      refine va_get (D := D) (ci := 4) (v := .int (nI (τ 0 16))) (C := RX5) (T := TX5) (N := 20) hx hb hts in_X5_draftHolds_X5 hown hK hP 0 rfl rfl 16 (by decide) (hts _ lk_X5_draftHolds_102) (fun _ h9 => h9) rfl dX5_draftHolds_8 ?_
      refine n_icmp_ge hx hb (tgt := 60) (by omega) (by omega) dX5_draftHolds_11 (by decide) (fun c_11 => ?_) (fun c_11 => ?_)
      · refine lv_iload_n hx hb dX5_draftHolds_60 rfl (lv_at hl 1 rfl) ?_
        exact W.zret (v := bI sm) hx hb hr (bI_nar _) (fun t ht hW => ⟨_, rfl, by rw [hF]; rfl, ht⟩) no_locs dX5_draftHolds_61
      · omega
    | succ n ih5 =>
      intro k sm ls hF1 hF hl
      have hdr := hI.dr (j := k) (by omega)
      refine lv_iload hx hb dX5_draftHolds_5 (lv_at hl 0 rfl) ?_
      refine lv_aload_n hx hb dX5_draftHolds_7 rfl (lv_at hl 2 rfl) ?_
      refine va_get (D := D) (ci := 4) (v := .int (nI (τ 0 16))) (C := RX5) (T := TX5) (N := 20) hx hb hts in_X5_draftHolds_X5 hown hK hP 0 rfl rfl 16 (by decide) (hts _ lk_X5_draftHolds_102) (fun _ h9 => h9) rfl dX5_draftHolds_8 ?_
      refine n_icmp_ge hx hb (tgt := 60) (by omega) (by omega) dX5_draftHolds_11 (by decide) (fun c_11 => ?_) (fun c_11 => ?_)
      · omega
      · refine lv_iload_n hx hb dX5_draftHolds_14 rfl (lv_at hl 1 rfl) ?_
        refine q_if_ne hx hb (tgt := 48) (bI_z) dX5_draftHolds_15 (by decide) (fun c_15 => ?_) (fun c_15 => ?_)
        · refine lv_iconst (v := nI 1) hx hb dX5_draftHolds_48 (by decide) ?_
          refine lv_goto (tgt := 53) hx hb dX5_draftHolds_49 (by decide) ?_
          refine lv_istore_n (lv' := [(3, .int (nI 1)), (4, .int (nI k)), (0, .ref (ad 0)), (1, .int (nI p1)), (2, .int (nI r1))]) hx hb dX5_draftHolds_53 rfl hl (by decide) rfl (fun ls hl => ?_)
          refine lv_iinc (v := nI (k + 1)) (lv' := [(4, .int (nI (k + 1))), (3, .int (nI 1)), (0, .ref (ad 0)), (1, .int (nI p1)), (2, .int (nI r1))]) hx hb dX5_draftHolds_54 hl (k := 1) rfl (nI_add _ _) (by decide) rfl (fun ls hl => ?_)
          refine lv_goto (tgt := 5) hx hb dX5_draftHolds_57 (by decide) ?_
          exact ih5 (k + 1) true  _  (by omega) (by rw [hF]; simp only [dhL]; first | (rw [if_pos (ts_nf c_15)]; done) | (rw [if_neg (ts_ff c_15), decide_eq_true c_45]; done) | (rw [if_neg (ts_ff c_15), decide_eq_false c_45]; done)) (lv_sub hl [0, 1, 2, 3, 4] rfl)
        · refine lv_aload_n hx hb dX5_draftHolds_18 rfl (lv_at hl 2 rfl) ?_
          refine lv_aload_n hx hb dX5_draftHolds_19 rfl (lv_at hl 2 rfl) ?_
          refine va_get (D := D) (ci := 4) (v := .ref (ad 17)) (C := RX5) (T := TX5) (N := 20) hx hb hts in_X5_draftHolds_X5 hown hK hP 0 rfl rfl 17 (by decide) (hts _ lk_X5_draftHolds_53) (fun _ h9 => h9) rfl dX5_draftHolds_20 ?_
          refine lv_iload hx hb dX5_draftHolds_23 (lv_at hl 0 rfl) ?_
          refine n_ald hx hb hK hP 14 0 rfl rfl (i := k) (by omega) (by decide) (v := nI (τ 17 k)) rfl dX5_draftHolds_25 ?_
          refine lv_aload_n hx hb dX5_draftHolds_26 rfl (lv_at hl 2 rfl) ?_
          refine va_get (D := D) (ci := 4) (v := .ref (ad 18)) (C := RX5) (T := TX5) (N := 20) hx hb hts in_X5_draftHolds_X5 hown hK hP 0 rfl rfl 18 (by decide) (hts _ lk_X5_draftHolds_56) (fun _ h9 => h9) rfl dX5_draftHolds_27 ?_
          refine lv_iload hx hb dX5_draftHolds_30 (lv_at hl 0 rfl) ?_
          refine n_ald hx hb hK hP 15 0 rfl rfl (i := k) (by omega) (by decide) (v := nI (τ 18 k)) rfl dX5_draftHolds_32 ?_
          refine lv_iload_n hx hb dX5_draftHolds_33 rfl (lv_at hl 3 rfl) ?_
          refine lv_iload_n hx hb dX5_draftHolds_34 rfl (lv_at hl 4 rfl) ?_
          refine vp_callSi (va_Run.run (va_runV (As := [.int (nI (τ 17 k)), .int (nI (τ 18 k)), .int (nI p1), .int (nI r1)]) (rest := []) ⟨hx, hb, hml, hown, hts⟩ (c_X5_sameIn l D cI cZ A ad τ (τ 17 k) (τ 18 k) p1 r1 hI hdr.1 hdr.2.1 hp1 hr1 hr2 (hDS k (by omega))) (cwV 4 hts gX5_draftHolds_X5_sameIn rfl rfl rfl (by decide +kernel) ⟨Nat.le_of_ble_eq_true rfl, Nat.le_of_ble_eq_true rfl⟩) ⟨Wm.blind, va_recv hK hP (ci := 4) (q0 := 0) rfl rfl, fun U hU hW => ⟨rfl, Wm.go hP hK hD hU hW⟩⟩ rfl rfl hl.1 rfl (lv_room (Nat.le_of_ble_eq_true rfl)) dX5_draftHolds_35 ⟨Nat.zero_le _, Nat.zero_le _⟩)) (fun r_1 hr_1 => ?_)
          refine n_to (w := bI (siB τ (τ 17 k) (τ 18 k) p1 r1)) (hr_1.trans rfl) ?_
          refine lv_aload_n hx hb dX5_draftHolds_38 rfl (lv_at hl 2 rfl) ?_
          refine va_get (D := D) (ci := 4) (v := .ref (ad 19)) (C := RX5) (T := TX5) (N := 20) hx hb hts in_X5_draftHolds_X5 hown hK hP 0 rfl rfl 19 (by decide) (hts _ lk_X5_draftHolds_59) (fun _ h9 => h9) rfl dX5_draftHolds_39 ?_
          refine lv_iload hx hb dX5_draftHolds_42 (lv_at hl 0 rfl) ?_
          refine n_zld hx hb hK hP 16 1 rfl rfl (i := k) (by omega) (by decide) (v := nI (τ 19 k)) rfl dX5_draftHolds_44 ?_
          refine q_icmp_ne hx hb (tgt := 52) (bn_eq (by omega)) dX5_draftHolds_45 (by decide) (fun c_45 => ?_) (fun c_45 => ?_)
          · refine lv_iconst (v := nI 0) hx hb dX5_draftHolds_52 (by decide) ?_
            refine lv_istore_n (lv' := [(3, .int (nI 0)), (4, .int (nI k)), (0, .ref (ad 0)), (1, .int (nI p1)), (2, .int (nI r1))]) hx hb dX5_draftHolds_53 rfl hl (by decide) rfl (fun ls hl => ?_)
            refine lv_iinc (v := nI (k + 1)) (lv' := [(4, .int (nI (k + 1))), (3, .int (nI 0)), (0, .ref (ad 0)), (1, .int (nI p1)), (2, .int (nI r1))]) hx hb dX5_draftHolds_54 hl (k := 1) rfl (nI_add _ _) (by decide) rfl (fun ls hl => ?_)
            refine lv_goto (tgt := 5) hx hb dX5_draftHolds_57 (by decide) ?_
            exact ih5 (k + 1) false  _  (by omega) (by rw [hF]; simp only [dhL]; first | (rw [if_pos (ts_nf c_15)]; done) | (rw [if_neg (ts_ff c_15), decide_eq_true c_45]; done) | (rw [if_neg (ts_ff c_15), decide_eq_false c_45]; done)) (lv_sub hl [0, 1, 2, 3, 4] rfl)
          · refine lv_iconst (v := nI 1) hx hb dX5_draftHolds_48 (by decide) ?_
            refine lv_goto (tgt := 53) hx hb dX5_draftHolds_49 (by decide) ?_
            refine lv_istore_n (lv' := [(3, .int (nI 1)), (4, .int (nI k)), (0, .ref (ad 0)), (1, .int (nI p1)), (2, .int (nI r1))]) hx hb dX5_draftHolds_53 rfl hl (by decide) rfl (fun ls hl => ?_)
            refine lv_iinc (v := nI (k + 1)) (lv' := [(4, .int (nI (k + 1))), (3, .int (nI 1)), (0, .ref (ad 0)), (1, .int (nI p1)), (2, .int (nI r1))]) hx hb dX5_draftHolds_54 hl (k := 1) rfl (nI_add _ _) (by decide) rfl (fun ls hl => ?_)
            refine lv_goto (tgt := 5) hx hb dX5_draftHolds_57 (by decide) ?_
            exact ih5 (k + 1) true  _  (by omega) (by rw [hF]; simp only [dhL]; first | (rw [if_pos (ts_nf c_15)]; done) | (rw [if_neg (ts_ff c_15), decide_eq_true c_45]; done) | (rw [if_neg (ts_ff c_15), decide_eq_false c_45]; done)) (lv_sub hl [0, 1, 2, 3, 4] rfl)
  exact lp5 (τ 0 16) 0 false  _ (by omega) (rfl) (lv_sub hl [0, 1, 2, 3, 4] rfl)
theorem in_X5_canHold_X5 : ∀ w ∈ wsX50, w ∈ wsX5_canHold := by decide +kernel
theorem lk_X5_canHold_50 : Cond.fieldLink RX5 50 "ArrayClaimsModel" "from" "[I" ∈ wsX5_canHold := by decide +kernel
theorem lk_X5_canHold_47 : Cond.fieldLink RX5 47 "ArrayClaimsModel" "holds" "[I" ∈ wsX5_canHold := by decide +kernel
def rX5_canHold : Room := { frames := 0, cells := 0, slots := 0, locals := 0 }
set_option maxHeartbeats 4000000 in
set_option maxRecDepth 100000 in
theorem c_X5_canHold (l : Launch) (D : va_G) (cI cZ : ClassId) (A : Nat → Prop) (ad : Nat → Nat) (τ : Nat → Nat → Nat) (set : Nat) (hI : IM τ) (hset : set < 2 ^ 31) : Met l yX5_canHold wsX5_canHold rX5_canHold (va_Pc [.ref (ad 0), .int (nI set)] (Wm D cI cZ A ad τ)) (vp_Si (fun r => r = bI (chB τ set))) 0 0 (fun _ => False) := by
  refine Met.ofW (cc := cX5_canHold) (maxL := 3) (ret := (some .boolean)) (by decide) rfl ?_
  intro p e s m args below meth c s₁ B hml hv
  obtain ⟨rfl, hP, hK, hD⟩ := hv
  have hx := B.exec
  have hb := B.bytes
  have hr := B.returns
  have hts := atoms_spec (ws := wsX5_canHold) B.pre
  have hown : s.vm.findClass RX5 = some m.cls := findClass_of_methodNamed B.named
  have hlocks := B.notSynchronized
  have hS : va_S A s.heap s.heap [] := va_S.rf
  have hl := lv_entry ([.ref (ad 0), .int (nI set)]) (n := 3) (Nat.le_of_ble_eq_true rfl)
  rw [lg_entry_eq]
  generalize (lg_sl ([.ref (ad 0), .int (nI set)]) ++ List.replicate (3 - (lg_sl ([.ref (ad 0), .int (nI set)])).length) Slot.unset).toArray = ls at hl ⊢
  have hl : lv_has ls 3 [(0, .ref (ad 0)), (1, .int (nI set))] := hl
  have hf5 : τ 14 5 = 9528 := hI.from (by omega)
  refine lv_iconst (v := nI 0) hx hb dX5_canHold_0 (by decide) ?_
  refine lv_istore_n (lv' := [(2, .int (nI 0)), (0, .ref (ad 0)), (1, .int (nI set))]) hx hb dX5_canHold_1 rfl hl (by decide) rfl (fun ls hl => ?_)
  have lp2 : ∀ (n : Nat) (r1 : Nat) (ls : Array Slot), (r1 + n = 9528) → (chB τ set = chL τ set n r1) → lv_has ls 3 [(2, .int (nI r1)), (0, .ref (ad 0)), (1, .int (nI set))] → WR p l e rX5_canHold s m (([.ref (ad 0), .int (nI set)] : List Value).toArray) below meth c s.heap (fun r => r = bI (chB τ set)) (F0 m 2 ls []) := by
    intro n
    induction n with
    | zero =>
      intro r1 ls hF1 hF hl
      refine lv_iload_n hx hb dX5_canHold_2 rfl (lv_at hl 0 rfl) ?_
      refine lv_aload_n hx hb dX5_canHold_3 rfl (lv_at hl 1 rfl) ?_
      refine va_get (D := D) (ci := 4) (v := .ref (ad 14)) (C := RX5) (T := TX5) (N := 20) hx hb hts in_X5_canHold_X5 hown hK hP 0 rfl rfl 14 (by decide) (hts _ lk_X5_canHold_50) (fun _ h9 => h9) rfl dX5_canHold_4 ?_
      refine lv_iconst (v := nI 5) hx hb dX5_canHold_7 (by decide) ?_
      refine n_ald hx hb hK hP 13 0 rfl rfl (i := 5) (by omega) (by decide) (v := nI (τ 14 5)) rfl dX5_canHold_8 ?_
      refine n_icmp_ge hx hb (tgt := 32) (by omega) (by omega) dX5_canHold_9 (by decide) (fun c_9 => ?_) (fun c_9 => ?_)
      · refine lv_iconst (v := nI 0) hx hb dX5_canHold_32 (by decide) ?_
        exact W.zret (v := nI 0) hx hb hr (n_nar0) (fun t ht hW => ⟨_, rfl, by rw [hF]; rfl, ht⟩) no_locs dX5_canHold_33
      · omega
    | succ n ih2 =>
      intro r1 ls hF1 hF hl
      refine lv_iload_n hx hb dX5_canHold_2 rfl (lv_at hl 0 rfl) ?_
      refine lv_aload_n hx hb dX5_canHold_3 rfl (lv_at hl 1 rfl) ?_
      refine va_get (D := D) (ci := 4) (v := .ref (ad 14)) (C := RX5) (T := TX5) (N := 20) hx hb hts in_X5_canHold_X5 hown hK hP 0 rfl rfl 14 (by decide) (hts _ lk_X5_canHold_50) (fun _ h9 => h9) rfl dX5_canHold_4 ?_
      refine lv_iconst (v := nI 5) hx hb dX5_canHold_7 (by decide) ?_
      refine n_ald hx hb hK hP 13 0 rfl rfl (i := 5) (by omega) (by decide) (v := nI (τ 14 5)) rfl dX5_canHold_8 ?_
      refine n_icmp_ge hx hb (tgt := 32) (by omega) (by omega) dX5_canHold_9 (by decide) (fun c_9 => ?_) (fun c_9 => ?_)
      · omega
      · refine lv_aload_n hx hb dX5_canHold_12 rfl (lv_at hl 1 rfl) ?_
        refine va_get (D := D) (ci := 4) (v := .ref (ad 13)) (C := RX5) (T := TX5) (N := 20) hx hb hts in_X5_canHold_X5 hown hK hP 0 rfl rfl 13 (by decide) (hts _ lk_X5_canHold_47) (fun _ h9 => h9) rfl dX5_canHold_13 ?_
        refine lv_iload_n hx hb dX5_canHold_16 rfl (lv_at hl 0 rfl) ?_
        refine n_ald hx hb hK hP 12 0 rfl rfl (i := r1) (by omega) (by decide) (v := nI (τ 13 r1)) rfl dX5_canHold_17 ?_
        refine lv_iload_n hx hb dX5_canHold_18 rfl (lv_at hl 2 rfl) ?_
        refine lv_iand hx hb dX5_canHold_19 ?_
        refine n_to (w := nI (τ 13 r1 &&& set)) (nx_and _ _) ?_
        refine lv_iload_n hx hb dX5_canHold_20 rfl (lv_at hl 2 rfl) ?_
        refine q_icmp_ne hx hb (tgt := 26) (nI_eq (by have := and_lt (b := set) (hI.holds (j := r1) (by omega)); omega) (by omega)) dX5_canHold_21 (by decide) (fun c_21 => ?_) (fun c_21 => ?_)
        · refine lv_iinc (v := nI (r1 + 1)) (lv' := [(2, .int (nI (r1 + 1))), (0, .ref (ad 0)), (1, .int (nI set))]) hx hb dX5_canHold_26 hl (k := 0) rfl (nI_add _ _) (by decide) rfl (fun ls hl => ?_)
          refine lv_goto (tgt := 2) hx hb dX5_canHold_29 (by decide) ?_
          exact ih2 (r1 + 1)  _  (by omega) (by rw [hF]; simp only [chL]; rw [if_neg c_21]) (lv_sub hl [0, 1, 2] rfl)
        · refine lv_iconst (v := nI 1) hx hb dX5_canHold_24 (by decide) ?_
          exact W.zret (v := nI 1) hx hb hr (n_nar1) (fun t ht hW => ⟨_, rfl, by rw [hF]; simp only [chL]; rw [if_pos c_21]; rfl, ht⟩) no_locs dX5_canHold_25
  exact lp2 9528 0  _ (by omega) (rfl) (lv_sub hl [0, 1, 2] rfl)
theorem in_X5_all_X5 : ∀ w ∈ wsX50, w ∈ wsX5_all := by decide +kernel
theorem lk_X5_all_109 : Cond.fieldLink RX5 109 "ArrayClaimsModel" "claims" "I" ∈ wsX5_all := by decide +kernel
def rX5_all : Room := { frames := 0, cells := 0, slots := 0, locals := 0 }
set_option maxHeartbeats 4000000 in
set_option maxRecDepth 100000 in
theorem c_X5_all (l : Launch) (D : va_G) (cI cZ : ClassId) (A : Nat → Prop) (ad : Nat → Nat) (τ : Nat → Nat → Nat)  (hc : τ 0 15 ≤ 8) : Met l yX5_all wsX5_all rX5_all (va_Pc [.ref (ad 0)] (Wm D cI cZ A ad τ)) (vp_Si (fun r => r = nI (2 ^ (τ 0 15) - 1))) 0 0 (fun _ => False) := by
  refine Met.ofW (cc := cX5_all) (maxL := 1) (ret := (some .int)) (by decide) rfl ?_
  intro p e s m args below meth c s₁ B hml hv
  obtain ⟨rfl, hP, hK, hD⟩ := hv
  have hx := B.exec
  have hb := B.bytes
  have hr := B.returns
  have hts := atoms_spec (ws := wsX5_all) B.pre
  have hown : s.vm.findClass RX5 = some m.cls := findClass_of_methodNamed B.named
  have hlocks := B.notSynchronized
  have hS : va_S A s.heap s.heap [] := va_S.rf
  have hl := lv_entry ([.ref (ad 0)]) (n := 1) (Nat.le_of_ble_eq_true rfl)
  rw [lg_entry_eq]
  generalize (lg_sl ([.ref (ad 0)]) ++ List.replicate (1 - (lg_sl ([.ref (ad 0)])).length) Slot.unset).toArray = ls at hl ⊢
  have hl : lv_has ls 1 [(0, .ref (ad 0))] := hl
  refine lv_iconst (v := nI 1) hx hb dX5_all_0 (by decide) ?_
  refine lv_aload_n hx hb dX5_all_1 rfl (lv_at hl 0 rfl) ?_
  refine va_get (D := D) (ci := 4) (v := .int (nI (τ 0 15))) (C := RX5) (T := TX5) (N := 20) hx hb hts in_X5_all_X5 hown hK hP 0 rfl rfl 15 (by decide) (hts _ lk_X5_all_109) (fun _ h9 => h9) rfl dX5_all_2 ?_
  refine lv_ishl hx hb dX5_all_5 ?_
  refine n_to (w := nI (2 ^ (τ 0 15))) (all_shl (by omega)) ?_
  refine lv_iconst (v := nI 1) hx hb dX5_all_6 (by decide) ?_
  refine n_sub hx hb (pow1 _) dX5_all_7 ?_
  exact W.iret (v := nI ((2 ^ (τ 0 15)) - 1)) hx hb hr (fun t ht hW => ⟨_, rfl, rfl, ht⟩) no_locs dX5_all_8
theorem in_X5_fail_X5 : ∀ w ∈ wsX50, w ∈ wsX5_fail := by decide +kernel
theorem lk_X5_fail_67 : Cond.fieldLink RX5 67 "ArrayClaimsModel" "thrown" "I" ∈ wsX5_fail := by decide +kernel
def rX5_fail : Room := { frames := 0, cells := 0, slots := 0, locals := 0 }
set_option maxHeartbeats 4000000 in
set_option maxRecDepth 100000 in
theorem c_X5_fail (l : Launch) (D : va_G) (cI cZ : ClassId) (A : Nat → Prop) (ad : Nat → Nat) (τ : Nat → Nat → Nat) (y : Nat)  : Met l yX5_fail wsX5_fail rX5_fail (va_Pc [.ref (ad 0), .int (nI y)] (Wm D cI cZ A ad τ)) (va_Qi (fun r u => r = nI 0 ∧ u = sU τ 0 0 y) (fun u t => Wm D cI cZ A ad u t) A) 0 0 A := by
  refine Met.ofW (cc := cX5_fail) (maxL := 2) (ret := (some .int)) (by decide) rfl ?_
  intro p e s m args below meth c s₁ B hml hv
  obtain ⟨rfl, hP, hK, hD⟩ := hv
  have hx := B.exec
  have hb := B.bytes
  have hr := B.returns
  have hts := atoms_spec (ws := wsX5_fail) B.pre
  have hown : s.vm.findClass RX5 = some m.cls := findClass_of_methodNamed B.named
  have hlocks := B.notSynchronized
  have hS : va_S A s.heap s.heap [] := va_S.rf
  have hl := lv_entry ([.ref (ad 0), .int (nI y)]) (n := 2) (Nat.le_of_ble_eq_true rfl)
  rw [lg_entry_eq]
  generalize (lg_sl ([.ref (ad 0), .int (nI y)]) ++ List.replicate (2 - (lg_sl ([.ref (ad 0), .int (nI y)])).length) Slot.unset).toArray = ls at hl ⊢
  have hl : lv_has ls 2 [(0, .ref (ad 0)), (1, .int (nI y))] := hl
  refine lv_aload_n hx hb dX5_fail_0 rfl (lv_at hl 0 rfl) ?_
  refine lv_iload_n hx hb dX5_fail_1 rfl (lv_at hl 1 rfl) ?_
  refine va_put (D := D) (ci := 4) (v := .int (nI y)) (ty := .int) (C := RX5) (T := TX5) (N := 20) hx hb hts in_X5_fail_X5 tyX5 tyX5_ok nmX5 hown hK hP hD hS 0 rfl rfl 0 (by decide) (hts _ lk_X5_fail_67) (fun _ h9 => h9) rfl (by decide +kernel) rfl rfl (Nat.le_of_ble_eq_true rfl) dX5_fail_2 (fun H locs hP hD hS => ?_)
  have hP : va_P D vwCl (WM ad cI cZ (sU τ 0 0 y)) H := hP
  have hD : va_D A (WM ad cI cZ (sU τ 0 0 y)) := hD
  refine lv_iconst (v := nI 0) hx hb dX5_fail_5 (by decide) ?_
  exact W.iret (v := nI 0) hx hb hr (fun t ht hW => ⟨⟨_, (sU τ 0 0 y), rfl, (⟨rfl, rfl⟩), Wm.go hP hK hD ht hW⟩, hS.F ht⟩) hS.2.2 dX5_fail_6
theorem in_X5_terms_X5 : ∀ w ∈ wsX50, w ∈ wsX5_terms := by decide +kernel
theorem lk_X5_terms_67 : Cond.fieldLink RX5 67 "ArrayClaimsModel" "thrown" "I" ∈ wsX5_terms := by decide +kernel
theorem lk_X5_terms_7 : Cond.fieldLink RX5 7 "ArrayClaimsModel" "terms" "I" ∈ wsX5_terms := by decide +kernel
def rX5_terms : Room := { frames := 0, cells := 0, slots := 0, locals := 0 }
set_option maxHeartbeats 4000000 in
set_option maxRecDepth 100000 in
theorem c_X5_terms (l : Launch) (D : va_G) (cI cZ : ClassId) (A : Nat → Prop) (ad : Nat → Nat) (τ : Nat → Nat → Nat)   : Met l yX5_terms wsX5_terms rX5_terms (va_Pc [.ref (ad 0)] (Wm D cI cZ A ad τ)) (va_Qi (fun r u => r = nI (τ 0 1) ∧ u = sU τ 0 0 0) (fun u t => Wm D cI cZ A ad u t) A) 0 0 A := by
  refine Met.ofW (cc := cX5_terms) (maxL := 1) (ret := (some .int)) (by decide) rfl ?_
  intro p e s m args below meth c s₁ B hml hv
  obtain ⟨rfl, hP, hK, hD⟩ := hv
  have hx := B.exec
  have hb := B.bytes
  have hr := B.returns
  have hts := atoms_spec (ws := wsX5_terms) B.pre
  have hown : s.vm.findClass RX5 = some m.cls := findClass_of_methodNamed B.named
  have hlocks := B.notSynchronized
  have hS : va_S A s.heap s.heap [] := va_S.rf
  have hl := lv_entry ([.ref (ad 0)]) (n := 1) (Nat.le_of_ble_eq_true rfl)
  rw [lg_entry_eq]
  generalize (lg_sl ([.ref (ad 0)]) ++ List.replicate (1 - (lg_sl ([.ref (ad 0)])).length) Slot.unset).toArray = ls at hl ⊢
  have hl : lv_has ls 1 [(0, .ref (ad 0))] := hl
  refine lv_aload_n hx hb dX5_terms_0 rfl (lv_at hl 0 rfl) ?_
  refine lv_iconst (v := nI 0) hx hb dX5_terms_1 (by decide) ?_
  refine va_put (D := D) (ci := 4) (v := .int (nI 0)) (ty := .int) (C := RX5) (T := TX5) (N := 20) hx hb hts in_X5_terms_X5 tyX5 tyX5_ok nmX5 hown hK hP hD hS 0 rfl rfl 0 (by decide) (hts _ lk_X5_terms_67) (fun _ h9 => h9) rfl (by decide +kernel) rfl rfl (Nat.le_of_ble_eq_true rfl) dX5_terms_2 (fun H locs hP hD hS => ?_)
  have hP : va_P D vwCl (WM ad cI cZ (sU τ 0 0 0)) H := hP
  have hD : va_D A (WM ad cI cZ (sU τ 0 0 0)) := hD
  refine lv_aload_n hx hb dX5_terms_5 rfl (lv_at hl 0 rfl) ?_
  refine va_get (D := D) (ci := 4) (v := .int (nI (τ 0 1))) (C := RX5) (T := TX5) (N := 20) hx hb hts in_X5_terms_X5 hown hK hP 0 rfl rfl 1 (by decide) (hts _ lk_X5_terms_7) (fun _ h9 => h9) rfl dX5_terms_6 ?_
  exact W.iret (v := nI (τ 0 1)) hx hb hr (fun t ht hW => ⟨⟨_, (sU τ 0 0 0), rfl, (⟨rfl, rfl⟩), Wm.go hP hK hD ht hW⟩, hS.F ht⟩) hS.2.2 dX5_terms_9
theorem in_X5_draft_X5 : ∀ w ∈ wsX50, w ∈ wsX5_draft := by decide +kernel
theorem lk_X5_draft_67 : Cond.fieldLink RX5 67 "ArrayClaimsModel" "thrown" "I" ∈ wsX5_draft := by decide +kernel
theorem lk_X5_draft_102 : Cond.fieldLink RX5 102 "ArrayClaimsModel" "literals" "I" ∈ wsX5_draft := by decide +kernel
def rX5_draft : Room := { frames := 0, cells := 0, slots := 0, locals := 0 }
set_option maxHeartbeats 4000000 in
set_option maxRecDepth 100000 in
theorem c_X5_draft (l : Launch) (D : va_G) (cI cZ : ClassId) (A : Nat → Prop) (ad : Nat → Nat) (τ : Nat → Nat → Nat)   : Met l yX5_draft wsX5_draft rX5_draft (va_Pc [.ref (ad 0)] (Wm D cI cZ A ad τ)) (va_Qi (fun r u => r = nI (τ 0 16) ∧ u = sU τ 0 0 0) (fun u t => Wm D cI cZ A ad u t) A) 0 0 A := by
  refine Met.ofW (cc := cX5_draft) (maxL := 1) (ret := (some .int)) (by decide) rfl ?_
  intro p e s m args below meth c s₁ B hml hv
  obtain ⟨rfl, hP, hK, hD⟩ := hv
  have hx := B.exec
  have hb := B.bytes
  have hr := B.returns
  have hts := atoms_spec (ws := wsX5_draft) B.pre
  have hown : s.vm.findClass RX5 = some m.cls := findClass_of_methodNamed B.named
  have hlocks := B.notSynchronized
  have hS : va_S A s.heap s.heap [] := va_S.rf
  have hl := lv_entry ([.ref (ad 0)]) (n := 1) (Nat.le_of_ble_eq_true rfl)
  rw [lg_entry_eq]
  generalize (lg_sl ([.ref (ad 0)]) ++ List.replicate (1 - (lg_sl ([.ref (ad 0)])).length) Slot.unset).toArray = ls at hl ⊢
  have hl : lv_has ls 1 [(0, .ref (ad 0))] := hl
  refine lv_aload_n hx hb dX5_draft_0 rfl (lv_at hl 0 rfl) ?_
  refine lv_iconst (v := nI 0) hx hb dX5_draft_1 (by decide) ?_
  refine va_put (D := D) (ci := 4) (v := .int (nI 0)) (ty := .int) (C := RX5) (T := TX5) (N := 20) hx hb hts in_X5_draft_X5 tyX5 tyX5_ok nmX5 hown hK hP hD hS 0 rfl rfl 0 (by decide) (hts _ lk_X5_draft_67) (fun _ h9 => h9) rfl (by decide +kernel) rfl rfl (Nat.le_of_ble_eq_true rfl) dX5_draft_2 (fun H locs hP hD hS => ?_)
  have hP : va_P D vwCl (WM ad cI cZ (sU τ 0 0 0)) H := hP
  have hD : va_D A (WM ad cI cZ (sU τ 0 0 0)) := hD
  refine lv_aload_n hx hb dX5_draft_5 rfl (lv_at hl 0 rfl) ?_
  refine va_get (D := D) (ci := 4) (v := .int (nI (τ 0 16))) (C := RX5) (T := TX5) (N := 20) hx hb hts in_X5_draft_X5 hown hK hP 0 rfl rfl 16 (by decide) (hts _ lk_X5_draft_102) (fun _ h9 => h9) rfl dX5_draft_6 ?_
  exact W.iret (v := nI (τ 0 16)) hx hb hr (fun t ht hW => ⟨⟨_, (sU τ 0 0 0), rfl, (⟨rfl, rfl⟩), Wm.go hP hK hD ht hW⟩, hS.F ht⟩) hS.2.2 dX5_draft_9
theorem in_X5_claims_X5 : ∀ w ∈ wsX50, w ∈ wsX5_claims := by decide +kernel
theorem lk_X5_claims_67 : Cond.fieldLink RX5 67 "ArrayClaimsModel" "thrown" "I" ∈ wsX5_claims := by decide +kernel
theorem lk_X5_claims_109 : Cond.fieldLink RX5 109 "ArrayClaimsModel" "claims" "I" ∈ wsX5_claims := by decide +kernel
def rX5_claims : Room := { frames := 0, cells := 0, slots := 0, locals := 0 }
set_option maxHeartbeats 4000000 in
set_option maxRecDepth 100000 in
theorem c_X5_claims (l : Launch) (D : va_G) (cI cZ : ClassId) (A : Nat → Prop) (ad : Nat → Nat) (τ : Nat → Nat → Nat)   : Met l yX5_claims wsX5_claims rX5_claims (va_Pc [.ref (ad 0)] (Wm D cI cZ A ad τ)) (va_Qi (fun r u => r = nI (τ 0 15) ∧ u = sU τ 0 0 0) (fun u t => Wm D cI cZ A ad u t) A) 0 0 A := by
  refine Met.ofW (cc := cX5_claims) (maxL := 1) (ret := (some .int)) (by decide) rfl ?_
  intro p e s m args below meth c s₁ B hml hv
  obtain ⟨rfl, hP, hK, hD⟩ := hv
  have hx := B.exec
  have hb := B.bytes
  have hr := B.returns
  have hts := atoms_spec (ws := wsX5_claims) B.pre
  have hown : s.vm.findClass RX5 = some m.cls := findClass_of_methodNamed B.named
  have hlocks := B.notSynchronized
  have hS : va_S A s.heap s.heap [] := va_S.rf
  have hl := lv_entry ([.ref (ad 0)]) (n := 1) (Nat.le_of_ble_eq_true rfl)
  rw [lg_entry_eq]
  generalize (lg_sl ([.ref (ad 0)]) ++ List.replicate (1 - (lg_sl ([.ref (ad 0)])).length) Slot.unset).toArray = ls at hl ⊢
  have hl : lv_has ls 1 [(0, .ref (ad 0))] := hl
  refine lv_aload_n hx hb dX5_claims_0 rfl (lv_at hl 0 rfl) ?_
  refine lv_iconst (v := nI 0) hx hb dX5_claims_1 (by decide) ?_
  refine va_put (D := D) (ci := 4) (v := .int (nI 0)) (ty := .int) (C := RX5) (T := TX5) (N := 20) hx hb hts in_X5_claims_X5 tyX5 tyX5_ok nmX5 hown hK hP hD hS 0 rfl rfl 0 (by decide) (hts _ lk_X5_claims_67) (fun _ h9 => h9) rfl (by decide +kernel) rfl rfl (Nat.le_of_ble_eq_true rfl) dX5_claims_2 (fun H locs hP hD hS => ?_)
  have hP : va_P D vwCl (WM ad cI cZ (sU τ 0 0 0)) H := hP
  have hD : va_D A (WM ad cI cZ (sU τ 0 0 0)) := hD
  refine lv_aload_n hx hb dX5_claims_5 rfl (lv_at hl 0 rfl) ?_
  refine va_get (D := D) (ci := 4) (v := .int (nI (τ 0 15))) (C := RX5) (T := TX5) (N := 20) hx hb hts in_X5_claims_X5 hown hK hP 0 rfl rfl 15 (by decide) (hts _ lk_X5_claims_109) (fun _ h9 => h9) rfl dX5_claims_6 ?_
  exact W.iret (v := nI (τ 0 15)) hx hb hr (fun t ht hW => ⟨⟨_, (sU τ 0 0 0), rfl, (⟨rfl, rfl⟩), Wm.go hP hK hD ht hW⟩, hS.F ht⟩) hS.2.2 dX5_claims_9
theorem in_X5_clear_X5 : ∀ w ∈ wsX50, w ∈ wsX5_clear := by decide +kernel
theorem lk_X5_clear_67 : Cond.fieldLink RX5 67 "ArrayClaimsModel" "thrown" "I" ∈ wsX5_clear := by decide +kernel
theorem lk_X5_clear_102 : Cond.fieldLink RX5 102 "ArrayClaimsModel" "literals" "I" ∈ wsX5_clear := by decide +kernel
def rX5_clear : Room := { frames := 0, cells := 0, slots := 0, locals := 0 }
set_option maxHeartbeats 4000000 in
set_option maxRecDepth 100000 in
theorem c_X5_clear (l : Launch) (D : va_G) (cI cZ : ClassId) (A : Nat → Prop) (ad : Nat → Nat) (τ : Nat → Nat → Nat)   : Met l yX5_clear wsX5_clear rX5_clear (va_Pc [.ref (ad 0)] (Wm D cI cZ A ad τ)) (va_Qv (fun u => u = sU (sU τ 0 0 0) 0 16 0) (fun u t => Wm D cI cZ A ad u t) A) 0 0 A := by
  refine Met.ofW (cc := cX5_clear) (maxL := 1) (ret := none) (by decide) rfl ?_
  intro p e s m args below meth c s₁ B hml hv
  obtain ⟨rfl, hP, hK, hD⟩ := hv
  have hx := B.exec
  have hb := B.bytes
  have hr := B.returns
  have hts := atoms_spec (ws := wsX5_clear) B.pre
  have hown : s.vm.findClass RX5 = some m.cls := findClass_of_methodNamed B.named
  have hlocks := B.notSynchronized
  have hS : va_S A s.heap s.heap [] := va_S.rf
  have hl := lv_entry ([.ref (ad 0)]) (n := 1) (Nat.le_of_ble_eq_true rfl)
  rw [lg_entry_eq]
  generalize (lg_sl ([.ref (ad 0)]) ++ List.replicate (1 - (lg_sl ([.ref (ad 0)])).length) Slot.unset).toArray = ls at hl ⊢
  have hl : lv_has ls 1 [(0, .ref (ad 0))] := hl
  refine lv_aload_n hx hb dX5_clear_0 rfl (lv_at hl 0 rfl) ?_
  refine lv_iconst (v := nI 0) hx hb dX5_clear_1 (by decide) ?_
  refine va_put (D := D) (ci := 4) (v := .int (nI 0)) (ty := .int) (C := RX5) (T := TX5) (N := 20) hx hb hts in_X5_clear_X5 tyX5 tyX5_ok nmX5 hown hK hP hD hS 0 rfl rfl 0 (by decide) (hts _ lk_X5_clear_67) (fun _ h9 => h9) rfl (by decide +kernel) rfl rfl (Nat.le_of_ble_eq_true rfl) dX5_clear_2 (fun H locs hP hD hS => ?_)
  have hP : va_P D vwCl (WM ad cI cZ (sU τ 0 0 0)) H := hP
  have hD : va_D A (WM ad cI cZ (sU τ 0 0 0)) := hD
  refine lv_aload_n hx hb dX5_clear_5 rfl (lv_at hl 0 rfl) ?_
  refine lv_iconst (v := nI 0) hx hb dX5_clear_6 (by decide) ?_
  refine va_put (D := D) (ci := 4) (v := .int (nI 0)) (ty := .int) (C := RX5) (T := TX5) (N := 20) hx hb hts in_X5_clear_X5 tyX5 tyX5_ok nmX5 hown hK hP hD hS 0 rfl rfl 16 (by decide) (hts _ lk_X5_clear_102) (fun _ h9 => h9) rfl (by decide +kernel) rfl rfl (Nat.le_of_ble_eq_true rfl) dX5_clear_7 (fun H locs hP hD hS => ?_)
  have hP : va_P D vwCl (WM ad cI cZ (sU (sU τ 0 0 0) 0 16 0)) H := hP
  have hD : va_D A (WM ad cI cZ (sU (sU τ 0 0 0) 0 16 0)) := hD
  exact W.vret hx hb hr (fun t ht hW => ⟨⟨_, rfl, (rfl), Wm.go hP hK hD ht hW⟩, hS.F ht⟩) hS.2.2 dX5_clear_10
theorem in_X5_sort_X5 : ∀ w ∈ wsX50, w ∈ wsX5_sort := by decide +kernel
theorem lk_X5_sort_67 : Cond.fieldLink RX5 67 "ArrayClaimsModel" "thrown" "I" ∈ wsX5_sort := by decide +kernel
theorem lk_X5_sort_13 : Cond.fieldLink RX5 13 "ArrayClaimsModel" "sort" "[I" ∈ wsX5_sort := by decide +kernel
def rX5_sort_in : Room := { frames := 1, cells := 0, slots := 0, locals := 21 }
set_option maxHeartbeats 4000000 in
set_option maxRecDepth 100000 in
theorem c_X5_sort_in (l : Launch) (D : va_G) (cI cZ : ClassId) (A : Nat → Prop) (ad : Nat → Nat) (τ : Nat → Nat → Nat) (j : Nat) (hj : j < τ 0 1) (hc : τ 0 1 ≤ 24) : Met l yX5_sort wsX5_sort rX5_sort_in (va_Pc [.ref (ad 0), .int (nI j)] (Wm D cI cZ A ad τ)) (va_Qi (fun r u => r = nI (τ 2 j) ∧ u = sU τ 0 0 0) (fun u t => Wm D cI cZ A ad u t) A) 0 0 A := by
  refine Met.ofW (cc := cX5_sort) (maxL := 2) (ret := (some .int)) (by decide) rfl ?_
  intro p e s m args below meth c s₁ B hml hv
  obtain ⟨rfl, hP, hK, hD⟩ := hv
  have hx := B.exec
  have hb := B.bytes
  have hr := B.returns
  have hts := atoms_spec (ws := wsX5_sort) B.pre
  have hown : s.vm.findClass RX5 = some m.cls := findClass_of_methodNamed B.named
  have hlocks := B.notSynchronized
  have hS : va_S A s.heap s.heap [] := va_S.rf
  have hl := lv_entry ([.ref (ad 0), .int (nI j)]) (n := 2) (Nat.le_of_ble_eq_true rfl)
  rw [lg_entry_eq]
  generalize (lg_sl ([.ref (ad 0), .int (nI j)]) ++ List.replicate (2 - (lg_sl ([.ref (ad 0), .int (nI j)])).length) Slot.unset).toArray = ls at hl ⊢
  have hl : lv_has ls 2 [(0, .ref (ad 0)), (1, .int (nI j))] := hl
  refine lv_aload_n hx hb dX5_sort_0 rfl (lv_at hl 0 rfl) ?_
  refine lv_iconst (v := nI 0) hx hb dX5_sort_1 (by decide) ?_
  refine va_put (D := D) (ci := 4) (v := .int (nI 0)) (ty := .int) (C := RX5) (T := TX5) (N := 20) hx hb hts in_X5_sort_X5 tyX5 tyX5_ok nmX5 hown hK hP hD hS 0 rfl rfl 0 (by decide) (hts _ lk_X5_sort_67) (fun _ h9 => h9) rfl (by decide +kernel) rfl rfl (Nat.le_of_ble_eq_true rfl) dX5_sort_2 (fun H locs hP hD hS => ?_)
  have hP : va_P D vwCl (WM ad cI cZ (sU τ 0 0 0)) H := hP
  have hD : va_D A (WM ad cI cZ (sU τ 0 0 0)) := hD
  refine lv_aload_n hx hb dX5_sort_5 rfl (lv_at hl 0 rfl) ?_
  refine lv_iload_n hx hb dX5_sort_6 rfl (lv_at hl 1 rfl) ?_
  refine vp_callSi (va_Run.run (va_runV (As := [.int (nI j)]) (rest := []) ⟨hx, hb, hml, hown, hts⟩ (c_X5_isTerm_in l D cI cZ A ad (sU τ 0 0 0) j hj hc) (cwV 1 hts gX5_sort_X5_isTerm rfl rfl rfl (by decide +kernel) ⟨Nat.le_of_ble_eq_true rfl, Nat.le_of_ble_eq_true rfl⟩) ⟨Wm.blind, va_recv hK hP (ci := 4) (q0 := 0) rfl rfl, fun U hU hW => ⟨rfl, Wm.go hP hK hD hU hW⟩⟩ rfl rfl hl.1 rfl (lv_room (Nat.le_of_ble_eq_true rfl)) dX5_sort_7 ⟨Nat.zero_le _, Nat.zero_le _⟩)) (fun r_1 hr_1 => ?_)
  refine n_to (w := bI true) (hr_1.trans rfl) ?_
  refine q_if_eq hx hb (tgt := 22) (bI_z) dX5_sort_10 (by decide) (fun c_10 => ?_) (fun c_10 => ?_)
  · cases c_10
  · refine lv_aload_n hx hb dX5_sort_13 rfl (lv_at hl 0 rfl) ?_
    refine va_get (D := D) (ci := 4) (v := .ref (ad 2)) (C := RX5) (T := TX5) (N := 20) hx hb hts in_X5_sort_X5 hown hK hP 0 rfl rfl 2 (by decide) (hts _ lk_X5_sort_13) (fun _ h9 => h9) rfl dX5_sort_14 ?_
    refine lv_iload_n hx hb dX5_sort_17 rfl (lv_at hl 1 rfl) ?_
    refine n_ald hx hb hK hP 1 0 rfl rfl (i := j) (by omega) (by decide) (v := nI (τ 2 j)) rfl dX5_sort_18 ?_
    refine lv_goto (tgt := 23) hx hb dX5_sort_19 (by decide) ?_
    exact W.iret (v := nI (τ 2 j)) hx hb hr (fun t ht hW => ⟨⟨_, (sU τ 0 0 0), rfl, (⟨rfl, rfl⟩), Wm.go hP hK hD ht hW⟩, hS.F ht⟩) hS.2.2 dX5_sort_23
def rX5_sort_out : Room := { frames := 1, cells := 0, slots := 0, locals := 21 }
set_option maxHeartbeats 4000000 in
set_option maxRecDepth 100000 in
theorem c_X5_sort_out (l : Launch) (D : va_G) (cI cZ : ClassId) (A : Nat → Prop) (ad : Nat → Nat) (τ : Nat → Nat → Nat) (x : Int32) (hxo : x < 0 ∨ nI (τ 0 1) ≤ x) : Met l yX5_sort wsX5_sort rX5_sort_out (va_Pc [.ref (ad 0), .int x] (Wm D cI cZ A ad τ)) (va_Qi (fun r u => r = mI 0 ∧ u = sU τ 0 0 0) (fun u t => Wm D cI cZ A ad u t) A) 0 0 A := by
  refine Met.ofW (cc := cX5_sort) (maxL := 2) (ret := (some .int)) (by decide) rfl ?_
  intro p e s m args below meth c s₁ B hml hv
  obtain ⟨rfl, hP, hK, hD⟩ := hv
  have hx := B.exec
  have hb := B.bytes
  have hr := B.returns
  have hts := atoms_spec (ws := wsX5_sort) B.pre
  have hown : s.vm.findClass RX5 = some m.cls := findClass_of_methodNamed B.named
  have hlocks := B.notSynchronized
  have hS : va_S A s.heap s.heap [] := va_S.rf
  have hl := lv_entry ([.ref (ad 0), .int x]) (n := 2) (Nat.le_of_ble_eq_true rfl)
  rw [lg_entry_eq]
  generalize (lg_sl ([.ref (ad 0), .int x]) ++ List.replicate (2 - (lg_sl ([.ref (ad 0), .int x])).length) Slot.unset).toArray = ls at hl ⊢
  have hl : lv_has ls 2 [(0, .ref (ad 0)), (1, .int x)] := hl
  refine lv_aload_n hx hb dX5_sort_0 rfl (lv_at hl 0 rfl) ?_
  refine lv_iconst (v := nI 0) hx hb dX5_sort_1 (by decide) ?_
  refine va_put (D := D) (ci := 4) (v := .int (nI 0)) (ty := .int) (C := RX5) (T := TX5) (N := 20) hx hb hts in_X5_sort_X5 tyX5 tyX5_ok nmX5 hown hK hP hD hS 0 rfl rfl 0 (by decide) (hts _ lk_X5_sort_67) (fun _ h9 => h9) rfl (by decide +kernel) rfl rfl (Nat.le_of_ble_eq_true rfl) dX5_sort_2 (fun H locs hP hD hS => ?_)
  have hP : va_P D vwCl (WM ad cI cZ (sU τ 0 0 0)) H := hP
  have hD : va_D A (WM ad cI cZ (sU τ 0 0 0)) := hD
  refine lv_aload_n hx hb dX5_sort_5 rfl (lv_at hl 0 rfl) ?_
  refine lv_iload_n hx hb dX5_sort_6 rfl (lv_at hl 1 rfl) ?_
  refine vp_callSi (va_Run.run (va_runV (As := [.int x]) (rest := []) ⟨hx, hb, hml, hown, hts⟩ (c_X5_isTerm_out l D cI cZ A ad (sU τ 0 0 0) x hxo) (cwV 1 hts gX5_sort_X5_isTerm rfl rfl rfl (by decide +kernel) ⟨Nat.le_of_ble_eq_true rfl, Nat.le_of_ble_eq_true rfl⟩) ⟨Wm.blind, va_recv hK hP (ci := 4) (q0 := 0) rfl rfl, fun U hU hW => ⟨rfl, Wm.go hP hK hD hU hW⟩⟩ rfl rfl hl.1 rfl (lv_room (Nat.le_of_ble_eq_true rfl)) dX5_sort_7 ⟨Nat.zero_le _, Nat.zero_le _⟩)) (fun r_1 hr_1 => ?_)
  refine n_to (w := bI false) (hr_1.trans rfl) ?_
  refine q_if_eq hx hb (tgt := 22) (bI_z) dX5_sort_10 (by decide) (fun c_10 => ?_) (fun c_10 => ?_)
  · refine lv_iconst (v := mI 0) hx hb dX5_sort_22 (by decide) ?_
    exact W.iret (v := mI 0) hx hb hr (fun t ht hW => ⟨⟨_, (sU τ 0 0 0), rfl, (⟨rfl, rfl⟩), Wm.go hP hK hD ht hW⟩, hS.F ht⟩) hS.2.2 dX5_sort_23
  · exact absurd rfl c_10
theorem in_X5_keep_X5 : ∀ w ∈ wsX50, w ∈ wsX5_keep := by decide +kernel
theorem lk_X5_keep_67 : Cond.fieldLink RX5 67 "ArrayClaimsModel" "thrown" "I" ∈ wsX5_keep := by decide +kernel
theorem lk_X5_keep_109 : Cond.fieldLink RX5 109 "ArrayClaimsModel" "claims" "I" ∈ wsX5_keep := by decide +kernel
def rX5_keep_in : Room := { frames := 0, cells := 0, slots := 0, locals := 0 }
set_option maxHeartbeats 4000000 in
set_option maxRecDepth 100000 in
theorem c_X5_keep_in (l : Launch) (D : va_G) (cI cZ : ClassId) (A : Nat → Prop) (ad : Nat → Nat) (τ : Nat → Nat → Nat) (k : Nat) (hk : k ≤ τ 0 15) (hc : τ 0 15 ≤ 8) : Met l yX5_keep wsX5_keep rX5_keep_in (va_Pc [.ref (ad 0), .int (nI k)] (Wm D cI cZ A ad τ)) (va_Qi (fun r u => r = bI true ∧ u = sU (sU τ 0 0 0) 0 15 k) (fun u t => Wm D cI cZ A ad u t) A) 0 0 A := by
  refine Met.ofW (cc := cX5_keep) (maxL := 2) (ret := (some .boolean)) (by decide) rfl ?_
  intro p e s m args below meth c s₁ B hml hv
  obtain ⟨rfl, hP, hK, hD⟩ := hv
  have hx := B.exec
  have hb := B.bytes
  have hr := B.returns
  have hts := atoms_spec (ws := wsX5_keep) B.pre
  have hown : s.vm.findClass RX5 = some m.cls := findClass_of_methodNamed B.named
  have hlocks := B.notSynchronized
  have hS : va_S A s.heap s.heap [] := va_S.rf
  have hl := lv_entry ([.ref (ad 0), .int (nI k)]) (n := 2) (Nat.le_of_ble_eq_true rfl)
  rw [lg_entry_eq]
  generalize (lg_sl ([.ref (ad 0), .int (nI k)]) ++ List.replicate (2 - (lg_sl ([.ref (ad 0), .int (nI k)])).length) Slot.unset).toArray = ls at hl ⊢
  have hl : lv_has ls 2 [(0, .ref (ad 0)), (1, .int (nI k))] := hl
  refine lv_aload_n hx hb dX5_keep_0 rfl (lv_at hl 0 rfl) ?_
  refine lv_iconst (v := nI 0) hx hb dX5_keep_1 (by decide) ?_
  refine va_put (D := D) (ci := 4) (v := .int (nI 0)) (ty := .int) (C := RX5) (T := TX5) (N := 20) hx hb hts in_X5_keep_X5 tyX5 tyX5_ok nmX5 hown hK hP hD hS 0 rfl rfl 0 (by decide) (hts _ lk_X5_keep_67) (fun _ h9 => h9) rfl (by decide +kernel) rfl rfl (Nat.le_of_ble_eq_true rfl) dX5_keep_2 (fun H locs hP hD hS => ?_)
  have hP : va_P D vwCl (WM ad cI cZ (sU τ 0 0 0)) H := hP
  have hD : va_D A (WM ad cI cZ (sU τ 0 0 0)) := hD
  refine lv_iload_n hx hb dX5_keep_5 rfl (lv_at hl 1 rfl) ?_
  refine lv_if_lt hx hb (tgt := 17) dX5_keep_6 (by decide) (fun c_6 => ?_) (fun c_6 => ?_)
  · exact absurd c_6 (nI_pos (by omega))
  · refine lv_iload_n hx hb dX5_keep_9 rfl (lv_at hl 1 rfl) ?_
    refine lv_aload_n hx hb dX5_keep_10 rfl (lv_at hl 0 rfl) ?_
    refine va_get (D := D) (ci := 4) (v := .int (nI (τ 0 15))) (C := RX5) (T := TX5) (N := 20) hx hb hts in_X5_keep_X5 hown hK hP 0 rfl rfl 15 (by decide) (hts _ lk_X5_keep_109) (fun _ h9 => h9) rfl dX5_keep_11 ?_
    refine n_icmp_le hx hb (tgt := 19) (by omega) (by omega) dX5_keep_14 (by decide) (fun c_14 => ?_) (fun c_14 => ?_)
    · refine lv_aload_n hx hb dX5_keep_19 rfl (lv_at hl 0 rfl) ?_
      refine lv_iload_n hx hb dX5_keep_20 rfl (lv_at hl 1 rfl) ?_
      refine va_put (D := D) (ci := 4) (v := .int (nI k)) (ty := .int) (C := RX5) (T := TX5) (N := 20) hx hb hts in_X5_keep_X5 tyX5 tyX5_ok nmX5 hown hK hP hD hS 0 rfl rfl 15 (by decide) (hts _ lk_X5_keep_109) (fun _ h9 => h9) rfl (by decide +kernel) rfl rfl (Nat.le_of_ble_eq_true rfl) dX5_keep_21 (fun H locs hP hD hS => ?_)
      have hP : va_P D vwCl (WM ad cI cZ (sU (sU τ 0 0 0) 0 15 k)) H := hP
      have hD : va_D A (WM ad cI cZ (sU (sU τ 0 0 0) 0 15 k)) := hD
      refine lv_iconst (v := nI 1) hx hb dX5_keep_24 (by decide) ?_
      exact W.zret (v := nI 1) hx hb hr (n_nar1) (fun t ht hW => ⟨⟨_, (sU (sU τ 0 0 0) 0 15 k), rfl, (⟨rfl, rfl⟩), Wm.go hP hK hD ht hW⟩, hS.F ht⟩) hS.2.2 dX5_keep_25
    · omega
def rX5_keep_out : Room := { frames := 0, cells := 0, slots := 0, locals := 0 }
set_option maxHeartbeats 4000000 in
set_option maxRecDepth 100000 in
theorem c_X5_keep_out (l : Launch) (D : va_G) (cI cZ : ClassId) (A : Nat → Prop) (ad : Nat → Nat) (τ : Nat → Nat → Nat) (x : Int32) (hxo : x < 0 ∨ ¬ x ≤ nI (τ 0 15)) : Met l yX5_keep wsX5_keep rX5_keep_out (va_Pc [.ref (ad 0), .int x] (Wm D cI cZ A ad τ)) (va_Qi (fun r u => r = bI false ∧ u = sU τ 0 0 0) (fun u t => Wm D cI cZ A ad u t) A) 0 0 A := by
  refine Met.ofW (cc := cX5_keep) (maxL := 2) (ret := (some .boolean)) (by decide) rfl ?_
  intro p e s m args below meth c s₁ B hml hv
  obtain ⟨rfl, hP, hK, hD⟩ := hv
  have hx := B.exec
  have hb := B.bytes
  have hr := B.returns
  have hts := atoms_spec (ws := wsX5_keep) B.pre
  have hown : s.vm.findClass RX5 = some m.cls := findClass_of_methodNamed B.named
  have hlocks := B.notSynchronized
  have hS : va_S A s.heap s.heap [] := va_S.rf
  have hl := lv_entry ([.ref (ad 0), .int x]) (n := 2) (Nat.le_of_ble_eq_true rfl)
  rw [lg_entry_eq]
  generalize (lg_sl ([.ref (ad 0), .int x]) ++ List.replicate (2 - (lg_sl ([.ref (ad 0), .int x])).length) Slot.unset).toArray = ls at hl ⊢
  have hl : lv_has ls 2 [(0, .ref (ad 0)), (1, .int x)] := hl
  refine lv_aload_n hx hb dX5_keep_0 rfl (lv_at hl 0 rfl) ?_
  refine lv_iconst (v := nI 0) hx hb dX5_keep_1 (by decide) ?_
  refine va_put (D := D) (ci := 4) (v := .int (nI 0)) (ty := .int) (C := RX5) (T := TX5) (N := 20) hx hb hts in_X5_keep_X5 tyX5 tyX5_ok nmX5 hown hK hP hD hS 0 rfl rfl 0 (by decide) (hts _ lk_X5_keep_67) (fun _ h9 => h9) rfl (by decide +kernel) rfl rfl (Nat.le_of_ble_eq_true rfl) dX5_keep_2 (fun H locs hP hD hS => ?_)
  have hP : va_P D vwCl (WM ad cI cZ (sU τ 0 0 0)) H := hP
  have hD : va_D A (WM ad cI cZ (sU τ 0 0 0)) := hD
  refine lv_iload_n hx hb dX5_keep_5 rfl (lv_at hl 1 rfl) ?_
  refine lv_if_lt hx hb (tgt := 17) dX5_keep_6 (by decide) (fun c_6 => ?_) (fun c_6 => ?_)
  · refine lv_iconst (v := nI 0) hx hb dX5_keep_17 (by decide) ?_
    exact W.zret (v := nI 0) hx hb hr (n_nar0) (fun t ht hW => ⟨⟨_, (sU τ 0 0 0), rfl, (⟨rfl, rfl⟩), Wm.go hP hK hD ht hW⟩, hS.F ht⟩) hS.2.2 dX5_keep_18
  · refine lv_iload_n hx hb dX5_keep_9 rfl (lv_at hl 1 rfl) ?_
    refine lv_aload_n hx hb dX5_keep_10 rfl (lv_at hl 0 rfl) ?_
    refine va_get (D := D) (ci := 4) (v := .int (nI (τ 0 15))) (C := RX5) (T := TX5) (N := 20) hx hb hts in_X5_keep_X5 hown hK hP 0 rfl rfl 15 (by decide) (hts _ lk_X5_keep_109) (fun _ h9 => h9) rfl dX5_keep_11 ?_
    refine lv_icmp_le hx hb (tgt := 19) dX5_keep_14 (by decide) (fun c_14 => ?_) (fun c_14 => ?_)
    · exact absurd hxo (fun q => q.elim c_6 (fun z => z c_14))
    · refine lv_iconst (v := nI 0) hx hb dX5_keep_17 (by decide) ?_
      exact W.zret (v := nI 0) hx hb hr (n_nar0) (fun t ht hW => ⟨⟨_, (sU τ 0 0 0), rfl, (⟨rfl, rfl⟩), Wm.go hP hK hD ht hW⟩, hS.F ht⟩) hS.2.2 dX5_keep_18
theorem in_X5_can_X5 : ∀ w ∈ wsX50, w ∈ wsX5_can := by decide +kernel
theorem lk_X5_can_67 : Cond.fieldLink RX5 67 "ArrayClaimsModel" "thrown" "I" ∈ wsX5_can := by decide +kernel
def rX5_can : Room := { frames := 1, cells := 0, slots := 0, locals := 22 }
set_option maxHeartbeats 4000000 in
set_option maxRecDepth 100000 in
theorem c_X5_can (l : Launch) (D : va_G) (cI cZ : ClassId) (A : Nat → Prop) (ad : Nat → Nat) (τ : Nat → Nat → Nat)  (hI : IM τ) : Met l yX5_can wsX5_can rX5_can (va_Pc [.ref (ad 0)] (Wm D cI cZ A ad τ)) (va_Qi (fun r u => r = bI (chB τ (2 ^ (τ 0 15) - 1)) ∧ u = sU τ 0 0 0) (fun u t => Wm D cI cZ A ad u t) A) 0 0 A := by
  refine Met.ofW (cc := cX5_can) (maxL := 1) (ret := (some .boolean)) (by decide) rfl ?_
  intro p e s m args below meth c s₁ B hml hv
  obtain ⟨rfl, hP, hK, hD⟩ := hv
  have hx := B.exec
  have hb := B.bytes
  have hr := B.returns
  have hts := atoms_spec (ws := wsX5_can) B.pre
  have hown : s.vm.findClass RX5 = some m.cls := findClass_of_methodNamed B.named
  have hlocks := B.notSynchronized
  have hS : va_S A s.heap s.heap [] := va_S.rf
  have hl := lv_entry ([.ref (ad 0)]) (n := 1) (Nat.le_of_ble_eq_true rfl)
  rw [lg_entry_eq]
  generalize (lg_sl ([.ref (ad 0)]) ++ List.replicate (1 - (lg_sl ([.ref (ad 0)])).length) Slot.unset).toArray = ls at hl ⊢
  have hl : lv_has ls 1 [(0, .ref (ad 0))] := hl
  have hcl := hI.claims
  have hp8 := pow8 hcl
  refine lv_aload_n hx hb dX5_can_0 rfl (lv_at hl 0 rfl) ?_
  refine lv_iconst (v := nI 0) hx hb dX5_can_1 (by decide) ?_
  refine va_put (D := D) (ci := 4) (v := .int (nI 0)) (ty := .int) (C := RX5) (T := TX5) (N := 20) hx hb hts in_X5_can_X5 tyX5 tyX5_ok nmX5 hown hK hP hD hS 0 rfl rfl 0 (by decide) (hts _ lk_X5_can_67) (fun _ h9 => h9) rfl (by decide +kernel) rfl rfl (Nat.le_of_ble_eq_true rfl) dX5_can_2 (fun H locs hP hD hS => ?_)
  have hP : va_P D vwCl (WM ad cI cZ (sU τ 0 0 0)) H := hP
  have hD : va_D A (WM ad cI cZ (sU τ 0 0 0)) := hD
  refine lv_aload_n hx hb dX5_can_5 rfl (lv_at hl 0 rfl) ?_
  refine lv_aload_n hx hb dX5_can_6 rfl (lv_at hl 0 rfl) ?_
  refine vp_callSi (va_Run.run (va_runV (As := []) (rest := [.ref (ad 0)]) ⟨hx, hb, hml, hown, hts⟩ (c_X5_all l D cI cZ A ad (sU τ 0 0 0) hcl) (cwV 0 hts gX5_can_X5_all rfl rfl rfl (by decide +kernel) ⟨Nat.le_of_ble_eq_true rfl, Nat.le_of_ble_eq_true rfl⟩) ⟨Wm.blind, va_recv hK hP (ci := 4) (q0 := 0) rfl rfl, fun U hU hW => ⟨rfl, Wm.go hP hK hD hU hW⟩⟩ rfl rfl hl.1 rfl (lv_room (Nat.le_of_ble_eq_true rfl)) dX5_can_7 ⟨Nat.zero_le _, Nat.zero_le _⟩)) (fun r_1 hr_1 => ?_)
  refine n_to (w := nI (2 ^ (τ 0 15) - 1)) (hr_1.trans rfl) ?_
  refine vp_callSi (va_Run.run (va_runV (As := [.int (nI (2 ^ (τ 0 15) - 1))]) (rest := []) ⟨hx, hb, hml, hown, hts⟩ (c_X5_canHold l D cI cZ A ad (sU τ 0 0 0) (2 ^ (τ 0 15) - 1) (hI.thr 0) (by omega)) (cwV 1 hts gX5_can_X5_canHold rfl rfl rfl (by decide +kernel) ⟨Nat.le_of_ble_eq_true rfl, Nat.le_of_ble_eq_true rfl⟩) ⟨Wm.blind, va_recv hK hP (ci := 4) (q0 := 0) rfl rfl, fun U hU hW => ⟨rfl, Wm.go hP hK hD hU hW⟩⟩ rfl rfl hl.1 rfl (lv_room (Nat.le_of_ble_eq_true rfl)) dX5_can_10 ⟨Nat.zero_le _, Nat.zero_le _⟩)) (fun r_2 hr_2 => ?_)
  refine n_to (w := bI (chB τ (2 ^ (τ 0 15) - 1))) (hr_2.trans (congrArg bI (chB_row (τ := τ) (u := sU τ 0 0 0) rfl _))) ?_
  exact W.zret (v := bI (chB τ (2 ^ (τ 0 15) - 1))) hx hb hr (bI_nar _) (fun t ht hW => ⟨⟨_, (sU τ 0 0 0), rfl, (⟨rfl, rfl⟩), Wm.go hP hK hD ht hW⟩, hS.F ht⟩) hS.2.2 dX5_can_13
theorem in_X5_first_X5 : ∀ w ∈ wsX50, w ∈ wsX5_first := by decide +kernel
theorem lk_X5_first_67 : Cond.fieldLink RX5 67 "ArrayClaimsModel" "thrown" "I" ∈ wsX5_first := by decide +kernel
theorem lk_X5_first_109 : Cond.fieldLink RX5 109 "ArrayClaimsModel" "claims" "I" ∈ wsX5_first := by decide +kernel
def rX5_first : Room := { frames := 1, cells := 0, slots := 0, locals := 22 }
set_option maxHeartbeats 4000000 in
set_option maxRecDepth 100000 in
theorem c_X5_first (l : Launch) (D : va_G) (cI cZ : ClassId) (A : Nat → Prop) (ad : Nat → Nat) (τ : Nat → Nat → Nat)  (hI : IM τ) : Met l yX5_first wsX5_first rX5_first (va_Pc [.ref (ad 0)] (Wm D cI cZ A ad τ)) (va_Qi (fun r u => r = mI (fsL τ (τ 0 15) 0) ∧ u = sU τ 0 0 0) (fun u t => Wm D cI cZ A ad u t) A) 0 0 A := by
  refine Met.ofW (cc := cX5_first) (maxL := 2) (ret := (some .int)) (by decide) rfl ?_
  intro p e s m args below meth c s₁ B hml hv
  obtain ⟨rfl, hP, hK, hD⟩ := hv
  have hx := B.exec
  have hb := B.bytes
  have hr := B.returns
  have hts := atoms_spec (ws := wsX5_first) B.pre
  have hown : s.vm.findClass RX5 = some m.cls := findClass_of_methodNamed B.named
  have hlocks := B.notSynchronized
  have hS : va_S A s.heap s.heap [] := va_S.rf
  have hl := lv_entry ([.ref (ad 0)]) (n := 2) (Nat.le_of_ble_eq_true rfl)
  rw [lg_entry_eq]
  generalize (lg_sl ([.ref (ad 0)]) ++ List.replicate (2 - (lg_sl ([.ref (ad 0)])).length) Slot.unset).toArray = ls at hl ⊢
  have hl : lv_has ls 2 [(0, .ref (ad 0))] := hl
  have hcl := hI.claims
  have hp8 := pow8 hcl
  have hIt := hI.thr 0
  refine lv_aload_n hx hb dX5_first_0 rfl (lv_at hl 0 rfl) ?_
  refine lv_iconst (v := nI 0) hx hb dX5_first_1 (by decide) ?_
  refine va_put (D := D) (ci := 4) (v := .int (nI 0)) (ty := .int) (C := RX5) (T := TX5) (N := 20) hx hb hts in_X5_first_X5 tyX5 tyX5_ok nmX5 hown hK hP hD hS 0 rfl rfl 0 (by decide) (hts _ lk_X5_first_67) (fun _ h9 => h9) rfl (by decide +kernel) rfl rfl (Nat.le_of_ble_eq_true rfl) dX5_first_2 (fun H locs hP hD hS => ?_)
  have hP : va_P D vwCl (WM ad cI cZ (sU τ 0 0 0)) H := hP
  have hD : va_D A (WM ad cI cZ (sU τ 0 0 0)) := hD
  refine lv_iconst (v := nI 0) hx hb dX5_first_5 (by decide) ?_
  refine lv_istore_n (lv' := [(1, .int (nI 0)), (0, .ref (ad 0))]) hx hb dX5_first_6 rfl hl (by decide) rfl (fun ls hl => ?_)
  have lp7 : ∀ (n : Nat) (k : Nat) (ls : Array Slot), (k + n = τ 0 15) → (fsL τ (τ 0 15) 0 = fsL τ n k) → lv_has ls 2 [(1, .int (nI k)), (0, .ref (ad 0))] → W p l e rX5_first s m (([.ref (ad 0)] : List Value).toArray) below meth c H locs 0 0 (MQ below (va_Qi (fun r u => r = mI (fsL τ (τ 0 15) 0) ∧ u = sU τ 0 0 0) (fun u t => Wm D cI cZ A ad u t) A) (([.ref (ad 0)] : List Value).toArray) s 0 0 A) (F0 m 7 ls []) := by
    intro n
    induction n with
    | zero =>
      intro k ls hF1 hF hl
      refine lv_iload_n hx hb dX5_first_7 rfl (lv_at hl 0 rfl) ?_
      refine lv_aload_n hx hb dX5_first_8 rfl (lv_at hl 1 rfl) ?_
      refine va_get (D := D) (ci := 4) (v := .int (nI (τ 0 15))) (C := RX5) (T := TX5) (N := 20) hx hb hts in_X5_first_X5 hown hK hP 0 rfl rfl 15 (by decide) (hts _ lk_X5_first_109) (fun _ h9 => h9) rfl dX5_first_9 ?_
      refine n_icmp_ge hx hb (tgt := 35) (by omega) (by omega) dX5_first_12 (by decide) (fun c_12 => ?_) (fun c_12 => ?_)
      · refine lv_iconst (v := mI 0) hx hb dX5_first_35 (by decide) ?_
        exact W.iret (v := mI 0) hx hb hr (fun t ht hW => ⟨⟨_, (sU τ 0 0 0), rfl, (⟨by rw [hF]; rfl, rfl⟩), Wm.go hP hK hD ht hW⟩, hS.F ht⟩) hS.2.2 dX5_first_36
      · omega
    | succ n ih7 =>
      intro k ls hF1 hF hl
      have hpk := pow8 (c := k) (by omega)
      refine lv_iload_n hx hb dX5_first_7 rfl (lv_at hl 0 rfl) ?_
      refine lv_aload_n hx hb dX5_first_8 rfl (lv_at hl 1 rfl) ?_
      refine va_get (D := D) (ci := 4) (v := .int (nI (τ 0 15))) (C := RX5) (T := TX5) (N := 20) hx hb hts in_X5_first_X5 hown hK hP 0 rfl rfl 15 (by decide) (hts _ lk_X5_first_109) (fun _ h9 => h9) rfl dX5_first_9 ?_
      refine n_icmp_ge hx hb (tgt := 35) (by omega) (by omega) dX5_first_12 (by decide) (fun c_12 => ?_) (fun c_12 => ?_)
      · omega
      · refine lv_aload_n hx hb dX5_first_15 rfl (lv_at hl 1 rfl) ?_
        refine lv_iconst (v := nI 2) hx hb dX5_first_16 (by decide) ?_
        refine lv_iload_n hx hb dX5_first_17 rfl (lv_at hl 0 rfl) ?_
        refine lv_ishl hx hb dX5_first_18 ?_
        refine n_to (w := nI (2 * 2 ^ k)) (all_shl2 (by omega)) ?_
        refine lv_iconst (v := nI 1) hx hb dX5_first_19 (by decide) ?_
        refine n_sub hx hb (by have := pow1 k; omega) dX5_first_20 ?_
        refine vp_callSi (va_Run.run (va_runV (As := [.int (nI ((2 * 2 ^ k) - 1))]) (rest := []) ⟨hx, hb, hml, hown, hts⟩ (c_X5_canHold l D cI cZ A ad (sU τ 0 0 0) (2 * 2 ^ k - 1) hIt (by omega)) (cwV 1 hts gX5_first_X5_canHold rfl rfl rfl (by decide +kernel) ⟨Nat.le_of_ble_eq_true rfl, Nat.le_of_ble_eq_true rfl⟩) ⟨Wm.blind, va_recv hK hP (ci := 4) (q0 := 0) rfl rfl, fun U hU hW => ⟨rfl, Wm.go hP hK hD hU hW⟩⟩ rfl rfl hl.1 rfl (lv_room (Nat.le_of_ble_eq_true rfl)) dX5_first_21 ⟨Nat.zero_le _, Nat.zero_le _⟩)) (fun r_1 hr_1 => ?_)
        refine n_to (w := bI (chB τ (2 * 2 ^ k - 1))) (hr_1.trans (congrArg bI (chB_row (τ := τ) (u := sU τ 0 0 0) rfl _))) ?_
        refine q_if_ne hx hb (tgt := 29) (bI_z) dX5_first_24 (by decide) (fun c_24 => ?_) (fun c_24 => ?_)
        · refine lv_iinc (v := nI (k + 1)) (lv' := [(1, .int (nI (k + 1))), (0, .ref (ad 0))]) hx hb dX5_first_29 hl (k := 0) rfl (nI_add _ _) (by decide) rfl (fun ls hl => ?_)
          refine lv_goto (tgt := 7) hx hb dX5_first_32 (by decide) ?_
          exact ih7 (k + 1)  _  (by omega) (by rw [hF]; simp only [fsL]; rw [if_pos (ts_nf c_24)]) (lv_sub hl [0, 1] rfl)
        · refine lv_iload_n hx hb dX5_first_27 rfl (lv_at hl 0 rfl) ?_
          exact W.iret (v := nI k) hx hb hr (fun t ht hW => ⟨⟨_, (sU τ 0 0 0), rfl, (⟨by rw [hF]; simp only [fsL]; rw [if_neg (ts_ff c_24), mI_succ], rfl⟩), Wm.go hP hK hD ht hW⟩, hS.F ht⟩) hS.2.2 dX5_first_28
  exact lp7 (τ 0 15) 0  _ (by omega) (rfl) (lv_sub hl [0, 1] rfl)
theorem in_X5_without_X5 : ∀ w ∈ wsX50, w ∈ wsX5_without := by decide +kernel
theorem lk_X5_without_109 : Cond.fieldLink RX5 109 "ArrayClaimsModel" "claims" "I" ∈ wsX5_without := by decide +kernel
theorem lk_X5_without_67 : Cond.fieldLink RX5 67 "ArrayClaimsModel" "thrown" "I" ∈ wsX5_without := by decide +kernel
def rX5_without_in : Room := { frames := 1, cells := 0, slots := 0, locals := 22 }
set_option maxHeartbeats 4000000 in
set_option maxRecDepth 100000 in
theorem c_X5_without_in (l : Launch) (D : va_G) (cI cZ : ClassId) (A : Nat → Prop) (ad : Nat → Nat) (τ : Nat → Nat → Nat) (k : Nat) (hI : IM τ) (hk : k < τ 0 15) : Met l yX5_without wsX5_without rX5_without_in (va_Pc [.ref (ad 0), .int (nI k)] (Wm D cI cZ A ad τ)) (va_Qi (fun r u => r = bI (chB τ ((2 ^ (τ 0 15) - 1) &&& (255 - 2 ^ k))) ∧ u = sU τ 0 0 0) (fun u t => Wm D cI cZ A ad u t) A) 0 0 A := by
  refine Met.ofW (cc := cX5_without) (maxL := 2) (ret := (some .boolean)) (by decide) rfl ?_
  intro p e s m args below meth c s₁ B hml hv
  obtain ⟨rfl, hP, hK, hD⟩ := hv
  have hx := B.exec
  have hb := B.bytes
  have hr := B.returns
  have hts := atoms_spec (ws := wsX5_without) B.pre
  have hown : s.vm.findClass RX5 = some m.cls := findClass_of_methodNamed B.named
  have hlocks := B.notSynchronized
  have hS : va_S A s.heap s.heap [] := va_S.rf
  have hl := lv_entry ([.ref (ad 0), .int (nI k)]) (n := 2) (Nat.le_of_ble_eq_true rfl)
  rw [lg_entry_eq]
  generalize (lg_sl ([.ref (ad 0), .int (nI k)]) ++ List.replicate (2 - (lg_sl ([.ref (ad 0), .int (nI k)])).length) Slot.unset).toArray = ls at hl ⊢
  have hl : lv_has ls 2 [(0, .ref (ad 0)), (1, .int (nI k))] := hl
  have hcl := hI.claims
  have hp8 := pow8 hcl
  refine lv_aload_n hx hb dX5_without_0 rfl (lv_at hl 0 rfl) ?_
  refine lv_iload_n hx hb dX5_without_1 rfl (lv_at hl 1 rfl) ?_
  refine lv_if_lt hx hb (tgt := 13) dX5_without_2 (by decide) (fun c_2 => ?_) (fun c_2 => ?_)
  · exact absurd c_2 (nI_pos (by omega))
  · refine lv_iload_n hx hb dX5_without_5 rfl (lv_at hl 1 rfl) ?_
    refine lv_aload_n hx hb dX5_without_6 rfl (lv_at hl 0 rfl) ?_
    refine va_get (D := D) (ci := 4) (v := .int (nI (τ 0 15))) (C := RX5) (T := TX5) (N := 20) hx hb hts in_X5_without_X5 hown hK hP 0 rfl rfl 15 (by decide) (hts _ lk_X5_without_109) (fun _ h9 => h9) rfl dX5_without_7 ?_
    refine n_icmp_lt hx hb (tgt := 17) (by omega) (by omega) dX5_without_10 (by decide) (fun c_10 => ?_) (fun c_10 => ?_)
    · refine lv_iconst (v := nI 0) hx hb dX5_without_17 (by decide) ?_
      refine va_put (D := D) (ci := 4) (v := .int (nI 0)) (ty := .int) (C := RX5) (T := TX5) (N := 20) hx hb hts in_X5_without_X5 tyX5 tyX5_ok nmX5 hown hK hP hD hS 0 rfl rfl 0 (by decide) (hts _ lk_X5_without_67) (fun _ h9 => h9) rfl (by decide +kernel) rfl rfl (Nat.le_of_ble_eq_true rfl) dX5_without_18 (fun H locs hP hD hS => ?_)
      have hP : va_P D vwCl (WM ad cI cZ (sU τ 0 0 0)) H := hP
      have hD : va_D A (WM ad cI cZ (sU τ 0 0 0)) := hD
      refine lv_aload_n hx hb dX5_without_21 rfl (lv_at hl 0 rfl) ?_
      refine va_get (D := D) (ci := 4) (v := .int (nI 0)) (C := RX5) (T := TX5) (N := 20) hx hb hts in_X5_without_X5 hown hK hP 0 rfl rfl 0 (by decide) (hts _ lk_X5_without_67) (fun _ h9 => h9) rfl dX5_without_22 ?_
      refine q_if_ne hx hb (tgt := 49) (nI_z (by omega)) dX5_without_25 (by decide) (fun c_25 => ?_) (fun c_25 => ?_)
      · exact absurd c_25 (by decide)
      · refine lv_aload_n hx hb dX5_without_28 rfl (lv_at hl 0 rfl) ?_
        refine lv_aload_n hx hb dX5_without_29 rfl (lv_at hl 0 rfl) ?_
        refine vp_callSi (va_Run.run (va_runV (As := []) (rest := [.ref (ad 0)]) ⟨hx, hb, hml, hown, hts⟩ (c_X5_all l D cI cZ A ad (sU τ 0 0 0) hcl) (cwV 0 hts gX5_without_X5_all rfl rfl rfl (by decide +kernel) ⟨Nat.le_of_ble_eq_true rfl, Nat.le_of_ble_eq_true rfl⟩) ⟨Wm.blind, va_recv hK hP (ci := 4) (q0 := 0) rfl rfl, fun U hU hW => ⟨rfl, Wm.go hP hK hD hU hW⟩⟩ rfl rfl hl.1 rfl (lv_room (Nat.le_of_ble_eq_true rfl)) dX5_without_30 ⟨Nat.zero_le _, Nat.zero_le _⟩)) (fun r_1 hr_1 => ?_)
        refine n_to (w := nI (2 ^ (τ 0 15) - 1)) (hr_1.trans rfl) ?_
        refine lv_iconst (v := nI 1) hx hb dX5_without_33 (by decide) ?_
        refine lv_iload_n hx hb dX5_without_34 rfl (lv_at hl 1 rfl) ?_
        refine lv_ishl hx hb dX5_without_35 ?_
        refine n_to (w := nI (2 ^ k)) (all_shl (by omega)) ?_
        refine lv_iconst (v := mI 0) hx hb dX5_without_36 (by decide) ?_
        refine lv_ixor hx hb dX5_without_37 ?_
        refine n_to (w := (nI (2 ^ k) ^^^ mI 0)) (rfl) ?_
        refine lv_iand hx hb dX5_without_38 ?_
        refine n_to (w := nI ((2 ^ (τ 0 15) - 1) &&& (255 - 2 ^ k))) (clr_ok k (by omega) _ (by omega)) ?_
        refine vp_callSi (va_Run.run (va_runV (As := [.int (nI ((2 ^ (τ 0 15) - 1) &&& (255 - 2 ^ k)))]) (rest := []) ⟨hx, hb, hml, hown, hts⟩ (c_X5_canHold l D cI cZ A ad (sU τ 0 0 0) ((2 ^ (τ 0 15) - 1) &&& (255 - 2 ^ k)) (hI.thr 0) (by have := and_lt (b := 255 - 2 ^ k) (show 2 ^ (τ 0 15) - 1 < 256 by omega); omega)) (cwV 1 hts gX5_without_X5_canHold rfl rfl rfl (by decide +kernel) ⟨Nat.le_of_ble_eq_true rfl, Nat.le_of_ble_eq_true rfl⟩) ⟨Wm.blind, va_recv hK hP (ci := 4) (q0 := 0) rfl rfl, fun U hU hW => ⟨rfl, Wm.go hP hK hD hU hW⟩⟩ rfl rfl hl.1 rfl (lv_room (Nat.le_of_ble_eq_true rfl)) dX5_without_39 ⟨Nat.zero_le _, Nat.zero_le _⟩)) (fun r_2 hr_2 => ?_)
        refine n_to (w := bI (chB τ ((2 ^ (τ 0 15) - 1) &&& (255 - 2 ^ k)))) (hr_2.trans (congrArg bI (chB_row (τ := τ) (u := sU τ 0 0 0) rfl _))) ?_
        refine q_if_eq hx hb (tgt := 49) (bI_z) dX5_without_42 (by decide) (fun c_42 => ?_) (fun c_42 => ?_)
        · refine lv_iconst (v := nI 0) hx hb dX5_without_49 (by decide) ?_
          exact W.zret (v := nI 0) hx hb hr (n_nar0) (fun t ht hW => ⟨⟨_, (sU τ 0 0 0), rfl, (⟨by first | (rw [c_42]; rfl) | (rw [ts_nf c_42]; rfl), rfl⟩), Wm.go hP hK hD ht hW⟩, hS.F ht⟩) hS.2.2 dX5_without_50
        · refine lv_iconst (v := nI 1) hx hb dX5_without_45 (by decide) ?_
          refine lv_goto (tgt := 50) hx hb dX5_without_46 (by decide) ?_
          exact W.zret (v := nI 1) hx hb hr (n_nar1) (fun t ht hW => ⟨⟨_, (sU τ 0 0 0), rfl, (⟨by first | (rw [c_42]; rfl) | (rw [ts_nf c_42]; rfl), rfl⟩), Wm.go hP hK hD ht hW⟩, hS.F ht⟩) hS.2.2 dX5_without_50
    · omega
def rX5_without_out : Room := { frames := 0, cells := 0, slots := 0, locals := 0 }
set_option maxHeartbeats 4000000 in
set_option maxRecDepth 100000 in
theorem c_X5_without_out (l : Launch) (D : va_G) (cI cZ : ClassId) (A : Nat → Prop) (ad : Nat → Nat) (τ : Nat → Nat → Nat) (x : Int32) (hxo : x < 0 ∨ ¬ x < nI (τ 0 15)) : Met l yX5_without wsX5_without rX5_without_out (va_Pc [.ref (ad 0), .int x] (Wm D cI cZ A ad τ)) (va_Qi (fun r u => r = bI false ∧ u = sU τ 0 0 1) (fun u t => Wm D cI cZ A ad u t) A) 0 0 A := by
  refine Met.ofW (cc := cX5_without) (maxL := 2) (ret := (some .boolean)) (by decide) rfl ?_
  intro p e s m args below meth c s₁ B hml hv
  obtain ⟨rfl, hP, hK, hD⟩ := hv
  have hx := B.exec
  have hb := B.bytes
  have hr := B.returns
  have hts := atoms_spec (ws := wsX5_without) B.pre
  have hown : s.vm.findClass RX5 = some m.cls := findClass_of_methodNamed B.named
  have hlocks := B.notSynchronized
  have hS : va_S A s.heap s.heap [] := va_S.rf
  have hl := lv_entry ([.ref (ad 0), .int x]) (n := 2) (Nat.le_of_ble_eq_true rfl)
  rw [lg_entry_eq]
  generalize (lg_sl ([.ref (ad 0), .int x]) ++ List.replicate (2 - (lg_sl ([.ref (ad 0), .int x])).length) Slot.unset).toArray = ls at hl ⊢
  have hl : lv_has ls 2 [(0, .ref (ad 0)), (1, .int x)] := hl
  refine lv_aload_n hx hb dX5_without_0 rfl (lv_at hl 0 rfl) ?_
  refine lv_iload_n hx hb dX5_without_1 rfl (lv_at hl 1 rfl) ?_
  refine lv_if_lt hx hb (tgt := 13) dX5_without_2 (by decide) (fun c_2 => ?_) (fun c_2 => ?_)
  · refine lv_iconst (v := nI 1) hx hb dX5_without_13 (by decide) ?_
    refine lv_goto (tgt := 18) hx hb dX5_without_14 (by decide) ?_
    refine va_put (D := D) (ci := 4) (v := .int (nI 1)) (ty := .int) (C := RX5) (T := TX5) (N := 20) hx hb hts in_X5_without_X5 tyX5 tyX5_ok nmX5 hown hK hP hD hS 0 rfl rfl 0 (by decide) (hts _ lk_X5_without_67) (fun _ h9 => h9) rfl (by decide +kernel) rfl rfl (Nat.le_of_ble_eq_true rfl) dX5_without_18 (fun H locs hP hD hS => ?_)
    have hP : va_P D vwCl (WM ad cI cZ (sU τ 0 0 1)) H := hP
    have hD : va_D A (WM ad cI cZ (sU τ 0 0 1)) := hD
    refine lv_aload_n hx hb dX5_without_21 rfl (lv_at hl 0 rfl) ?_
    refine va_get (D := D) (ci := 4) (v := .int (nI 1)) (C := RX5) (T := TX5) (N := 20) hx hb hts in_X5_without_X5 hown hK hP 0 rfl rfl 0 (by decide) (hts _ lk_X5_without_67) (fun _ h9 => h9) rfl dX5_without_22 ?_
    refine q_if_ne hx hb (tgt := 49) (nI_z (by omega)) dX5_without_25 (by decide) (fun c_25 => ?_) (fun c_25 => ?_)
    · refine lv_iconst (v := nI 0) hx hb dX5_without_49 (by decide) ?_
      exact W.zret (v := nI 0) hx hb hr (n_nar0) (fun t ht hW => ⟨⟨_, (sU τ 0 0 1), rfl, (⟨rfl, rfl⟩), Wm.go hP hK hD ht hW⟩, hS.F ht⟩) hS.2.2 dX5_without_50
    · exact absurd c_25 (by decide)
  · refine lv_iload_n hx hb dX5_without_5 rfl (lv_at hl 1 rfl) ?_
    refine lv_aload_n hx hb dX5_without_6 rfl (lv_at hl 0 rfl) ?_
    refine va_get (D := D) (ci := 4) (v := .int (nI (τ 0 15))) (C := RX5) (T := TX5) (N := 20) hx hb hts in_X5_without_X5 hown hK hP 0 rfl rfl 15 (by decide) (hts _ lk_X5_without_109) (fun _ h9 => h9) rfl dX5_without_7 ?_
    refine lv_icmp_lt hx hb (tgt := 17) dX5_without_10 (by decide) (fun c_10 => ?_) (fun c_10 => ?_)
    · exact absurd hxo (fun q => q.elim c_2 (fun z => z c_10))
    · refine lv_iconst (v := nI 1) hx hb dX5_without_13 (by decide) ?_
      refine lv_goto (tgt := 18) hx hb dX5_without_14 (by decide) ?_
      refine va_put (D := D) (ci := 4) (v := .int (nI 1)) (ty := .int) (C := RX5) (T := TX5) (N := 20) hx hb hts in_X5_without_X5 tyX5 tyX5_ok nmX5 hown hK hP hD hS 0 rfl rfl 0 (by decide) (hts _ lk_X5_without_67) (fun _ h9 => h9) rfl (by decide +kernel) rfl rfl (Nat.le_of_ble_eq_true rfl) dX5_without_18 (fun H locs hP hD hS => ?_)
      have hP : va_P D vwCl (WM ad cI cZ (sU τ 0 0 1)) H := hP
      have hD : va_D A (WM ad cI cZ (sU τ 0 0 1)) := hD
      refine lv_aload_n hx hb dX5_without_21 rfl (lv_at hl 0 rfl) ?_
      refine va_get (D := D) (ci := 4) (v := .int (nI 1)) (C := RX5) (T := TX5) (N := 20) hx hb hts in_X5_without_X5 hown hK hP 0 rfl rfl 0 (by decide) (hts _ lk_X5_without_67) (fun _ h9 => h9) rfl dX5_without_22 ?_
      refine q_if_ne hx hb (tgt := 49) (nI_z (by omega)) dX5_without_25 (by decide) (fun c_25 => ?_) (fun c_25 => ?_)
      · refine lv_iconst (v := nI 0) hx hb dX5_without_49 (by decide) ?_
        exact W.zret (v := nI 0) hx hb hr (n_nar0) (fun t ht hW => ⟨⟨_, (sU τ 0 0 1), rfl, (⟨rfl, rfl⟩), Wm.go hP hK hD ht hW⟩, hS.F ht⟩) hS.2.2 dX5_without_50
      · exact absurd c_25 (by decide)
