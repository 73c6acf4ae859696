theorem in_X5_follows_X5 : ∀ w ∈ wsX50, w ∈ wsX5_follows := by decide +kernel
theorem lk_X5_follows_102 : Cond.fieldLink RX5 102 "ArrayClaimsModel" "literals" "I" ∈ wsX5_follows := by decide +kernel
theorem lk_X5_follows_67 : Cond.fieldLink RX5 67 "ArrayClaimsModel" "thrown" "I" ∈ wsX5_follows := by decide +kernel
def rX5_follows_none : Room := { frames := 1, cells := 0, slots := 0, locals := 20 }
set_option maxHeartbeats 4000000 in
set_option maxRecDepth 100000 in
theorem c_X5_follows_none (l : Launch) (D : va_G) (cI cZ : ClassId) (A : Nat → Prop) (ad : Nat → Nat) (τ : Nat → Nat → Nat)  (hI : IM τ) (hz : τ 0 16 = 0) : Met l yX5_follows wsX5_follows rX5_follows_none (va_Pc [.ref (ad 0)] (Wm D cI cZ A ad τ)) (va_Qi (fun r u => r = bI false ∧ u = sU τ 0 0 1) (fun u t => Wm D cI cZ A ad u t) A) 0 0 A := by
  refine Met.ofW (cc := cX5_follows) (maxL := 5) (ret := (some .boolean)) (by decide) rfl ?_
  intro p e s m args below meth c s₁ B hml hv
  obtain ⟨rfl, hP, hK, hD⟩ := hv
  have hx := B.exec
  have hb := B.bytes
  have hr := B.returns
  have hts := atoms_spec (ws := wsX5_follows) B.pre
  have hown : s.vm.findClass RX5 = some m.cls := findClass_of_methodNamed B.named
  have hlocks := B.notSynchronized
  have hS : va_S A s.heap s.heap [] := va_S.rf
  have hl := lv_entry ([.ref (ad 0)]) (n := 5) (Nat.le_of_ble_eq_true rfl)
  rw [lg_entry_eq]
  generalize (lg_sl ([.ref (ad 0)]) ++ List.replicate (5 - (lg_sl ([.ref (ad 0)])).length) Slot.unset).toArray = ls at hl ⊢
  have hl : lv_has ls 5 [(0, .ref (ad 0))] := hl
  have hcl := hI.claims
  have hp8 := pow8 hcl
  refine lv_aload_n hx hb dX5_follows_0 rfl (lv_at hl 0 rfl) ?_
  refine lv_aload_n hx hb dX5_follows_1 rfl (lv_at hl 0 rfl) ?_
  refine va_get (D := D) (ci := 4) (v := .int (nI (τ 0 16))) (C := RX5) (T := TX5) (N := 20) hx hb hts in_X5_follows_X5 hown hK hP 0 rfl rfl 16 (by decide) (hts _ lk_X5_follows_102) (fun _ h9 => h9) rfl dX5_follows_2 ?_
  refine q_if_ne hx hb (tgt := 12) (nI_z (by omega)) dX5_follows_5 (by decide) (fun c_5 => ?_) (fun c_5 => ?_)
  · exact absurd hz c_5
  · refine lv_iconst (v := nI 1) hx hb dX5_follows_8 (by decide) ?_
    refine lv_goto (tgt := 13) hx hb dX5_follows_9 (by decide) ?_
    refine va_put (D := D) (ci := 4) (v := .int (nI 1)) (ty := .int) (C := RX5) (T := TX5) (N := 20) hx hb hts in_X5_follows_X5 tyX5 tyX5_ok nmX5 hown hK hP hD hS 0 rfl rfl 0 (by decide) (hts _ lk_X5_follows_67) (fun _ h9 => h9) rfl (by decide +kernel) rfl rfl (Nat.le_of_ble_eq_true rfl) dX5_follows_13 (fun H locs hP hD hS => ?_)
    have hP : va_P D vwCl (WM ad cI cZ (sU τ 0 0 1)) H := hP
    have hD : va_D A (WM ad cI cZ (sU τ 0 0 1)) := hD
    refine lv_aload_n hx hb dX5_follows_16 rfl (lv_at hl 0 rfl) ?_
    refine va_get (D := D) (ci := 4) (v := .int (nI 1)) (C := RX5) (T := TX5) (N := 20) hx hb hts in_X5_follows_X5 hown hK hP 0 rfl rfl 0 (by decide) (hts _ lk_X5_follows_67) (fun _ h9 => h9) rfl dX5_follows_17 ?_
    refine q_if_ne hx hb (tgt := 27) (nI_z (by omega)) dX5_follows_20 (by decide) (fun c_20 => ?_) (fun c_20 => ?_)
    · refine lv_iconst (v := nI 0) hx hb dX5_follows_27 (by decide) ?_
      refine lv_istore_n (lv' := [(1, .int (nI 0)), (0, .ref (ad 0))]) hx hb dX5_follows_28 rfl hl (by decide) rfl (fun ls hl => ?_)
      refine lv_aload_n hx hb dX5_follows_29 rfl (lv_at hl 1 rfl) ?_
      refine vp_callSi (va_Run.run (va_runV (As := []) (rest := []) ⟨hx, hb, hml, hown, hts⟩ (c_X5_all l D cI cZ A ad (sU τ 0 0 1) hcl) (cwV 0 hts gX5_follows_X5_all rfl rfl rfl (by decide +kernel) ⟨Nat.le_of_ble_eq_true rfl, Nat.le_of_ble_eq_true rfl⟩) ⟨Wm.blind, va_recv hK hP (ci := 4) (q0 := 0) rfl rfl, fun U hU hW => ⟨rfl, Wm.go hP hK hD hU hW⟩⟩ rfl rfl hl.1 rfl (lv_room (Nat.le_of_ble_eq_true rfl)) dX5_follows_30 ⟨Nat.zero_le _, Nat.zero_le _⟩)) (fun r_1 hr_1 => ?_)
      refine n_to (w := nI (2 ^ (τ 0 15) - 1)) (hr_1.trans rfl) ?_
      refine lv_istore_n (lv' := [(2, .int (nI (2 ^ (τ 0 15) - 1))), (1, .int (nI 0)), (0, .ref (ad 0))]) hx hb dX5_follows_33 rfl hl (by decide) rfl (fun ls hl => ?_)
      refine lv_iconst (v := nI 0) hx hb dX5_follows_34 (by decide) ?_
      refine lv_istore_n (lv' := [(3, .int (nI 0)), (2, .int (nI (2 ^ (τ 0 15) - 1))), (1, .int (nI 0)), (0, .ref (ad 0))]) hx hb dX5_follows_35 rfl hl (by decide) rfl (fun ls hl => ?_)
      refine lv_iload_n hx hb dX5_follows_36 rfl (lv_at hl 0 rfl) ?_
      refine lv_iconst (v := nI 5) hx hb dX5_follows_37 (by decide) ?_
      refine n_icmp_ge hx hb (tgt := 111) (by omega) (by omega) dX5_follows_38 (by decide) (fun c_38 => ?_) (fun c_38 => ?_)
      · exact absurd c_38 (by decide)
      · refine lv_iload_n hx hb dX5_follows_41 rfl (lv_at hl 2 rfl) ?_
        refine q_if_eq hx hb (tgt := 111) (nI_z (by omega)) dX5_follows_42 (by decide) (fun c_42 => ?_) (fun c_42 => ?_)
        · refine lv_iload_n hx hb dX5_follows_111 rfl (lv_at hl 2 rfl) ?_
          exact W.zret (v := nI 0) hx hb hr (n_nar0) (fun t ht hW => ⟨⟨_, (sU τ 0 0 1), rfl, (⟨rfl, rfl⟩), Wm.go hP hK hD ht hW⟩, hS.F ht⟩) hS.2.2 dX5_follows_112
        · exact absurd c_42 (by decide)
    · exact absurd c_20 (by decide)
theorem lk_X5_follows_50 : Cond.fieldLink RX5 50 "ArrayClaimsModel" "from" "[I" ∈ wsX5_follows := by decide +kernel
theorem lk_X5_follows_47 : Cond.fieldLink RX5 47 "ArrayClaimsModel" "holds" "[I" ∈ wsX5_follows := by decide +kernel
def rX5_follows_ok : Room := { frames := 4, cells := 0, slots := 0, locals := 99 }
set_option maxHeartbeats 4000000 in
set_option maxRecDepth 100000 in
theorem c_X5_follows_ok (l : Launch) (D : va_G) (cI cZ : ClassId) (A : Nat → Prop) (ad : Nat → Nat) (τ : Nat → Nat → Nat)  (hI : IM τ) (hDS : DrS τ) (hz : τ 0 16 ≠ 0) : Met l yX5_follows wsX5_follows rX5_follows_ok (va_Pc [.ref (ad 0)] (Wm D cI cZ A ad τ)) (va_Qi (fun r u => r = bI (follB τ) ∧ u = sU τ 0 0 0) (fun u t => Wm D cI cZ A ad u t) A) 0 0 A := by
  refine Met.ofW (cc := cX5_follows) (maxL := 5) (ret := (some .boolean)) (by decide) rfl ?_
  intro p e s m args below meth c s₁ B hml hv
  obtain ⟨rfl, hP, hK, hD⟩ := hv
  have hx := B.exec
  have hb := B.bytes
  have hr := B.returns
  have hts := atoms_spec (ws := wsX5_follows) B.pre
  have hown : s.vm.findClass RX5 = some m.cls := findClass_of_methodNamed B.named
  have hlocks := B.notSynchronized
  have hS : va_S A s.heap s.heap [] := va_S.rf
  have hl := lv_entry ([.ref (ad 0)]) (n := 5) (Nat.le_of_ble_eq_true rfl)
  rw [lg_entry_eq]
  generalize (lg_sl ([.ref (ad 0)]) ++ List.replicate (5 - (lg_sl ([.ref (ad 0)])).length) Slot.unset).toArray = ls at hl ⊢
  have hl : lv_has ls 5 [(0, .ref (ad 0))] := hl
  have hcl := hI.claims
  have hp8 := pow8 hcl
  have hli := hI.lits
  refine lv_aload_n hx hb dX5_follows_0 rfl (lv_at hl 0 rfl) ?_
  refine lv_aload_n hx hb dX5_follows_1 rfl (lv_at hl 0 rfl) ?_
  refine va_get (D := D) (ci := 4) (v := .int (nI (τ 0 16))) (C := RX5) (T := TX5) (N := 20) hx hb hts in_X5_follows_X5 hown hK hP 0 rfl rfl 16 (by decide) (hts _ lk_X5_follows_102) (fun _ h9 => h9) rfl dX5_follows_2 ?_
  refine q_if_ne hx hb (tgt := 12) (nI_z (by omega)) dX5_follows_5 (by decide) (fun c_5 => ?_) (fun c_5 => ?_)
  · refine lv_iconst (v := nI 0) hx hb dX5_follows_12 (by decide) ?_
    refine va_put (D := D) (ci := 4) (v := .int (nI 0)) (ty := .int) (C := RX5) (T := TX5) (N := 20) hx hb hts in_X5_follows_X5 tyX5 tyX5_ok nmX5 hown hK hP hD hS 0 rfl rfl 0 (by decide) (hts _ lk_X5_follows_67) (fun _ h9 => h9) rfl (by decide +kernel) rfl rfl (Nat.le_of_ble_eq_true rfl) dX5_follows_13 (fun H locs hP hD hS => ?_)
    have hP : va_P D vwCl (WM ad cI cZ (sU τ 0 0 0)) H := hP
    have hD : va_D A (WM ad cI cZ (sU τ 0 0 0)) := hD
    refine lv_aload_n hx hb dX5_follows_16 rfl (lv_at hl 0 rfl) ?_
    refine va_get (D := D) (ci := 4) (v := .int (nI 0)) (C := RX5) (T := TX5) (N := 20) hx hb hts in_X5_follows_X5 hown hK hP 0 rfl rfl 0 (by decide) (hts _ lk_X5_follows_67) (fun _ h9 => h9) rfl dX5_follows_17 ?_
    refine q_if_ne hx hb (tgt := 27) (nI_z (by omega)) dX5_follows_20 (by decide) (fun c_20 => ?_) (fun c_20 => ?_)
    · exact absurd c_20 (by decide)
    · refine lv_iconst (v := nI 1) hx hb dX5_follows_23 (by decide) ?_
      refine lv_goto (tgt := 28) hx hb dX5_follows_24 (by decide) ?_
      refine lv_istore_n (lv' := [(1, .int (nI 1)), (0, .ref (ad 0))]) hx hb dX5_follows_28 rfl hl (by decide) rfl (fun ls hl => ?_)
      refine lv_aload_n hx hb dX5_follows_29 rfl (lv_at hl 1 rfl) ?_
      refine vp_callSi (va_Run.run (va_runV (As := []) (rest := []) ⟨hx, hb, hml, hown, hts⟩ (c_X5_all l D cI cZ A ad (sU τ 0 0 0) hcl) (cwV 0 hts gX5_follows_X5_all rfl rfl rfl (by decide +kernel) ⟨Nat.le_of_ble_eq_true rfl, Nat.le_of_ble_eq_true rfl⟩) ⟨Wm.blind, va_recv hK hP (ci := 4) (q0 := 0) rfl rfl, fun U hU hW => ⟨rfl, Wm.go hP hK hD hU hW⟩⟩ rfl rfl hl.1 rfl (lv_room (Nat.le_of_ble_eq_true rfl)) dX5_follows_30 ⟨Nat.zero_le _, Nat.zero_le _⟩)) (fun r_1 hr_1 => ?_)
      refine n_to (w := nI (2 ^ (τ 0 15) - 1)) (hr_1.trans rfl) ?_
      refine lv_istore_n (lv' := [(2, .int (nI (2 ^ (τ 0 15) - 1))), (1, .int (nI 1)), (0, .ref (ad 0))]) hx hb dX5_follows_33 rfl hl (by decide) rfl (fun ls hl => ?_)
      refine lv_iconst (v := nI 0) hx hb dX5_follows_34 (by decide) ?_
      refine lv_istore_n (lv' := [(3, .int (nI 0)), (2, .int (nI (2 ^ (τ 0 15) - 1))), (1, .int (nI 1)), (0, .ref (ad 0))]) hx hb dX5_follows_35 rfl hl (by decide) rfl (fun ls hl => ?_)
      have lp36 : ∀ (n : Nat) (p1 : Nat) (ev : Bool) (ls : Array Slot), (p1 + n = 5) → (ev = true ↔ ∀ p r, Vis p1 0 p r → flY τ p r) → lv_has ls 5 [(3, .int (nI p1)), (1, .int (bI ev)), (2, .int (nI (2 ^ (τ 0 15) - 1))), (0, .ref (ad 0))] → W p l e rX5_follows_ok s m (([.ref (ad 0)] : List Value).toArray) below meth c H locs 0 0 (MQ below (va_Qi (fun r u => r = bI (follB τ) ∧ u = sU τ 0 0 0) (fun u t => Wm D cI cZ A ad u t) A) (([.ref (ad 0)] : List Value).toArray) s 0 0 A) (F0 m 36 ls []) := by
        intro n
        induction n with
        | zero =>
          intro p1 ev ls hF1 hev hl
          obtain rfl : p1 = 5 := by omega
          have hfin := fol_end hev
          refine lv_iload_n hx hb dX5_follows_36 rfl (lv_at hl 0 rfl) ?_
          refine lv_iconst (v := nI 5) hx hb dX5_follows_37 (by decide) ?_
          refine n_icmp_ge hx hb (tgt := 111) (by omega) (by omega) dX5_follows_38 (by decide) (fun c_38 => ?_) (fun c_38 => ?_)
          · refine lv_iload_n hx hb dX5_follows_111 rfl (lv_at hl 1 rfl) ?_
            exact W.zret (v := bI ev) hx hb hr (bI_nar _) (fun t ht hW => ⟨⟨_, (sU τ 0 0 0), rfl, (⟨by rw [hfin], rfl⟩), Wm.go hP hK hD ht hW⟩, hS.F ht⟩) hS.2.2 dX5_follows_112
          · omega
        | succ n ih36 =>
          intro p1 ev ls hF1 hev hl
          have hfr0 : τ 14 p1 = frT p1 := hI.from (by omega)
          have hfr1 : τ 14 (p1 + 1) = frT (p1 + 1) := hI.from (by omega)
          have htb := tab_ok p1 (by omega)
          refine lv_iload_n hx hb dX5_follows_36 rfl (lv_at hl 0 rfl) ?_
          refine lv_iconst (v := nI 5) hx hb dX5_follows_37 (by decide) ?_
          refine n_icmp_ge hx hb (tgt := 111) (by omega) (by omega) dX5_follows_38 (by decide) (fun c_38 => ?_) (fun c_38 => ?_)
          · omega
          · refine lv_iload_n hx hb dX5_follows_41 rfl (lv_at hl 1 rfl) ?_
            refine q_if_eq hx hb (tgt := 111) (bI_z) dX5_follows_42 (by decide) (fun c_42 => ?_) (fun c_42 => ?_)
            · have hfin := fol_early hev c_42
              refine lv_iload_n hx hb dX5_follows_111 rfl (lv_at hl 1 rfl) ?_
              exact W.zret (v := bI ev) hx hb hr (bI_nar _) (fun t ht hW => ⟨⟨_, (sU τ 0 0 0), rfl, (⟨by rw [hfin], rfl⟩), Wm.go hP hK hD ht hW⟩, hS.F ht⟩) hS.2.2 dX5_follows_112
            · refine lv_aload_n hx hb dX5_follows_45 rfl (lv_at hl 3 rfl) ?_
              refine va_get (D := D) (ci := 4) (v := .ref (ad 14)) (C := RX5) (T := TX5) (N := 20) hx hb hts in_X5_follows_X5 hown hK hP 0 rfl rfl 14 (by decide) (hts _ lk_X5_follows_50) (fun _ h9 => h9) rfl dX5_follows_46 ?_
              refine lv_iload_n hx hb dX5_follows_49 rfl (lv_at hl 0 rfl) ?_
              refine n_ald hx hb hK hP 13 0 rfl rfl (i := p1) (by omega) (by decide) (v := nI (τ 14 p1)) rfl dX5_follows_50 ?_
              refine n_to (w := nI (frT p1)) (by rw [hfr0]) ?_
              refine lv_istore (lv' := [(4, .int (nI (frT p1))), (3, .int (nI p1)), (1, .int (bI ev)), (2, .int (nI (2 ^ (τ 0 15) - 1))), (0, .ref (ad 0))]) hx hb dX5_follows_51 hl (by decide) rfl (fun ls hl => ?_)
              have lp53 : ∀ (n : Nat) (r1 : Nat) (ev : Bool) (ls : Array Slot), (r1 + n = frT (p1 + 1) ∧ frT p1 ≤ r1) → (ev = true ↔ ∀ p r, Vis p1 r1 p r → flY τ p r) → lv_has ls 5 [(4, .int (nI r1)), (1, .int (bI ev)), (3, .int (nI p1)), (2, .int (nI (2 ^ (τ 0 15) - 1))), (0, .ref (ad 0))] → W p l e rX5_follows_ok s m (([.ref (ad 0)] : List Value).toArray) below meth c H locs 0 0 (MQ below (va_Qi (fun r u => r = bI (follB τ) ∧ u = sU τ 0 0 0) (fun u t => Wm D cI cZ A ad u t) A) (([.ref (ad 0)] : List Value).toArray) s 0 0 A) (F0 m 53 ls []) := by
                intro n
                induction n with
                | zero =>
                  intro r1 ev ls hF2 hev hl
                  refine lv_iload hx hb dX5_follows_53 (lv_at hl 0 rfl) ?_
                  refine lv_aload_n hx hb dX5_follows_55 rfl (lv_at hl 4 rfl) ?_
                  refine va_get (D := D) (ci := 4) (v := .ref (ad 14)) (C := RX5) (T := TX5) (N := 20) hx hb hts in_X5_follows_X5 hown hK hP 0 rfl rfl 14 (by decide) (hts _ lk_X5_follows_50) (fun _ h9 => h9) rfl dX5_follows_56 ?_
                  refine lv_iload_n hx hb dX5_follows_59 rfl (lv_at hl 2 rfl) ?_
                  refine lv_iconst (v := nI 1) hx hb dX5_follows_60 (by decide) ?_
                  refine n_add hx hb dX5_follows_61 ?_
                  refine n_ald hx hb hK hP 13 0 rfl rfl (i := p1 + 1) (by omega) (by decide) (v := nI (τ 14 (p1 + 1))) rfl dX5_follows_62 ?_
                  refine n_to (w := nI (frT (p1 + 1))) (by rw [hfr1]) ?_
                  refine n_icmp_ge hx hb (tgt := 105) (by omega) (by omega) dX5_follows_63 (by decide) (fun c_63 => ?_) (fun c_63 => ?_)
                  · refine lv_iinc (v := nI (p1 + 1)) (lv' := [(3, .int (nI (p1 + 1))), (4, .int (nI r1)), (1, .int (bI ev)), (2, .int (nI (2 ^ (τ 0 15) - 1))), (0, .ref (ad 0))]) hx hb dX5_follows_105 hl (k := 2) rfl (nI_add _ _) (by decide) rfl (fun ls hl => ?_)
                    refine lv_goto (tgt := 36) hx hb dX5_follows_108 (by decide) ?_
                    exact ih36 (p1 + 1) ev  _  (by omega) (ev_out (by omega) hev) (lv_sub hl [0, 2, 3, 4] rfl)
                  · omega
                | succ n ih53 =>
                  intro r1 ev ls hF2 hev hl
                  refine lv_iload hx hb dX5_follows_53 (lv_at hl 0 rfl) ?_
                  refine lv_aload_n hx hb dX5_follows_55 rfl (lv_at hl 4 rfl) ?_
                  refine va_get (D := D) (ci := 4) (v := .ref (ad 14)) (C := RX5) (T := TX5) (N := 20) hx hb hts in_X5_follows_X5 hown hK hP 0 rfl rfl 14 (by decide) (hts _ lk_X5_follows_50) (fun _ h9 => h9) rfl dX5_follows_56 ?_
                  refine lv_iload_n hx hb dX5_follows_59 rfl (lv_at hl 2 rfl) ?_
                  refine lv_iconst (v := nI 1) hx hb dX5_follows_60 (by decide) ?_
                  refine n_add hx hb dX5_follows_61 ?_
                  refine n_ald hx hb hK hP 13 0 rfl rfl (i := p1 + 1) (by omega) (by decide) (v := nI (τ 14 (p1 + 1))) rfl dX5_follows_62 ?_
                  refine n_to (w := nI (frT (p1 + 1))) (by rw [hfr1]) ?_
                  refine n_icmp_ge hx hb (tgt := 105) (by omega) (by omega) dX5_follows_63 (by decide) (fun c_63 => ?_) (fun c_63 => ?_)
                  · omega
                  · refine lv_iload_n hx hb dX5_follows_66 rfl (lv_at hl 1 rfl) ?_
                    refine q_if_eq hx hb (tgt := 105) (bI_z) dX5_follows_67 (by decide) (fun c_67 => ?_) (fun c_67 => ?_)
                    · refine lv_iinc (v := nI (p1 + 1)) (lv' := [(3, .int (nI (p1 + 1))), (4, .int (nI r1)), (1, .int (bI ev)), (2, .int (nI (2 ^ (τ 0 15) - 1))), (0, .ref (ad 0))]) hx hb dX5_follows_105 hl (k := 2) rfl (nI_add _ _) (by decide) rfl (fun ls hl => ?_)
                      refine lv_goto (tgt := 36) hx hb dX5_follows_108 (by decide) ?_
                      exact ih36 (p1 + 1) ev  _  (by omega) (ev_early hev c_67) (lv_sub hl [0, 2, 3, 4] rfl)
                    · refine lv_aload_n hx hb dX5_follows_70 rfl (lv_at hl 4 rfl) ?_
                      refine va_get (D := D) (ci := 4) (v := .ref (ad 13)) (C := RX5) (T := TX5) (N := 20) hx hb hts in_X5_follows_X5 hown hK hP 0 rfl rfl 13 (by decide) (hts _ lk_X5_follows_47) (fun _ h9 => h9) rfl dX5_follows_71 ?_
                      refine lv_iload hx hb dX5_follows_74 (lv_at hl 0 rfl) ?_
                      refine n_ald hx hb hK hP 12 0 rfl rfl (i := r1) (by omega) (by decide) (v := nI (τ 13 r1)) rfl dX5_follows_76 ?_
                      refine lv_iload_n hx hb dX5_follows_77 rfl (lv_at hl 3 rfl) ?_
                      refine lv_iand hx hb dX5_follows_78 ?_
                      refine n_to (w := nI (τ 13 r1 &&& (2 ^ (τ 0 15) - 1))) (nx_and _ _) ?_
                      refine lv_iload_n hx hb dX5_follows_79 rfl (lv_at hl 3 rfl) ?_
                      refine q_icmp_ne hx hb (tgt := 93) (nI_eq (by have := and_lt (b := 2 ^ (τ 0 15) - 1) (hI.holds (j := r1) (by omega)); omega) (by omega)) dX5_follows_80 (by decide) (fun c_80 => ?_) (fun c_80 => ?_)
                      · refine lv_iconst (v := nI 1) hx hb dX5_follows_93 (by decide) ?_
                        refine lv_goto (tgt := 98) hx hb dX5_follows_94 (by decide) ?_
                        refine lv_istore_n (lv' := [(1, .int (nI 1)), (4, .int (nI r1)), (3, .int (nI p1)), (2, .int (nI (2 ^ (τ 0 15) - 1))), (0, .ref (ad 0))]) hx hb dX5_follows_98 rfl hl (by decide) rfl (fun ls hl => ?_)
                        refine lv_iinc (v := nI (r1 + 1)) (lv' := [(4, .int (nI (r1 + 1))), (1, .int (nI 1)), (3, .int (nI p1)), (2, .int (nI (2 ^ (τ 0 15) - 1))), (0, .ref (ad 0))]) hx hb dX5_follows_99 hl (k := 1) rfl (nI_add _ _) (by decide) rfl (fun ls hl => ?_)
                        refine lv_goto (tgt := 53) hx hb dX5_follows_102 (by decide) ?_
                        exact ih53 (r1 + 1) true  _  (by omega) (ev_add (by omega) hF2.2 (by omega) hev (by unfold flY HS SetA; simp_all)) (lv_sub hl [0, 1, 2, 3, 4] rfl)
                      · refine lv_aload_n hx hb dX5_follows_83 rfl (lv_at hl 4 rfl) ?_
                        refine lv_iload_n hx hb dX5_follows_84 rfl (lv_at hl 2 rfl) ?_
                        refine lv_iload hx hb dX5_follows_85 (lv_at hl 0 rfl) ?_
                        refine vp_callSi (va_Run.run (va_runV (As := [.int (nI p1), .int (nI r1)]) (rest := []) ⟨hx, hb, hml, hown, hts⟩ (c_X5_draftHolds l D cI cZ A ad (sU τ 0 0 0) p1 r1 (hI.thr 0) hDS (by omega) hF2.2 (by omega)) (cwV 2 hts gX5_follows_X5_draftHolds rfl rfl rfl (by decide +kernel) ⟨Nat.le_of_ble_eq_true rfl, Nat.le_of_ble_eq_true rfl⟩) ⟨Wm.blind, va_recv hK hP (ci := 4) (q0 := 0) rfl rfl, fun U hU hW => ⟨rfl, Wm.go hP hK hD hU hW⟩⟩ rfl rfl hl.1 rfl (lv_room (Nat.le_of_ble_eq_true rfl)) dX5_follows_87 ⟨Nat.zero_le _, Nat.zero_le _⟩)) (fun r_2 hr_2 => ?_)
                        refine n_to (w := bI (dhB τ p1 r1)) (hr_2.trans (congrArg bI (dhB_thr ..))) ?_
                        refine q_if_eq hx hb (tgt := 97) (bI_z) dX5_follows_90 (by decide) (fun c_90 => ?_) (fun c_90 => ?_)
                        · refine lv_iconst (v := nI 0) hx hb dX5_follows_97 (by decide) ?_
                          refine lv_istore_n (lv' := [(1, .int (nI 0)), (4, .int (nI r1)), (3, .int (nI p1)), (2, .int (nI (2 ^ (τ 0 15) - 1))), (0, .ref (ad 0))]) hx hb dX5_follows_98 rfl hl (by decide) rfl (fun ls hl => ?_)
                          refine lv_iinc (v := nI (r1 + 1)) (lv' := [(4, .int (nI (r1 + 1))), (1, .int (nI 0)), (3, .int (nI p1)), (2, .int (nI (2 ^ (τ 0 15) - 1))), (0, .ref (ad 0))]) hx hb dX5_follows_99 hl (k := 1) rfl (nI_add _ _) (by decide) rfl (fun ls hl => ?_)
                          refine lv_goto (tgt := 53) hx hb dX5_follows_102 (by decide) ?_
                          exact ih53 (r1 + 1) false  _  (by omega) (ev_add (by omega) hF2.2 (by omega) hev (by unfold flY HS SetA; simp_all)) (lv_sub hl [0, 1, 2, 3, 4] rfl)
                        · refine lv_iconst (v := nI 1) hx hb dX5_follows_93 (by decide) ?_
                          refine lv_goto (tgt := 98) hx hb dX5_follows_94 (by decide) ?_
                          refine lv_istore_n (lv' := [(1, .int (nI 1)), (4, .int (nI r1)), (3, .int (nI p1)), (2, .int (nI (2 ^ (τ 0 15) - 1))), (0, .ref (ad 0))]) hx hb dX5_follows_98 rfl hl (by decide) rfl (fun ls hl => ?_)
                          refine lv_iinc (v := nI (r1 + 1)) (lv' := [(4, .int (nI (r1 + 1))), (1, .int (nI 1)), (3, .int (nI p1)), (2, .int (nI (2 ^ (τ 0 15) - 1))), (0, .ref (ad 0))]) hx hb dX5_follows_99 hl (k := 1) rfl (nI_add _ _) (by decide) rfl (fun ls hl => ?_)
                          refine lv_goto (tgt := 53) hx hb dX5_follows_102 (by decide) ?_
                          exact ih53 (r1 + 1) true  _  (by omega) (ev_add (by omega) hF2.2 (by omega) hev (by unfold flY HS SetA; simp_all)) (lv_sub hl [0, 1, 2, 3, 4] rfl)
              exact lp53 (frT (p1 + 1) - frT p1) (frT p1) ev  _ (by omega) (ev_in hev) (lv_sub hl [0, 2, 1, 3, 4] rfl)
      exact lp36 5 0 true  _ (by omega) (⟨fun _ p r q => absurd q (vis_0 (r1 := 0)), fun _ => rfl⟩) (lv_sub hl [0, 2, 1, 3] rfl)
  · exact absurd c_5 hz
theorem in_X5_apart_X5 : ∀ w ∈ wsX50, w ∈ wsX5_apart := by decide +kernel
theorem lk_X5_apart_67 : Cond.fieldLink RX5 67 "ArrayClaimsModel" "thrown" "I" ∈ wsX5_apart := by decide +kernel
theorem lk_X5_apart_50 : Cond.fieldLink RX5 50 "ArrayClaimsModel" "from" "[I" ∈ wsX5_apart := by decide +kernel
theorem lk_X5_apart_32 : Cond.fieldLink RX5 32 "ArrayClaimsModel" "classes" "[I" ∈ wsX5_apart := by decide +kernel
theorem lk_X5_apart_47 : Cond.fieldLink RX5 47 "ArrayClaimsModel" "holds" "[I" ∈ wsX5_apart := by decide +kernel
def rX5_apart_f_ok : Room := { frames := 1, cells := 0, slots := 0, locals := 22 }
set_option maxHeartbeats 4000000 in
set_option maxRecDepth 100000 in
theorem c_X5_apart_f_ok (l : Launch) (D : va_G) (cI cZ : ClassId) (A : Nat → Prop) (ad : Nat → Nat) (τ : Nat → Nat → Nat)  (hI : IM τ) (hch : chB τ (2 ^ (τ 0 15) - 1) = true) : Met l yX5_apart wsX5_apart rX5_apart_f_ok (va_Pc [.ref (ad 0), .int (nI 1)] (Wm D cI cZ A ad τ)) (va_Qi (fun r u => ∃ be, r = nI be ∧ APF τ 5 be ∧ u = sU τ 0 0 0) (fun u t => Wm D cI cZ A ad u t) A) 0 0 A := by
  refine Met.ofW (cc := cX5_apart) (maxL := 7) (ret := (some .int)) (by decide) rfl ?_
  intro p e s m args below meth c s₁ B hml hv
  obtain ⟨rfl, hP, hK, hD⟩ := hv
  have hx := B.exec
  have hb := B.bytes
  have hr := B.returns
  have hts := atoms_spec (ws := wsX5_apart) B.pre
  have hown : s.vm.findClass RX5 = some m.cls := findClass_of_methodNamed B.named
  have hlocks := B.notSynchronized
  have hS : va_S A s.heap s.heap [] := va_S.rf
  have hl := lv_entry ([.ref (ad 0), .int (nI 1)]) (n := 7) (Nat.le_of_ble_eq_true rfl)
  rw [lg_entry_eq]
  generalize (lg_sl ([.ref (ad 0), .int (nI 1)]) ++ List.replicate (7 - (lg_sl ([.ref (ad 0), .int (nI 1)])).length) Slot.unset).toArray = ls at hl ⊢
  have hl : lv_has ls 7 [(0, .ref (ad 0)), (1, .int (nI 1))] := hl
  have hcl := hI.claims
  have hp8 := pow8 hcl
  refine lv_aload_n hx hb dX5_apart_0 rfl (lv_at hl 0 rfl) ?_
  refine lv_aload_n hx hb dX5_apart_1 rfl (lv_at hl 0 rfl) ?_
  refine lv_aload_n hx hb dX5_apart_2 rfl (lv_at hl 0 rfl) ?_
  refine vp_callSi (va_Run.run (va_runV (As := []) (rest := [.ref (ad 0), .ref (ad 0)]) ⟨hx, hb, hml, hown, hts⟩ (c_X5_all l D cI cZ A ad τ hcl) (cwV 0 hts gX5_apart_X5_all rfl rfl rfl (by decide +kernel) ⟨Nat.le_of_ble_eq_true rfl, Nat.le_of_ble_eq_true rfl⟩) ⟨Wm.blind, va_recv hK hP (ci := 4) (q0 := 0) rfl rfl, fun U hU hW => ⟨rfl, Wm.go hP hK hD hU hW⟩⟩ rfl rfl hl.1 rfl (lv_room (Nat.le_of_ble_eq_true rfl)) dX5_apart_3 ⟨Nat.zero_le _, Nat.zero_le _⟩)) (fun r_1 hr_1 => ?_)
  refine n_to (w := nI (2 ^ (τ 0 15) - 1)) (hr_1.trans rfl) ?_
  refine vp_callSi (va_Run.run (va_runV (As := [.int (nI (2 ^ (τ 0 15) - 1))]) (rest := [.ref (ad 0)]) ⟨hx, hb, hml, hown, hts⟩ (c_X5_canHold l D cI cZ A ad τ (2 ^ (τ 0 15) - 1) hI (by omega)) (cwV 1 hts gX5_apart_X5_canHold rfl rfl rfl (by decide +kernel) ⟨Nat.le_of_ble_eq_true rfl, Nat.le_of_ble_eq_true rfl⟩) ⟨Wm.blind, va_recv hK hP (ci := 4) (q0 := 0) rfl rfl, fun U hU hW => ⟨rfl, Wm.go hP hK hD hU hW⟩⟩ rfl rfl hl.1 rfl (lv_room (Nat.le_of_ble_eq_true rfl)) dX5_apart_6 ⟨Nat.zero_le _, Nat.zero_le _⟩)) (fun r_2 hr_2 => ?_)
  refine n_to (w := bI (chB τ (2 ^ (τ 0 15) - 1))) (hr_2.trans rfl) ?_
  refine q_if_eq hx hb (tgt := 16) (bI_z) dX5_apart_9 (by decide) (fun c_9 => ?_) (fun c_9 => ?_)
  · rw [hch] at c_9; cases c_9
  · refine lv_iconst (v := nI 0) hx hb dX5_apart_12 (by decide) ?_
    refine lv_goto (tgt := 17) hx hb dX5_apart_13 (by decide) ?_
    refine va_put (D := D) (ci := 4) (v := .int (nI 0)) (ty := .int) (C := RX5) (T := TX5) (N := 20) hx hb hts in_X5_apart_X5 tyX5 tyX5_ok nmX5 hown hK hP hD hS 0 rfl rfl 0 (by decide) (hts _ lk_X5_apart_67) (fun _ h9 => h9) rfl (by decide +kernel) rfl rfl (Nat.le_of_ble_eq_true rfl) dX5_apart_17 (fun H locs hP hD hS => ?_)
    have hP : va_P D vwCl (WM ad cI cZ (sU τ 0 0 0)) H := hP
    have hD : va_D A (WM ad cI cZ (sU τ 0 0 0)) := hD
    refine lv_iload_n hx hb dX5_apart_20 rfl (lv_at hl 1 rfl) ?_
    refine q_if_eq hx hb (tgt := 28) (nI_z (by omega)) dX5_apart_21 (by decide) (fun c_21 => ?_) (fun c_21 => ?_)
    · exact absurd c_21 (by decide)
    · refine lv_iconst (v := nI 3) hx hb dX5_apart_24 (by decide) ?_
      refine lv_goto (tgt := 29) hx hb dX5_apart_25 (by decide) ?_
      refine lv_istore_n (lv' := [(2, .int (nI 3)), (0, .ref (ad 0)), (1, .int (nI 1))]) hx hb dX5_apart_29 rfl hl (by decide) rfl (fun ls hl => ?_)
      refine lv_aload_n hx hb dX5_apart_30 rfl (lv_at hl 1 rfl) ?_
      refine vp_callSi (va_Run.run (va_runV (As := []) (rest := []) ⟨hx, hb, hml, hown, hts⟩ (c_X5_all l D cI cZ A ad (sU τ 0 0 0) hcl) (cwV 0 hts gX5_apart_X5_all rfl rfl rfl (by decide +kernel) ⟨Nat.le_of_ble_eq_true rfl, Nat.le_of_ble_eq_true rfl⟩) ⟨Wm.blind, va_recv hK hP (ci := 4) (q0 := 0) rfl rfl, fun U hU hW => ⟨rfl, Wm.go hP hK hD hU hW⟩⟩ rfl rfl hl.1 rfl (lv_room (Nat.le_of_ble_eq_true rfl)) dX5_apart_31 ⟨Nat.zero_le _, Nat.zero_le _⟩)) (fun r_3 hr_3 => ?_)
      refine n_to (w := nI (2 ^ (τ 0 15) - 1)) (hr_3.trans rfl) ?_
      refine lv_istore_n (lv' := [(3, .int (nI (2 ^ (τ 0 15) - 1))), (2, .int (nI 3)), (0, .ref (ad 0)), (1, .int (nI 1))]) hx hb dX5_apart_34 rfl hl (by decide) rfl (fun ls hl => ?_)
      refine lv_iconst (v := nI 0) hx hb dX5_apart_35 (by decide) ?_
      refine lv_istore (lv' := [(4, .int (nI 0)), (3, .int (nI (2 ^ (τ 0 15) - 1))), (2, .int (nI 3)), (0, .ref (ad 0)), (1, .int (nI 1))]) hx hb dX5_apart_36 hl (by decide) rfl (fun ls hl => ?_)
      have lp38 : ∀ (n : Nat) (p1 : Nat) (be : Nat) (ls : Array Slot), (p1 + n = 5) → (APF τ p1 be) → lv_has ls 7 [(4, .int (nI p1)), (2, .int (nI be)), (3, .int (nI (2 ^ (τ 0 15) - 1))), (0, .ref (ad 0)), (1, .int (nI 1))] → W p l e rX5_apart_f_ok s m (([.ref (ad 0), .int (nI 1)] : List Value).toArray) below meth c H locs 0 0 (MQ below (va_Qi (fun r u => ∃ be, r = nI be ∧ APF τ 5 be ∧ u = sU τ 0 0 0) (fun u t => Wm D cI cZ A ad u t) A) (([.ref (ad 0), .int (nI 1)] : List Value).toArray) s 0 0 A) (F0 m 38 ls []) := by
        intro n
        induction n with
        | zero =>
          intro p1 be ls hF1 hA hl
          obtain rfl : p1 = 5 := by omega
          refine lv_iload hx hb dX5_apart_38 (lv_at hl 0 rfl) ?_
          refine lv_iconst (v := nI 5) hx hb dX5_apart_40 (by decide) ?_
          refine n_icmp_ge hx hb (tgt := 170) (by omega) (by omega) dX5_apart_41 (by decide) (fun c_41 => ?_) (fun c_41 => ?_)
          · refine lv_aload_n hx hb dX5_apart_170 rfl (lv_at hl 3 rfl) ?_
            refine va_get (D := D) (ci := 4) (v := .int (nI 0)) (C := RX5) (T := TX5) (N := 20) hx hb hts in_X5_apart_X5 hown hK hP 0 rfl rfl 0 (by decide) (hts _ lk_X5_apart_67) (fun _ h9 => h9) rfl dX5_apart_171 ?_
            refine q_if_ne hx hb (tgt := 181) (nI_z (by omega)) dX5_apart_174 (by decide) (fun c_174 => ?_) (fun c_174 => ?_)
            · exact absurd c_174 (by decide)
            · refine lv_iload_n hx hb dX5_apart_177 rfl (lv_at hl 1 rfl) ?_
              refine lv_goto (tgt := 182) hx hb dX5_apart_178 (by decide) ?_
              exact W.iret (v := nI be) hx hb hr (fun t ht hW => ⟨⟨_, (sU τ 0 0 0), rfl, (⟨be, rfl, hA, rfl⟩), Wm.go hP hK hD ht hW⟩, hS.F ht⟩) hS.2.2 dX5_apart_182
          · omega
        | succ n ih38 =>
          intro p1 be ls hF1 hA hl
          have hfr0 : τ 14 p1 = frT p1 := hI.from (by omega)
          have hfr1 : τ 14 (p1 + 1) = frT (p1 + 1) := hI.from (by omega)
          have htb := tab_ok p1 (by omega)
          have hcl1 := hI.cls (j := p1) (by omega)
          have hbe : be ≤ 3 := hA.1
          refine lv_iload hx hb dX5_apart_38 (lv_at hl 0 rfl) ?_
          refine lv_iconst (v := nI 5) hx hb dX5_apart_40 (by decide) ?_
          refine n_icmp_ge hx hb (tgt := 170) (by omega) (by omega) dX5_apart_41 (by decide) (fun c_41 => ?_) (fun c_41 => ?_)
          · omega
          · refine lv_iconst (v := nI 0) hx hb dX5_apart_44 (by decide) ?_
            refine lv_istore (lv' := [(5, .int (nI 0)), (4, .int (nI p1)), (2, .int (nI be)), (3, .int (nI (2 ^ (τ 0 15) - 1))), (0, .ref (ad 0)), (1, .int (nI 1))]) hx hb dX5_apart_45 hl (by decide) rfl (fun ls hl => ?_)
            refine lv_aload_n hx hb dX5_apart_47 rfl (lv_at hl 4 rfl) ?_
            refine va_get (D := D) (ci := 4) (v := .ref (ad 14)) (C := RX5) (T := TX5) (N := 20) hx hb hts in_X5_apart_X5 hown hK hP 0 rfl rfl 14 (by decide) (hts _ lk_X5_apart_50) (fun _ h9 => h9) rfl dX5_apart_48 ?_
            refine lv_iload hx hb dX5_apart_51 (lv_at hl 1 rfl) ?_
            refine n_ald hx hb hK hP 13 0 rfl rfl (i := p1) (by omega) (by decide) (v := nI (τ 14 p1)) rfl dX5_apart_53 ?_
            refine n_to (w := nI (frT p1)) (by rw [hfr0]) ?_
            refine lv_istore (lv' := [(6, .int (nI (frT p1))), (5, .int (nI 0)), (4, .int (nI p1)), (2, .int (nI be)), (3, .int (nI (2 ^ (τ 0 15) - 1))), (0, .ref (ad 0)), (1, .int (nI 1))]) hx hb dX5_apart_54 hl (by decide) rfl (fun ls hl => ?_)
            have lp56 : ∀ (n : Nat) (r1 : Nat) (so : Bool) (ls : Array Slot), (r1 + n = frT (p1 + 1) ∧ frT p1 ≤ r1) → (so = true ↔ ∃ r, frT p1 ≤ r ∧ r < r1 ∧ HS τ (2 ^ (τ 0 15) - 1) r) → lv_has ls 7 [(6, .int (nI r1)), (5, .int (bI so)), (4, .int (nI p1)), (2, .int (nI be)), (3, .int (nI (2 ^ (τ 0 15) - 1))), (0, .ref (ad 0)), (1, .int (nI 1))] → W p l e rX5_apart_f_ok s m (([.ref (ad 0), .int (nI 1)] : List Value).toArray) below meth c H locs 0 0 (MQ below (va_Qi (fun r u => ∃ be, r = nI be ∧ APF τ 5 be ∧ u = sU τ 0 0 0) (fun u t => Wm D cI cZ A ad u t) A) (([.ref (ad 0), .int (nI 1)] : List Value).toArray) s 0 0 A) (F0 m 56 ls []) := by
              intro n
              induction n with
              | zero =>
                intro r1 so ls hF2 hso hl
                have hsm : so = true ↔ SM τ p1 := by rw [hso, show r1 = frT (p1 + 1) by omega]; rfl
                refine lv_iload hx hb dX5_apart_56 (lv_at hl 0 rfl) ?_
                refine lv_aload_n hx hb dX5_apart_58 rfl (lv_at hl 5 rfl) ?_
                refine va_get (D := D) (ci := 4) (v := .ref (ad 14)) (C := RX5) (T := TX5) (N := 20) hx hb hts in_X5_apart_X5 hown hK hP 0 rfl rfl 14 (by decide) (hts _ lk_X5_apart_50) (fun _ h9 => h9) rfl dX5_apart_59 ?_
                refine lv_iload hx hb dX5_apart_62 (lv_at hl 2 rfl) ?_
                refine lv_iconst (v := nI 1) hx hb dX5_apart_64 (by decide) ?_
                refine n_add hx hb dX5_apart_65 ?_
                refine n_ald hx hb hK hP 13 0 rfl rfl (i := p1 + 1) (by omega) (by decide) (v := nI (τ 14 (p1 + 1))) rfl dX5_apart_66 ?_
                refine n_to (w := nI (frT (p1 + 1))) (by rw [hfr1]) ?_
                refine n_icmp_ge hx hb (tgt := 101) (by omega) (by omega) dX5_apart_67 (by decide) (fun c_67 => ?_) (fun c_67 => ?_)
                · refine lv_iload_n hx hb dX5_apart_101 rfl (lv_at hl 6 rfl) ?_
                  refine q_if_eq hx hb (tgt := 124) (nI_z (by omega)) dX5_apart_102 (by decide) (fun c_102 => ?_) (fun c_102 => ?_)
                  · exact absurd c_102 (by decide)
                  · refine lv_aload_n hx hb dX5_apart_105 rfl (lv_at hl 5 rfl) ?_
                    refine va_get (D := D) (ci := 4) (v := .ref (ad 8)) (C := RX5) (T := TX5) (N := 20) hx hb hts in_X5_apart_X5 hown hK hP 0 rfl rfl 8 (by decide) (hts _ lk_X5_apart_32) (fun _ h9 => h9) rfl dX5_apart_106 ?_
                    refine lv_iload hx hb dX5_apart_109 (lv_at hl 2 rfl) ?_
                    refine n_ald hx hb hK hP 7 0 rfl rfl (i := p1) (by omega) (by decide) (v := nI (τ 8 p1)) rfl dX5_apart_111 ?_
                    refine n_to (w := nI (difF p1)) (by rw [hcl1]) ?_
                    refine lv_iload_n hx hb dX5_apart_112 rfl (lv_at hl 3 rfl) ?_
                    refine n_icmp_ge hx hb (tgt := 120) (by have := IM.cl3 p1 (by omega); omega) (by have := hbe; omega) dX5_apart_113 (by decide) (fun c_113 => ?_) (fun c_113 => ?_)
                    · refine lv_iconst (v := nI 0) hx hb dX5_apart_120 (by decide) ?_
                      refine lv_goto (tgt := 140) hx hb dX5_apart_121 (by decide) ?_
                      refine lv_istore (lv' := [(6, .int (nI 0)), (5, .int (bI so)), (4, .int (nI p1)), (2, .int (nI be)), (3, .int (nI (2 ^ (τ 0 15) - 1))), (0, .ref (ad 0)), (1, .int (nI 1))]) hx hb dX5_apart_140 hl (by decide) rfl (fun ls hl => ?_)
                      refine lv_iload hx hb dX5_apart_142 (lv_at hl 1 rfl) ?_
                      refine q_if_eq hx hb (tgt := 162) (bI_z) dX5_apart_144 (by decide) (fun c_144 => ?_) (fun c_144 => ?_)
                      · refine lv_iload_n hx hb dX5_apart_162 rfl (lv_at hl 3 rfl) ?_
                        refine lv_istore_n (lv' := [(2, .int (nI be)), (6, .int (nI 0)), (5, .int (bI so)), (4, .int (nI p1)), (3, .int (nI (2 ^ (τ 0 15) - 1))), (0, .ref (ad 0)), (1, .int (nI 1))]) hx hb dX5_apart_163 rfl hl (by decide) rfl (fun ls hl => ?_)
                        refine lv_iinc (v := nI (p1 + 1)) (lv' := [(4, .int (nI (p1 + 1))), (2, .int (nI be)), (6, .int (nI 0)), (5, .int (bI so)), (3, .int (nI (2 ^ (τ 0 15) - 1))), (0, .ref (ad 0)), (1, .int (nI 1))]) hx hb dX5_apart_164 hl (k := 3) rfl (nI_add _ _) (by decide) rfl (fun ls hl => ?_)
                        refine lv_goto (tgt := 38) hx hb dX5_apart_167 (by decide) ?_
                        exact ih38 (p1 + 1) be  _  (by omega) (hA.keep (fun q => absurd (hsm.mpr q) (ts_ff c_144))) (lv_sub hl [0, 1, 4, 5, 6] rfl)
                      · refine lv_iload hx hb dX5_apart_147 (lv_at hl 0 rfl) ?_
                        refine q_if_eq hx hb (tgt := 162) (nI_z (by omega)) dX5_apart_149 (by decide) (fun c_149 => ?_) (fun c_149 => ?_)
                        · refine lv_iload_n hx hb dX5_apart_162 rfl (lv_at hl 3 rfl) ?_
                          refine lv_istore_n (lv' := [(2, .int (nI be)), (6, .int (nI 0)), (5, .int (bI so)), (4, .int (nI p1)), (3, .int (nI (2 ^ (τ 0 15) - 1))), (0, .ref (ad 0)), (1, .int (nI 1))]) hx hb dX5_apart_163 rfl hl (by decide) rfl (fun ls hl => ?_)
                          refine lv_iinc (v := nI (p1 + 1)) (lv' := [(4, .int (nI (p1 + 1))), (2, .int (nI be)), (6, .int (nI 0)), (5, .int (bI so)), (3, .int (nI (2 ^ (τ 0 15) - 1))), (0, .ref (ad 0)), (1, .int (nI 1))]) hx hb dX5_apart_164 hl (k := 3) rfl (nI_add _ _) (by decide) rfl (fun ls hl => ?_)
                          refine lv_goto (tgt := 38) hx hb dX5_apart_167 (by decide) ?_
                          exact ih38 (p1 + 1) be  _  (by omega) (hA.keep (fun _ => c_113)) (lv_sub hl [0, 1, 4, 5, 6] rfl)
                        · exact absurd c_149 (by decide)
                    · refine lv_iconst (v := nI 1) hx hb dX5_apart_116 (by decide) ?_
                      refine lv_goto (tgt := 140) hx hb dX5_apart_117 (by decide) ?_
                      refine lv_istore (lv' := [(6, .int (nI 1)), (5, .int (bI so)), (4, .int (nI p1)), (2, .int (nI be)), (3, .int (nI (2 ^ (τ 0 15) - 1))), (0, .ref (ad 0)), (1, .int (nI 1))]) hx hb dX5_apart_140 hl (by decide) rfl (fun ls hl => ?_)
                      refine lv_iload hx hb dX5_apart_142 (lv_at hl 1 rfl) ?_
                      refine q_if_eq hx hb (tgt := 162) (bI_z) dX5_apart_144 (by decide) (fun c_144 => ?_) (fun c_144 => ?_)
                      · refine lv_iload_n hx hb dX5_apart_162 rfl (lv_at hl 3 rfl) ?_
                        refine lv_istore_n (lv' := [(2, .int (nI be)), (6, .int (nI 1)), (5, .int (bI so)), (4, .int (nI p1)), (3, .int (nI (2 ^ (τ 0 15) - 1))), (0, .ref (ad 0)), (1, .int (nI 1))]) hx hb dX5_apart_163 rfl hl (by decide) rfl (fun ls hl => ?_)
                        refine lv_iinc (v := nI (p1 + 1)) (lv' := [(4, .int (nI (p1 + 1))), (2, .int (nI be)), (6, .int (nI 1)), (5, .int (bI so)), (3, .int (nI (2 ^ (τ 0 15) - 1))), (0, .ref (ad 0)), (1, .int (nI 1))]) hx hb dX5_apart_164 hl (k := 3) rfl (nI_add _ _) (by decide) rfl (fun ls hl => ?_)
                        refine lv_goto (tgt := 38) hx hb dX5_apart_167 (by decide) ?_
                        exact ih38 (p1 + 1) be  _  (by omega) (hA.keep (fun q => absurd (hsm.mpr q) (ts_ff c_144))) (lv_sub hl [0, 1, 4, 5, 6] rfl)
                      · refine lv_iload hx hb dX5_apart_147 (lv_at hl 0 rfl) ?_
                        refine q_if_eq hx hb (tgt := 162) (nI_z (by omega)) dX5_apart_149 (by decide) (fun c_149 => ?_) (fun c_149 => ?_)
                        · exact absurd c_149 (by decide)
                        · refine lv_aload_n hx hb dX5_apart_152 rfl (lv_at hl 5 rfl) ?_
                          refine va_get (D := D) (ci := 4) (v := .ref (ad 8)) (C := RX5) (T := TX5) (N := 20) hx hb hts in_X5_apart_X5 hown hK hP 0 rfl rfl 8 (by decide) (hts _ lk_X5_apart_32) (fun _ h9 => h9) rfl dX5_apart_153 ?_
                          refine lv_iload hx hb dX5_apart_156 (lv_at hl 2 rfl) ?_
                          refine n_ald hx hb hK hP 7 0 rfl rfl (i := p1) (by omega) (by decide) (v := nI (τ 8 p1)) rfl dX5_apart_158 ?_
                          refine n_to (w := nI (difF p1)) (by rw [hcl1]) ?_
                          refine lv_goto (tgt := 163) hx hb dX5_apart_159 (by decide) ?_
                          refine lv_istore_n (lv' := [(2, .int (nI (difF p1))), (6, .int (nI 1)), (5, .int (bI so)), (4, .int (nI p1)), (3, .int (nI (2 ^ (τ 0 15) - 1))), (0, .ref (ad 0)), (1, .int (nI 1))]) hx hb dX5_apart_163 rfl hl (by decide) rfl (fun ls hl => ?_)
                          refine lv_iinc (v := nI (p1 + 1)) (lv' := [(4, .int (nI (p1 + 1))), (2, .int (nI (difF p1))), (6, .int (nI 1)), (5, .int (bI so)), (3, .int (nI (2 ^ (τ 0 15) - 1))), (0, .ref (ad 0)), (1, .int (nI 1))]) hx hb dX5_apart_164 hl (k := 3) rfl (nI_add _ _) (by decide) rfl (fun ls hl => ?_)
                          refine lv_goto (tgt := 38) hx hb dX5_apart_167 (by decide) ?_
                          exact ih38 (p1 + 1) (difF p1)  _  (by omega) (hA.new (hsm.mp (ts_nf c_144)) c_113) (lv_sub hl [0, 1, 4, 5, 6] rfl)
                · omega
              | succ n ih56 =>
                intro r1 so ls hF2 hso hl
                refine lv_iload hx hb dX5_apart_56 (lv_at hl 0 rfl) ?_
                refine lv_aload_n hx hb dX5_apart_58 rfl (lv_at hl 5 rfl) ?_
                refine va_get (D := D) (ci := 4) (v := .ref (ad 14)) (C := RX5) (T := TX5) (N := 20) hx hb hts in_X5_apart_X5 hown hK hP 0 rfl rfl 14 (by decide) (hts _ lk_X5_apart_50) (fun _ h9 => h9) rfl dX5_apart_59 ?_
                refine lv_iload hx hb dX5_apart_62 (lv_at hl 2 rfl) ?_
                refine lv_iconst (v := nI 1) hx hb dX5_apart_64 (by decide) ?_
                refine n_add hx hb dX5_apart_65 ?_
                refine n_ald hx hb hK hP 13 0 rfl rfl (i := p1 + 1) (by omega) (by decide) (v := nI (τ 14 (p1 + 1))) rfl dX5_apart_66 ?_
                refine n_to (w := nI (frT (p1 + 1))) (by rw [hfr1]) ?_
                refine n_icmp_ge hx hb (tgt := 101) (by omega) (by omega) dX5_apart_67 (by decide) (fun c_67 => ?_) (fun c_67 => ?_)
                · omega
                · refine lv_iload hx hb dX5_apart_70 (lv_at hl 1 rfl) ?_
                  refine q_if_ne hx hb (tgt := 88) (bI_z) dX5_apart_72 (by decide) (fun c_72 => ?_) (fun c_72 => ?_)
                  · refine lv_iconst (v := nI 1) hx hb dX5_apart_88 (by decide) ?_
                    refine lv_goto (tgt := 93) hx hb dX5_apart_89 (by decide) ?_
                    refine lv_istore (lv' := [(5, .int (nI 1)), (6, .int (nI r1)), (4, .int (nI p1)), (2, .int (nI be)), (3, .int (nI (2 ^ (τ 0 15) - 1))), (0, .ref (ad 0)), (1, .int (nI 1))]) hx hb dX5_apart_93 hl (by decide) rfl (fun ls hl => ?_)
                    refine lv_iinc (v := nI (r1 + 1)) (lv' := [(6, .int (nI (r1 + 1))), (5, .int (nI 1)), (4, .int (nI p1)), (2, .int (nI be)), (3, .int (nI (2 ^ (τ 0 15) - 1))), (0, .ref (ad 0)), (1, .int (nI 1))]) hx hb dX5_apart_95 hl (k := 1) rfl (nI_add _ _) (by decide) rfl (fun ls hl => ?_)
                    refine lv_goto (tgt := 56) hx hb dX5_apart_98 (by decide) ?_
                    exact ih56 (r1 + 1) true  _  (by omega) (sm_add hF2.2 hso (by unfold HS; simp_all)) (lv_sub hl [0, 1, 2, 3, 4, 5, 6] rfl)
                  · refine lv_aload_n hx hb dX5_apart_75 rfl (lv_at hl 5 rfl) ?_
                    refine va_get (D := D) (ci := 4) (v := .ref (ad 13)) (C := RX5) (T := TX5) (N := 20) hx hb hts in_X5_apart_X5 hown hK hP 0 rfl rfl 13 (by decide) (hts _ lk_X5_apart_47) (fun _ h9 => h9) rfl dX5_apart_76 ?_
                    refine lv_iload hx hb dX5_apart_79 (lv_at hl 0 rfl) ?_
                    refine n_ald hx hb hK hP 12 0 rfl rfl (i := r1) (by omega) (by decide) (v := nI (τ 13 r1)) rfl dX5_apart_81 ?_
                    refine lv_iload_n hx hb dX5_apart_82 rfl (lv_at hl 4 rfl) ?_
                    refine lv_iand hx hb dX5_apart_83 ?_
                    refine n_to (w := nI (τ 13 r1 &&& (2 ^ (τ 0 15) - 1))) (nx_and _ _) ?_
                    refine lv_iload_n hx hb dX5_apart_84 rfl (lv_at hl 4 rfl) ?_
                    refine q_icmp_ne hx hb (tgt := 92) (nI_eq (by have := and_lt (b := 2 ^ (τ 0 15) - 1) (hI.holds (j := r1) (by omega)); omega) (by omega)) dX5_apart_85 (by decide) (fun c_85 => ?_) (fun c_85 => ?_)
                    · refine lv_iconst (v := nI 0) hx hb dX5_apart_92 (by decide) ?_
                      refine lv_istore (lv' := [(5, .int (nI 0)), (6, .int (nI r1)), (4, .int (nI p1)), (2, .int (nI be)), (3, .int (nI (2 ^ (τ 0 15) - 1))), (0, .ref (ad 0)), (1, .int (nI 1))]) hx hb dX5_apart_93 hl (by decide) rfl (fun ls hl => ?_)
                      refine lv_iinc (v := nI (r1 + 1)) (lv' := [(6, .int (nI (r1 + 1))), (5, .int (nI 0)), (4, .int (nI p1)), (2, .int (nI be)), (3, .int (nI (2 ^ (τ 0 15) - 1))), (0, .ref (ad 0)), (1, .int (nI 1))]) hx hb dX5_apart_95 hl (k := 1) rfl (nI_add _ _) (by decide) rfl (fun ls hl => ?_)
                      refine lv_goto (tgt := 56) hx hb dX5_apart_98 (by decide) ?_
                      exact ih56 (r1 + 1) false  _  (by omega) (sm_add hF2.2 hso (by unfold HS; simp_all)) (lv_sub hl [0, 1, 2, 3, 4, 5, 6] rfl)
                    · refine lv_iconst (v := nI 1) hx hb dX5_apart_88 (by decide) ?_
                      refine lv_goto (tgt := 93) hx hb dX5_apart_89 (by decide) ?_
                      refine lv_istore (lv' := [(5, .int (nI 1)), (6, .int (nI r1)), (4, .int (nI p1)), (2, .int (nI be)), (3, .int (nI (2 ^ (τ 0 15) - 1))), (0, .ref (ad 0)), (1, .int (nI 1))]) hx hb dX5_apart_93 hl (by decide) rfl (fun ls hl => ?_)
                      refine lv_iinc (v := nI (r1 + 1)) (lv' := [(6, .int (nI (r1 + 1))), (5, .int (nI 1)), (4, .int (nI p1)), (2, .int (nI be)), (3, .int (nI (2 ^ (τ 0 15) - 1))), (0, .ref (ad 0)), (1, .int (nI 1))]) hx hb dX5_apart_95 hl (k := 1) rfl (nI_add _ _) (by decide) rfl (fun ls hl => ?_)
                      refine lv_goto (tgt := 56) hx hb dX5_apart_98 (by decide) ?_
                      exact ih56 (r1 + 1) true  _  (by omega) (sm_add hF2.2 hso (by unfold HS; simp_all)) (lv_sub hl [0, 1, 2, 3, 4, 5, 6] rfl)
            exact lp56 (frT (p1 + 1) - frT p1) (frT p1) false  _ (by omega) (⟨fun q => (by cases q), fun ⟨r, q1, q2, _⟩ => absurd q1 (by omega)⟩) (lv_sub hl [0, 1, 2, 3, 4, 5, 6] rfl)
      exact lp38 5 0 3  _ (by omega) (⟨by omega, Or.inl rfl, fun p q => absurd q (by omega)⟩) (lv_sub hl [0, 2, 1, 3, 4] rfl)
def rX5_apart_f_no : Room := { frames := 1, cells := 0, slots := 0, locals := 22 }
set_option maxHeartbeats 4000000 in
set_option maxRecDepth 100000 in
theorem c_X5_apart_f_no (l : Launch) (D : va_G) (cI cZ : ClassId) (A : Nat → Prop) (ad : Nat → Nat) (τ : Nat → Nat → Nat)  (hI : IM τ) (hch : chB τ (2 ^ (τ 0 15) - 1) = false) : Met l yX5_apart wsX5_apart rX5_apart_f_no (va_Pc [.ref (ad 0), .int (nI 1)] (Wm D cI cZ A ad τ)) (va_Qi (fun r u => r = nI 0 ∧ u = sU τ 0 0 1) (fun u t => Wm D cI cZ A ad u t) A) 0 0 A := by
  refine Met.ofW (cc := cX5_apart) (maxL := 7) (ret := (some .int)) (by decide) rfl ?_
  intro p e s m args below meth c s₁ B hml hv
  obtain ⟨rfl, hP, hK, hD⟩ := hv
  have hx := B.exec
  have hb := B.bytes
  have hr := B.returns
  have hts := atoms_spec (ws := wsX5_apart) B.pre
  have hown : s.vm.findClass RX5 = some m.cls := findClass_of_methodNamed B.named
  have hlocks := B.notSynchronized
  have hS : va_S A s.heap s.heap [] := va_S.rf
  have hl := lv_entry ([.ref (ad 0), .int (nI 1)]) (n := 7) (Nat.le_of_ble_eq_true rfl)
  rw [lg_entry_eq]
  generalize (lg_sl ([.ref (ad 0), .int (nI 1)]) ++ List.replicate (7 - (lg_sl ([.ref (ad 0), .int (nI 1)])).length) Slot.unset).toArray = ls at hl ⊢
  have hl : lv_has ls 7 [(0, .ref (ad 0)), (1, .int (nI 1))] := hl
  have hcl := hI.claims
  have hp8 := pow8 hcl
  refine lv_aload_n hx hb dX5_apart_0 rfl (lv_at hl 0 rfl) ?_
  refine lv_aload_n hx hb dX5_apart_1 rfl (lv_at hl 0 rfl) ?_
  refine lv_aload_n hx hb dX5_apart_2 rfl (lv_at hl 0 rfl) ?_
  refine vp_callSi (va_Run.run (va_runV (As := []) (rest := [.ref (ad 0), .ref (ad 0)]) ⟨hx, hb, hml, hown, hts⟩ (c_X5_all l D cI cZ A ad τ hcl) (cwV 0 hts gX5_apart_X5_all rfl rfl rfl (by decide +kernel) ⟨Nat.le_of_ble_eq_true rfl, Nat.le_of_ble_eq_true rfl⟩) ⟨Wm.blind, va_recv hK hP (ci := 4) (q0 := 0) rfl rfl, fun U hU hW => ⟨rfl, Wm.go hP hK hD hU hW⟩⟩ rfl rfl hl.1 rfl (lv_room (Nat.le_of_ble_eq_true rfl)) dX5_apart_3 ⟨Nat.zero_le _, Nat.zero_le _⟩)) (fun r_1 hr_1 => ?_)
  refine n_to (w := nI (2 ^ (τ 0 15) - 1)) (hr_1.trans rfl) ?_
  refine vp_callSi (va_Run.run (va_runV (As := [.int (nI (2 ^ (τ 0 15) - 1))]) (rest := [.ref (ad 0)]) ⟨hx, hb, hml, hown, hts⟩ (c_X5_canHold l D cI cZ A ad τ (2 ^ (τ 0 15) - 1) hI (by omega)) (cwV 1 hts gX5_apart_X5_canHold rfl rfl rfl (by decide +kernel) ⟨Nat.le_of_ble_eq_true rfl, Nat.le_of_ble_eq_true rfl⟩) ⟨Wm.blind, va_recv hK hP (ci := 4) (q0 := 0) rfl rfl, fun U hU hW => ⟨rfl, Wm.go hP hK hD hU hW⟩⟩ rfl rfl hl.1 rfl (lv_room (Nat.le_of_ble_eq_true rfl)) dX5_apart_6 ⟨Nat.zero_le _, Nat.zero_le _⟩)) (fun r_2 hr_2 => ?_)
  refine n_to (w := bI (chB τ (2 ^ (τ 0 15) - 1))) (hr_2.trans rfl) ?_
  refine q_if_eq hx hb (tgt := 16) (bI_z) dX5_apart_9 (by decide) (fun c_9 => ?_) (fun c_9 => ?_)
  · refine lv_iconst (v := nI 1) hx hb dX5_apart_16 (by decide) ?_
    refine va_put (D := D) (ci := 4) (v := .int (nI 1)) (ty := .int) (C := RX5) (T := TX5) (N := 20) hx hb hts in_X5_apart_X5 tyX5 tyX5_ok nmX5 hown hK hP hD hS 0 rfl rfl 0 (by decide) (hts _ lk_X5_apart_67) (fun _ h9 => h9) rfl (by decide +kernel) rfl rfl (Nat.le_of_ble_eq_true rfl) dX5_apart_17 (fun H locs hP hD hS => ?_)
    have hP : va_P D vwCl (WM ad cI cZ (sU τ 0 0 1)) H := hP
    have hD : va_D A (WM ad cI cZ (sU τ 0 0 1)) := hD
    refine lv_iload_n hx hb dX5_apart_20 rfl (lv_at hl 1 rfl) ?_
    refine q_if_eq hx hb (tgt := 28) (nI_z (by omega)) dX5_apart_21 (by decide) (fun c_21 => ?_) (fun c_21 => ?_)
    · exact absurd c_21 (by decide)
    · refine lv_iconst (v := nI 3) hx hb dX5_apart_24 (by decide) ?_
      refine lv_goto (tgt := 29) hx hb dX5_apart_25 (by decide) ?_
      refine lv_istore_n (lv' := [(2, .int (nI 3)), (0, .ref (ad 0)), (1, .int (nI 1))]) hx hb dX5_apart_29 rfl hl (by decide) rfl (fun ls hl => ?_)
      refine lv_aload_n hx hb dX5_apart_30 rfl (lv_at hl 1 rfl) ?_
      refine vp_callSi (va_Run.run (va_runV (As := []) (rest := []) ⟨hx, hb, hml, hown, hts⟩ (c_X5_all l D cI cZ A ad (sU τ 0 0 1) hcl) (cwV 0 hts gX5_apart_X5_all rfl rfl rfl (by decide +kernel) ⟨Nat.le_of_ble_eq_true rfl, Nat.le_of_ble_eq_true rfl⟩) ⟨Wm.blind, va_recv hK hP (ci := 4) (q0 := 0) rfl rfl, fun U hU hW => ⟨rfl, Wm.go hP hK hD hU hW⟩⟩ rfl rfl hl.1 rfl (lv_room (Nat.le_of_ble_eq_true rfl)) dX5_apart_31 ⟨Nat.zero_le _, Nat.zero_le _⟩)) (fun r_3 hr_3 => ?_)
      refine n_to (w := nI (2 ^ (τ 0 15) - 1)) (hr_3.trans rfl) ?_
      refine lv_istore_n (lv' := [(3, .int (nI (2 ^ (τ 0 15) - 1))), (2, .int (nI 3)), (0, .ref (ad 0)), (1, .int (nI 1))]) hx hb dX5_apart_34 rfl hl (by decide) rfl (fun ls hl => ?_)
      refine lv_iconst (v := nI 0) hx hb dX5_apart_35 (by decide) ?_
      refine lv_istore (lv' := [(4, .int (nI 0)), (3, .int (nI (2 ^ (τ 0 15) - 1))), (2, .int (nI 3)), (0, .ref (ad 0)), (1, .int (nI 1))]) hx hb dX5_apart_36 hl (by decide) rfl (fun ls hl => ?_)
      have lp38 : ∀ (n : Nat) (p1 : Nat) (be : Nat) (ls : Array Slot), (p1 + n = 5) → (be ≤ 3) → lv_has ls 7 [(4, .int (nI p1)), (2, .int (nI be)), (3, .int (nI (2 ^ (τ 0 15) - 1))), (0, .ref (ad 0)), (1, .int (nI 1))] → W p l e rX5_apart_f_no s m (([.ref (ad 0), .int (nI 1)] : List Value).toArray) below meth c H locs 0 0 (MQ below (va_Qi (fun r u => r = nI 0 ∧ u = sU τ 0 0 1) (fun u t => Wm D cI cZ A ad u t) A) (([.ref (ad 0), .int (nI 1)] : List Value).toArray) s 0 0 A) (F0 m 38 ls []) := by
        intro n
        induction n with
        | zero =>
          intro p1 be ls hF1 hA hl
          obtain rfl : p1 = 5 := by omega
          refine lv_iload hx hb dX5_apart_38 (lv_at hl 0 rfl) ?_
          refine lv_iconst (v := nI 5) hx hb dX5_apart_40 (by decide) ?_
          refine n_icmp_ge hx hb (tgt := 170) (by omega) (by omega) dX5_apart_41 (by decide) (fun c_41 => ?_) (fun c_41 => ?_)
          · refine lv_aload_n hx hb dX5_apart_170 rfl (lv_at hl 3 rfl) ?_
            refine va_get (D := D) (ci := 4) (v := .int (nI 1)) (C := RX5) (T := TX5) (N := 20) hx hb hts in_X5_apart_X5 hown hK hP 0 rfl rfl 0 (by decide) (hts _ lk_X5_apart_67) (fun _ h9 => h9) rfl dX5_apart_171 ?_
            refine q_if_ne hx hb (tgt := 181) (nI_z (by omega)) dX5_apart_174 (by decide) (fun c_174 => ?_) (fun c_174 => ?_)
            · refine lv_iconst (v := nI 0) hx hb dX5_apart_181 (by decide) ?_
              exact W.iret (v := nI 0) hx hb hr (fun t ht hW => ⟨⟨_, (sU τ 0 0 1), rfl, (⟨rfl, rfl⟩), Wm.go hP hK hD ht hW⟩, hS.F ht⟩) hS.2.2 dX5_apart_182
            · exact absurd c_174 (by decide)
          · omega
        | succ n ih38 =>
          intro p1 be ls hF1 hA hl
          have hfr0 : τ 14 p1 = frT p1 := hI.from (by omega)
          have hfr1 : τ 14 (p1 + 1) = frT (p1 + 1) := hI.from (by omega)
          have htb := tab_ok p1 (by omega)
          have hcl1 := hI.cls (j := p1) (by omega)
          have hbe : be ≤ 3 := hA
          refine lv_iload hx hb dX5_apart_38 (lv_at hl 0 rfl) ?_
          refine lv_iconst (v := nI 5) hx hb dX5_apart_40 (by decide) ?_
          refine n_icmp_ge hx hb (tgt := 170) (by omega) (by omega) dX5_apart_41 (by decide) (fun c_41 => ?_) (fun c_41 => ?_)
          · omega
          · refine lv_iconst (v := nI 0) hx hb dX5_apart_44 (by decide) ?_
            refine lv_istore (lv' := [(5, .int (nI 0)), (4, .int (nI p1)), (2, .int (nI be)), (3, .int (nI (2 ^ (τ 0 15) - 1))), (0, .ref (ad 0)), (1, .int (nI 1))]) hx hb dX5_apart_45 hl (by decide) rfl (fun ls hl => ?_)
            refine lv_aload_n hx hb dX5_apart_47 rfl (lv_at hl 4 rfl) ?_
            refine va_get (D := D) (ci := 4) (v := .ref (ad 14)) (C := RX5) (T := TX5) (N := 20) hx hb hts in_X5_apart_X5 hown hK hP 0 rfl rfl 14 (by decide) (hts _ lk_X5_apart_50) (fun _ h9 => h9) rfl dX5_apart_48 ?_
            refine lv_iload hx hb dX5_apart_51 (lv_at hl 1 rfl) ?_
            refine n_ald hx hb hK hP 13 0 rfl rfl (i := p1) (by omega) (by decide) (v := nI (τ 14 p1)) rfl dX5_apart_53 ?_
            refine n_to (w := nI (frT p1)) (by rw [hfr0]) ?_
            refine lv_istore (lv' := [(6, .int (nI (frT p1))), (5, .int (nI 0)), (4, .int (nI p1)), (2, .int (nI be)), (3, .int (nI (2 ^ (τ 0 15) - 1))), (0, .ref (ad 0)), (1, .int (nI 1))]) hx hb dX5_apart_54 hl (by decide) rfl (fun ls hl => ?_)
            have lp56 : ∀ (n : Nat) (r1 : Nat) (so : Bool) (ls : Array Slot), (r1 + n = frT (p1 + 1) ∧ frT p1 ≤ r1) → (so = true ↔ ∃ r, frT p1 ≤ r ∧ r < r1 ∧ HS τ (2 ^ (τ 0 15) - 1) r) → lv_has ls 7 [(6, .int (nI r1)), (5, .int (bI so)), (4, .int (nI p1)), (2, .int (nI be)), (3, .int (nI (2 ^ (τ 0 15) - 1))), (0, .ref (ad 0)), (1, .int (nI 1))] → W p l e rX5_apart_f_no s m (([.ref (ad 0), .int (nI 1)] : List Value).toArray) below meth c H locs 0 0 (MQ below (va_Qi (fun r u => r = nI 0 ∧ u = sU τ 0 0 1) (fun u t => Wm D cI cZ A ad u t) A) (([.ref (ad 0), .int (nI 1)] : List Value).toArray) s 0 0 A) (F0 m 56 ls []) := by
              intro n
              induction n with
              | zero =>
                intro r1 so ls hF2 hso hl
                have hsm : so = true ↔ SM τ p1 := by rw [hso, show r1 = frT (p1 + 1) by omega]; rfl
                refine lv_iload hx hb dX5_apart_56 (lv_at hl 0 rfl) ?_
                refine lv_aload_n hx hb dX5_apart_58 rfl (lv_at hl 5 rfl) ?_
                refine va_get (D := D) (ci := 4) (v := .ref (ad 14)) (C := RX5) (T := TX5) (N := 20) hx hb hts in_X5_apart_X5 hown hK hP 0 rfl rfl 14 (by decide) (hts _ lk_X5_apart_50) (fun _ h9 => h9) rfl dX5_apart_59 ?_
                refine lv_iload hx hb dX5_apart_62 (lv_at hl 2 rfl) ?_
                refine lv_iconst (v := nI 1) hx hb dX5_apart_64 (by decide) ?_
                refine n_add hx hb dX5_apart_65 ?_
                refine n_ald hx hb hK hP 13 0 rfl rfl (i := p1 + 1) (by omega) (by decide) (v := nI (τ 14 (p1 + 1))) rfl dX5_apart_66 ?_
                refine n_to (w := nI (frT (p1 + 1))) (by rw [hfr1]) ?_
                refine n_icmp_ge hx hb (tgt := 101) (by omega) (by omega) dX5_apart_67 (by decide) (fun c_67 => ?_) (fun c_67 => ?_)
                · refine lv_iload_n hx hb dX5_apart_101 rfl (lv_at hl 6 rfl) ?_
                  refine q_if_eq hx hb (tgt := 124) (nI_z (by omega)) dX5_apart_102 (by decide) (fun c_102 => ?_) (fun c_102 => ?_)
                  · exact absurd c_102 (by decide)
                  · refine lv_aload_n hx hb dX5_apart_105 rfl (lv_at hl 5 rfl) ?_
                    refine va_get (D := D) (ci := 4) (v := .ref (ad 8)) (C := RX5) (T := TX5) (N := 20) hx hb hts in_X5_apart_X5 hown hK hP 0 rfl rfl 8 (by decide) (hts _ lk_X5_apart_32) (fun _ h9 => h9) rfl dX5_apart_106 ?_
                    refine lv_iload hx hb dX5_apart_109 (lv_at hl 2 rfl) ?_
                    refine n_ald hx hb hK hP 7 0 rfl rfl (i := p1) (by omega) (by decide) (v := nI (τ 8 p1)) rfl dX5_apart_111 ?_
                    refine n_to (w := nI (difF p1)) (by rw [hcl1]) ?_
                    refine lv_iload_n hx hb dX5_apart_112 rfl (lv_at hl 3 rfl) ?_
                    refine n_icmp_ge hx hb (tgt := 120) (by have := IM.cl3 p1 (by omega); omega) (by have := hbe; omega) dX5_apart_113 (by decide) (fun c_113 => ?_) (fun c_113 => ?_)
                    · refine lv_iconst (v := nI 0) hx hb dX5_apart_120 (by decide) ?_
                      refine lv_goto (tgt := 140) hx hb dX5_apart_121 (by decide) ?_
                      refine lv_istore (lv' := [(6, .int (nI 0)), (5, .int (bI so)), (4, .int (nI p1)), (2, .int (nI be)), (3, .int (nI (2 ^ (τ 0 15) - 1))), (0, .ref (ad 0)), (1, .int (nI 1))]) hx hb dX5_apart_140 hl (by decide) rfl (fun ls hl => ?_)
                      refine lv_iload hx hb dX5_apart_142 (lv_at hl 1 rfl) ?_
                      refine q_if_eq hx hb (tgt := 162) (bI_z) dX5_apart_144 (by decide) (fun c_144 => ?_) (fun c_144 => ?_)
                      · refine lv_iload_n hx hb dX5_apart_162 rfl (lv_at hl 3 rfl) ?_
                        refine lv_istore_n (lv' := [(2, .int (nI be)), (6, .int (nI 0)), (5, .int (bI so)), (4, .int (nI p1)), (3, .int (nI (2 ^ (τ 0 15) - 1))), (0, .ref (ad 0)), (1, .int (nI 1))]) hx hb dX5_apart_163 rfl hl (by decide) rfl (fun ls hl => ?_)
                        refine lv_iinc (v := nI (p1 + 1)) (lv' := [(4, .int (nI (p1 + 1))), (2, .int (nI be)), (6, .int (nI 0)), (5, .int (bI so)), (3, .int (nI (2 ^ (τ 0 15) - 1))), (0, .ref (ad 0)), (1, .int (nI 1))]) hx hb dX5_apart_164 hl (k := 3) rfl (nI_add _ _) (by decide) rfl (fun ls hl => ?_)
                        refine lv_goto (tgt := 38) hx hb dX5_apart_167 (by decide) ?_
                        exact ih38 (p1 + 1) be  _  (by omega) (by have := IM.cl3 p1 (by omega); omega) (lv_sub hl [0, 1, 4, 5, 6] rfl)
                      · refine lv_iload hx hb dX5_apart_147 (lv_at hl 0 rfl) ?_
                        refine q_if_eq hx hb (tgt := 162) (nI_z (by omega)) dX5_apart_149 (by decide) (fun c_149 => ?_) (fun c_149 => ?_)
                        · refine lv_iload_n hx hb dX5_apart_162 rfl (lv_at hl 3 rfl) ?_
                          refine lv_istore_n (lv' := [(2, .int (nI be)), (6, .int (nI 0)), (5, .int (bI so)), (4, .int (nI p1)), (3, .int (nI (2 ^ (τ 0 15) - 1))), (0, .ref (ad 0)), (1, .int (nI 1))]) hx hb dX5_apart_163 rfl hl (by decide) rfl (fun ls hl => ?_)
                          refine lv_iinc (v := nI (p1 + 1)) (lv' := [(4, .int (nI (p1 + 1))), (2, .int (nI be)), (6, .int (nI 0)), (5, .int (bI so)), (3, .int (nI (2 ^ (τ 0 15) - 1))), (0, .ref (ad 0)), (1, .int (nI 1))]) hx hb dX5_apart_164 hl (k := 3) rfl (nI_add _ _) (by decide) rfl (fun ls hl => ?_)
                          refine lv_goto (tgt := 38) hx hb dX5_apart_167 (by decide) ?_
                          exact ih38 (p1 + 1) be  _  (by omega) (by have := IM.cl3 p1 (by omega); omega) (lv_sub hl [0, 1, 4, 5, 6] rfl)
                        · exact absurd c_149 (by decide)
                    · refine lv_iconst (v := nI 1) hx hb dX5_apart_116 (by decide) ?_
                      refine lv_goto (tgt := 140) hx hb dX5_apart_117 (by decide) ?_
                      refine lv_istore (lv' := [(6, .int (nI 1)), (5, .int (bI so)), (4, .int (nI p1)), (2, .int (nI be)), (3, .int (nI (2 ^ (τ 0 15) - 1))), (0, .ref (ad 0)), (1, .int (nI 1))]) hx hb dX5_apart_140 hl (by decide) rfl (fun ls hl => ?_)
                      refine lv_iload hx hb dX5_apart_142 (lv_at hl 1 rfl) ?_
                      refine q_if_eq hx hb (tgt := 162) (bI_z) dX5_apart_144 (by decide) (fun c_144 => ?_) (fun c_144 => ?_)
                      · refine lv_iload_n hx hb dX5_apart_162 rfl (lv_at hl 3 rfl) ?_
                        refine lv_istore_n (lv' := [(2, .int (nI be)), (6, .int (nI 1)), (5, .int (bI so)), (4, .int (nI p1)), (3, .int (nI (2 ^ (τ 0 15) - 1))), (0, .ref (ad 0)), (1, .int (nI 1))]) hx hb dX5_apart_163 rfl hl (by decide) rfl (fun ls hl => ?_)
                        refine lv_iinc (v := nI (p1 + 1)) (lv' := [(4, .int (nI (p1 + 1))), (2, .int (nI be)), (6, .int (nI 1)), (5, .int (bI so)), (3, .int (nI (2 ^ (τ 0 15) - 1))), (0, .ref (ad 0)), (1, .int (nI 1))]) hx hb dX5_apart_164 hl (k := 3) rfl (nI_add _ _) (by decide) rfl (fun ls hl => ?_)
                        refine lv_goto (tgt := 38) hx hb dX5_apart_167 (by decide) ?_
                        exact ih38 (p1 + 1) be  _  (by omega) (by have := IM.cl3 p1 (by omega); omega) (lv_sub hl [0, 1, 4, 5, 6] rfl)
                      · refine lv_iload hx hb dX5_apart_147 (lv_at hl 0 rfl) ?_
                        refine q_if_eq hx hb (tgt := 162) (nI_z (by omega)) dX5_apart_149 (by decide) (fun c_149 => ?_) (fun c_149 => ?_)
                        · exact absurd c_149 (by decide)
                        · refine lv_aload_n hx hb dX5_apart_152 rfl (lv_at hl 5 rfl) ?_
                          refine va_get (D := D) (ci := 4) (v := .ref (ad 8)) (C := RX5) (T := TX5) (N := 20) hx hb hts in_X5_apart_X5 hown hK hP 0 rfl rfl 8 (by decide) (hts _ lk_X5_apart_32) (fun _ h9 => h9) rfl dX5_apart_153 ?_
                          refine lv_iload hx hb dX5_apart_156 (lv_at hl 2 rfl) ?_
                          refine n_ald hx hb hK hP 7 0 rfl rfl (i := p1) (by omega) (by decide) (v := nI (τ 8 p1)) rfl dX5_apart_158 ?_
                          refine n_to (w := nI (difF p1)) (by rw [hcl1]) ?_
                          refine lv_goto (tgt := 163) hx hb dX5_apart_159 (by decide) ?_
                          refine lv_istore_n (lv' := [(2, .int (nI (difF p1))), (6, .int (nI 1)), (5, .int (bI so)), (4, .int (nI p1)), (3, .int (nI (2 ^ (τ 0 15) - 1))), (0, .ref (ad 0)), (1, .int (nI 1))]) hx hb dX5_apart_163 rfl hl (by decide) rfl (fun ls hl => ?_)
                          refine lv_iinc (v := nI (p1 + 1)) (lv' := [(4, .int (nI (p1 + 1))), (2, .int (nI (difF p1))), (6, .int (nI 1)), (5, .int (bI so)), (3, .int (nI (2 ^ (τ 0 15) - 1))), (0, .ref (ad 0)), (1, .int (nI 1))]) hx hb dX5_apart_164 hl (k := 3) rfl (nI_add _ _) (by decide) rfl (fun ls hl => ?_)
                          refine lv_goto (tgt := 38) hx hb dX5_apart_167 (by decide) ?_
                          exact ih38 (p1 + 1) (difF p1)  _  (by omega) (by have := IM.cl3 p1 (by omega); omega) (lv_sub hl [0, 1, 4, 5, 6] rfl)
                · omega
              | succ n ih56 =>
                intro r1 so ls hF2 hso hl
                refine lv_iload hx hb dX5_apart_56 (lv_at hl 0 rfl) ?_
                refine lv_aload_n hx hb dX5_apart_58 rfl (lv_at hl 5 rfl) ?_
                refine va_get (D := D) (ci := 4) (v := .ref (ad 14)) (C := RX5) (T := TX5) (N := 20) hx hb hts in_X5_apart_X5 hown hK hP 0 rfl rfl 14 (by decide) (hts _ lk_X5_apart_50) (fun _ h9 => h9) rfl dX5_apart_59 ?_
                refine lv_iload hx hb dX5_apart_62 (lv_at hl 2 rfl) ?_
                refine lv_iconst (v := nI 1) hx hb dX5_apart_64 (by decide) ?_
                refine n_add hx hb dX5_apart_65 ?_
                refine n_ald hx hb hK hP 13 0 rfl rfl (i := p1 + 1) (by omega) (by decide) (v := nI (τ 14 (p1 + 1))) rfl dX5_apart_66 ?_
                refine n_to (w := nI (frT (p1 + 1))) (by rw [hfr1]) ?_
                refine n_icmp_ge hx hb (tgt := 101) (by omega) (by omega) dX5_apart_67 (by decide) (fun c_67 => ?_) (fun c_67 => ?_)
                · omega
                · refine lv_iload hx hb dX5_apart_70 (lv_at hl 1 rfl) ?_
                  refine q_if_ne hx hb (tgt := 88) (bI_z) dX5_apart_72 (by decide) (fun c_72 => ?_) (fun c_72 => ?_)
                  · refine lv_iconst (v := nI 1) hx hb dX5_apart_88 (by decide) ?_
                    refine lv_goto (tgt := 93) hx hb dX5_apart_89 (by decide) ?_
                    refine lv_istore (lv' := [(5, .int (nI 1)), (6, .int (nI r1)), (4, .int (nI p1)), (2, .int (nI be)), (3, .int (nI (2 ^ (τ 0 15) - 1))), (0, .ref (ad 0)), (1, .int (nI 1))]) hx hb dX5_apart_93 hl (by decide) rfl (fun ls hl => ?_)
                    refine lv_iinc (v := nI (r1 + 1)) (lv' := [(6, .int (nI (r1 + 1))), (5, .int (nI 1)), (4, .int (nI p1)), (2, .int (nI be)), (3, .int (nI (2 ^ (τ 0 15) - 1))), (0, .ref (ad 0)), (1, .int (nI 1))]) hx hb dX5_apart_95 hl (k := 1) rfl (nI_add _ _) (by decide) rfl (fun ls hl => ?_)
                    refine lv_goto (tgt := 56) hx hb dX5_apart_98 (by decide) ?_
                    exact ih56 (r1 + 1) true  _  (by omega) (sm_add hF2.2 hso (by unfold HS; simp_all)) (lv_sub hl [0, 1, 2, 3, 4, 5, 6] rfl)
                  · refine lv_aload_n hx hb dX5_apart_75 rfl (lv_at hl 5 rfl) ?_
                    refine va_get (D := D) (ci := 4) (v := .ref (ad 13)) (C := RX5) (T := TX5) (N := 20) hx hb hts in_X5_apart_X5 hown hK hP 0 rfl rfl 13 (by decide) (hts _ lk_X5_apart_47) (fun _ h9 => h9) rfl dX5_apart_76 ?_
                    refine lv_iload hx hb dX5_apart_79 (lv_at hl 0 rfl) ?_
                    refine n_ald hx hb hK hP 12 0 rfl rfl (i := r1) (by omega) (by decide) (v := nI (τ 13 r1)) rfl dX5_apart_81 ?_
                    refine lv_iload_n hx hb dX5_apart_82 rfl (lv_at hl 4 rfl) ?_
                    refine lv_iand hx hb dX5_apart_83 ?_
                    refine n_to (w := nI (τ 13 r1 &&& (2 ^ (τ 0 15) - 1))) (nx_and _ _) ?_
                    refine lv_iload_n hx hb dX5_apart_84 rfl (lv_at hl 4 rfl) ?_
                    refine q_icmp_ne hx hb (tgt := 92) (nI_eq (by have := and_lt (b := 2 ^ (τ 0 15) - 1) (hI.holds (j := r1) (by omega)); omega) (by omega)) dX5_apart_85 (by decide) (fun c_85 => ?_) (fun c_85 => ?_)
                    · refine lv_iconst (v := nI 0) hx hb dX5_apart_92 (by decide) ?_
                      refine lv_istore (lv' := [(5, .int (nI 0)), (6, .int (nI r1)), (4, .int (nI p1)), (2, .int (nI be)), (3, .int (nI (2 ^ (τ 0 15) - 1))), (0, .ref (ad 0)), (1, .int (nI 1))]) hx hb dX5_apart_93 hl (by decide) rfl (fun ls hl => ?_)
                      refine lv_iinc (v := nI (r1 + 1)) (lv' := [(6, .int (nI (r1 + 1))), (5, .int (nI 0)), (4, .int (nI p1)), (2, .int (nI be)), (3, .int (nI (2 ^ (τ 0 15) - 1))), (0, .ref (ad 0)), (1, .int (nI 1))]) hx hb dX5_apart_95 hl (k := 1) rfl (nI_add _ _) (by decide) rfl (fun ls hl => ?_)
                      refine lv_goto (tgt := 56) hx hb dX5_apart_98 (by decide) ?_
                      exact ih56 (r1 + 1) false  _  (by omega) (sm_add hF2.2 hso (by unfold HS; simp_all)) (lv_sub hl [0, 1, 2, 3, 4, 5, 6] rfl)
                    · refine lv_iconst (v := nI 1) hx hb dX5_apart_88 (by decide) ?_
                      refine lv_goto (tgt := 93) hx hb dX5_apart_89 (by decide) ?_
                      refine lv_istore (lv' := [(5, .int (nI 1)), (6, .int (nI r1)), (4, .int (nI p1)), (2, .int (nI be)), (3, .int (nI (2 ^ (τ 0 15) - 1))), (0, .ref (ad 0)), (1, .int (nI 1))]) hx hb dX5_apart_93 hl (by decide) rfl (fun ls hl => ?_)
                      refine lv_iinc (v := nI (r1 + 1)) (lv' := [(6, .int (nI (r1 + 1))), (5, .int (nI 1)), (4, .int (nI p1)), (2, .int (nI be)), (3, .int (nI (2 ^ (τ 0 15) - 1))), (0, .ref (ad 0)), (1, .int (nI 1))]) hx hb dX5_apart_95 hl (k := 1) rfl (nI_add _ _) (by decide) rfl (fun ls hl => ?_)
                      refine lv_goto (tgt := 56) hx hb dX5_apart_98 (by decide) ?_
                      exact ih56 (r1 + 1) true  _  (by omega) (sm_add hF2.2 hso (by unfold HS; simp_all)) (lv_sub hl [0, 1, 2, 3, 4, 5, 6] rfl)
            exact lp56 (frT (p1 + 1) - frT p1) (frT p1) false  _ (by omega) (⟨fun q => (by cases q), fun ⟨r, q1, q2, _⟩ => absurd q1 (by omega)⟩) (lv_sub hl [0, 1, 2, 3, 4, 5, 6] rfl)
      exact lp38 5 0 3  _ (by omega) (by omega) (lv_sub hl [0, 2, 1, 3, 4] rfl)
  · exact absurd hch c_9
def rX5_apart_m_ok : Room := { frames := 1, cells := 0, slots := 0, locals := 22 }
set_option maxHeartbeats 4000000 in
set_option maxRecDepth 100000 in
theorem c_X5_apart_m_ok (l : Launch) (D : va_G) (cI cZ : ClassId) (A : Nat → Prop) (ad : Nat → Nat) (τ : Nat → Nat → Nat)  (hI : IM τ) (hch : chB τ (2 ^ (τ 0 15) - 1) = true) : Met l yX5_apart wsX5_apart rX5_apart_m_ok (va_Pc [.ref (ad 0), .int (nI 0)] (Wm D cI cZ A ad τ)) (va_Qi (fun r u => ∃ be, r = nI be ∧ APM τ 5 be ∧ u = sU τ 0 0 0) (fun u t => Wm D cI cZ A ad u t) A) 0 0 A := by
  refine Met.ofW (cc := cX5_apart) (maxL := 7) (ret := (some .int)) (by decide) rfl ?_
  intro p e s m args below meth c s₁ B hml hv
  obtain ⟨rfl, hP, hK, hD⟩ := hv
  have hx := B.exec
  have hb := B.bytes
  have hr := B.returns
  have hts := atoms_spec (ws := wsX5_apart) B.pre
  have hown : s.vm.findClass RX5 = some m.cls := findClass_of_methodNamed B.named
  have hlocks := B.notSynchronized
  have hS : va_S A s.heap s.heap [] := va_S.rf
  have hl := lv_entry ([.ref (ad 0), .int (nI 0)]) (n := 7) (Nat.le_of_ble_eq_true rfl)
  rw [lg_entry_eq]
  generalize (lg_sl ([.ref (ad 0), .int (nI 0)]) ++ List.replicate (7 - (lg_sl ([.ref (ad 0), .int (nI 0)])).length) Slot.unset).toArray = ls at hl ⊢
  have hl : lv_has ls 7 [(0, .ref (ad 0)), (1, .int (nI 0))] := hl
  have hcl := hI.claims
  have hp8 := pow8 hcl
  refine lv_aload_n hx hb dX5_apart_0 rfl (lv_at hl 0 rfl) ?_
  refine lv_aload_n hx hb dX5_apart_1 rfl (lv_at hl 0 rfl) ?_
  refine lv_aload_n hx hb dX5_apart_2 rfl (lv_at hl 0 rfl) ?_
  refine vp_callSi (va_Run.run (va_runV (As := []) (rest := [.ref (ad 0), .ref (ad 0)]) ⟨hx, hb, hml, hown, hts⟩ (c_X5_all l D cI cZ A ad τ hcl) (cwV 0 hts gX5_apart_X5_all rfl rfl rfl (by decide +kernel) ⟨Nat.le_of_ble_eq_true rfl, Nat.le_of_ble_eq_true rfl⟩) ⟨Wm.blind, va_recv hK hP (ci := 4) (q0 := 0) rfl rfl, fun U hU hW => ⟨rfl, Wm.go hP hK hD hU hW⟩⟩ rfl rfl hl.1 rfl (lv_room (Nat.le_of_ble_eq_true rfl)) dX5_apart_3 ⟨Nat.zero_le _, Nat.zero_le _⟩)) (fun r_1 hr_1 => ?_)
  refine n_to (w := nI (2 ^ (τ 0 15) - 1)) (hr_1.trans rfl) ?_
  refine vp_callSi (va_Run.run (va_runV (As := [.int (nI (2 ^ (τ 0 15) - 1))]) (rest := [.ref (ad 0)]) ⟨hx, hb, hml, hown, hts⟩ (c_X5_canHold l D cI cZ A ad τ (2 ^ (τ 0 15) - 1) hI (by omega)) (cwV 1 hts gX5_apart_X5_canHold rfl rfl rfl (by decide +kernel) ⟨Nat.le_of_ble_eq_true rfl, Nat.le_of_ble_eq_true rfl⟩) ⟨Wm.blind, va_recv hK hP (ci := 4) (q0 := 0) rfl rfl, fun U hU hW => ⟨rfl, Wm.go hP hK hD hU hW⟩⟩ rfl rfl hl.1 rfl (lv_room (Nat.le_of_ble_eq_true rfl)) dX5_apart_6 ⟨Nat.zero_le _, Nat.zero_le _⟩)) (fun r_2 hr_2 => ?_)
  refine n_to (w := bI (chB τ (2 ^ (τ 0 15) - 1))) (hr_2.trans rfl) ?_
  refine q_if_eq hx hb (tgt := 16) (bI_z) dX5_apart_9 (by decide) (fun c_9 => ?_) (fun c_9 => ?_)
  · rw [hch] at c_9; cases c_9
  · refine lv_iconst (v := nI 0) hx hb dX5_apart_12 (by decide) ?_
    refine lv_goto (tgt := 17) hx hb dX5_apart_13 (by decide) ?_
    refine va_put (D := D) (ci := 4) (v := .int (nI 0)) (ty := .int) (C := RX5) (T := TX5) (N := 20) hx hb hts in_X5_apart_X5 tyX5 tyX5_ok nmX5 hown hK hP hD hS 0 rfl rfl 0 (by decide) (hts _ lk_X5_apart_67) (fun _ h9 => h9) rfl (by decide +kernel) rfl rfl (Nat.le_of_ble_eq_true rfl) dX5_apart_17 (fun H locs hP hD hS => ?_)
    have hP : va_P D vwCl (WM ad cI cZ (sU τ 0 0 0)) H := hP
    have hD : va_D A (WM ad cI cZ (sU τ 0 0 0)) := hD
    refine lv_iload_n hx hb dX5_apart_20 rfl (lv_at hl 1 rfl) ?_
    refine q_if_eq hx hb (tgt := 28) (nI_z (by omega)) dX5_apart_21 (by decide) (fun c_21 => ?_) (fun c_21 => ?_)
    · refine lv_iconst (v := nI 0) hx hb dX5_apart_28 (by decide) ?_
      refine lv_istore_n (lv' := [(2, .int (nI 0)), (0, .ref (ad 0)), (1, .int (nI 0))]) hx hb dX5_apart_29 rfl hl (by decide) rfl (fun ls hl => ?_)
      refine lv_aload_n hx hb dX5_apart_30 rfl (lv_at hl 1 rfl) ?_
      refine vp_callSi (va_Run.run (va_runV (As := []) (rest := []) ⟨hx, hb, hml, hown, hts⟩ (c_X5_all l D cI cZ A ad (sU τ 0 0 0) hcl) (cwV 0 hts gX5_apart_X5_all rfl rfl rfl (by decide +kernel) ⟨Nat.le_of_ble_eq_true rfl, Nat.le_of_ble_eq_true rfl⟩) ⟨Wm.blind, va_recv hK hP (ci := 4) (q0 := 0) rfl rfl, fun U hU hW => ⟨rfl, Wm.go hP hK hD hU hW⟩⟩ rfl rfl hl.1 rfl (lv_room (Nat.le_of_ble_eq_true rfl)) dX5_apart_31 ⟨Nat.zero_le _, Nat.zero_le _⟩)) (fun r_3 hr_3 => ?_)
      refine n_to (w := nI (2 ^ (τ 0 15) - 1)) (hr_3.trans rfl) ?_
      refine lv_istore_n (lv' := [(3, .int (nI (2 ^ (τ 0 15) - 1))), (2, .int (nI 0)), (0, .ref (ad 0)), (1, .int (nI 0))]) hx hb dX5_apart_34 rfl hl (by decide) rfl (fun ls hl => ?_)
      refine lv_iconst (v := nI 0) hx hb dX5_apart_35 (by decide) ?_
      refine lv_istore (lv' := [(4, .int (nI 0)), (3, .int (nI (2 ^ (τ 0 15) - 1))), (2, .int (nI 0)), (0, .ref (ad 0)), (1, .int (nI 0))]) hx hb dX5_apart_36 hl (by decide) rfl (fun ls hl => ?_)
      have lp38 : ∀ (n : Nat) (p1 : Nat) (be : Nat) (ls : Array Slot), (p1 + n = 5) → (APM τ p1 be) → lv_has ls 7 [(4, .int (nI p1)), (2, .int (nI be)), (3, .int (nI (2 ^ (τ 0 15) - 1))), (0, .ref (ad 0)), (1, .int (nI 0))] → W p l e rX5_apart_m_ok s m (([.ref (ad 0), .int (nI 0)] : List Value).toArray) below meth c H locs 0 0 (MQ below (va_Qi (fun r u => ∃ be, r = nI be ∧ APM τ 5 be ∧ u = sU τ 0 0 0) (fun u t => Wm D cI cZ A ad u t) A) (([.ref (ad 0), .int (nI 0)] : List Value).toArray) s 0 0 A) (F0 m 38 ls []) := by
        intro n
        induction n with
        | zero =>
          intro p1 be ls hF1 hA hl
          obtain rfl : p1 = 5 := by omega
          refine lv_iload hx hb dX5_apart_38 (lv_at hl 0 rfl) ?_
          refine lv_iconst (v := nI 5) hx hb dX5_apart_40 (by decide) ?_
          refine n_icmp_ge hx hb (tgt := 170) (by omega) (by omega) dX5_apart_41 (by decide) (fun c_41 => ?_) (fun c_41 => ?_)
          · refine lv_aload_n hx hb dX5_apart_170 rfl (lv_at hl 3 rfl) ?_
            refine va_get (D := D) (ci := 4) (v := .int (nI 0)) (C := RX5) (T := TX5) (N := 20) hx hb hts in_X5_apart_X5 hown hK hP 0 rfl rfl 0 (by decide) (hts _ lk_X5_apart_67) (fun _ h9 => h9) rfl dX5_apart_171 ?_
            refine q_if_ne hx hb (tgt := 181) (nI_z (by omega)) dX5_apart_174 (by decide) (fun c_174 => ?_) (fun c_174 => ?_)
            · exact absurd c_174 (by decide)
            · refine lv_iload_n hx hb dX5_apart_177 rfl (lv_at hl 1 rfl) ?_
              refine lv_goto (tgt := 182) hx hb dX5_apart_178 (by decide) ?_
              exact W.iret (v := nI be) hx hb hr (fun t ht hW => ⟨⟨_, (sU τ 0 0 0), rfl, (⟨be, rfl, hA, rfl⟩), Wm.go hP hK hD ht hW⟩, hS.F ht⟩) hS.2.2 dX5_apart_182
          · omega
        | succ n ih38 =>
          intro p1 be ls hF1 hA hl
          have hfr0 : τ 14 p1 = frT p1 := hI.from (by omega)
          have hfr1 : τ 14 (p1 + 1) = frT (p1 + 1) := hI.from (by omega)
          have htb := tab_ok p1 (by omega)
          have hcl1 := hI.cls (j := p1) (by omega)
          have hbe : be ≤ 3 := hA.1
          refine lv_iload hx hb dX5_apart_38 (lv_at hl 0 rfl) ?_
          refine lv_iconst (v := nI 5) hx hb dX5_apart_40 (by decide) ?_
          refine n_icmp_ge hx hb (tgt := 170) (by omega) (by omega) dX5_apart_41 (by decide) (fun c_41 => ?_) (fun c_41 => ?_)
          · omega
          · refine lv_iconst (v := nI 0) hx hb dX5_apart_44 (by decide) ?_
            refine lv_istore (lv' := [(5, .int (nI 0)), (4, .int (nI p1)), (2, .int (nI be)), (3, .int (nI (2 ^ (τ 0 15) - 1))), (0, .ref (ad 0)), (1, .int (nI 0))]) hx hb dX5_apart_45 hl (by decide) rfl (fun ls hl => ?_)
            refine lv_aload_n hx hb dX5_apart_47 rfl (lv_at hl 4 rfl) ?_
            refine va_get (D := D) (ci := 4) (v := .ref (ad 14)) (C := RX5) (T := TX5) (N := 20) hx hb hts in_X5_apart_X5 hown hK hP 0 rfl rfl 14 (by decide) (hts _ lk_X5_apart_50) (fun _ h9 => h9) rfl dX5_apart_48 ?_
            refine lv_iload hx hb dX5_apart_51 (lv_at hl 1 rfl) ?_
            refine n_ald hx hb hK hP 13 0 rfl rfl (i := p1) (by omega) (by decide) (v := nI (τ 14 p1)) rfl dX5_apart_53 ?_
            refine n_to (w := nI (frT p1)) (by rw [hfr0]) ?_
            refine lv_istore (lv' := [(6, .int (nI (frT p1))), (5, .int (nI 0)), (4, .int (nI p1)), (2, .int (nI be)), (3, .int (nI (2 ^ (τ 0 15) - 1))), (0, .ref (ad 0)), (1, .int (nI 0))]) hx hb dX5_apart_54 hl (by decide) rfl (fun ls hl => ?_)
            have lp56 : ∀ (n : Nat) (r1 : Nat) (so : Bool) (ls : Array Slot), (r1 + n = frT (p1 + 1) ∧ frT p1 ≤ r1) → (so = true ↔ ∃ r, frT p1 ≤ r ∧ r < r1 ∧ HS τ (2 ^ (τ 0 15) - 1) r) → lv_has ls 7 [(6, .int (nI r1)), (5, .int (bI so)), (4, .int (nI p1)), (2, .int (nI be)), (3, .int (nI (2 ^ (τ 0 15) - 1))), (0, .ref (ad 0)), (1, .int (nI 0))] → W p l e rX5_apart_m_ok s m (([.ref (ad 0), .int (nI 0)] : List Value).toArray) below meth c H locs 0 0 (MQ below (va_Qi (fun r u => ∃ be, r = nI be ∧ APM τ 5 be ∧ u = sU τ 0 0 0) (fun u t => Wm D cI cZ A ad u t) A) (([.ref (ad 0), .int (nI 0)] : List Value).toArray) s 0 0 A) (F0 m 56 ls []) := by
              intro n
              induction n with
              | zero =>
                intro r1 so ls hF2 hso hl
                have hsm : so = true ↔ SM τ p1 := by rw [hso, show r1 = frT (p1 + 1) by omega]; rfl
                refine lv_iload hx hb dX5_apart_56 (lv_at hl 0 rfl) ?_
                refine lv_aload_n hx hb dX5_apart_58 rfl (lv_at hl 5 rfl) ?_
                refine va_get (D := D) (ci := 4) (v := .ref (ad 14)) (C := RX5) (T := TX5) (N := 20) hx hb hts in_X5_apart_X5 hown hK hP 0 rfl rfl 14 (by decide) (hts _ lk_X5_apart_50) (fun _ h9 => h9) rfl dX5_apart_59 ?_
                refine lv_iload hx hb dX5_apart_62 (lv_at hl 2 rfl) ?_
                refine lv_iconst (v := nI 1) hx hb dX5_apart_64 (by decide) ?_
                refine n_add hx hb dX5_apart_65 ?_
                refine n_ald hx hb hK hP 13 0 rfl rfl (i := p1 + 1) (by omega) (by decide) (v := nI (τ 14 (p1 + 1))) rfl dX5_apart_66 ?_
                refine n_to (w := nI (frT (p1 + 1))) (by rw [hfr1]) ?_
                refine n_icmp_ge hx hb (tgt := 101) (by omega) (by omega) dX5_apart_67 (by decide) (fun c_67 => ?_) (fun c_67 => ?_)
                · refine lv_iload_n hx hb dX5_apart_101 rfl (lv_at hl 6 rfl) ?_
                  refine q_if_eq hx hb (tgt := 124) (nI_z (by omega)) dX5_apart_102 (by decide) (fun c_102 => ?_) (fun c_102 => ?_)
                  · refine lv_aload_n hx hb dX5_apart_124 rfl (lv_at hl 5 rfl) ?_
                    refine va_get (D := D) (ci := 4) (v := .ref (ad 8)) (C := RX5) (T := TX5) (N := 20) hx hb hts in_X5_apart_X5 hown hK hP 0 rfl rfl 8 (by decide) (hts _ lk_X5_apart_32) (fun _ h9 => h9) rfl dX5_apart_125 ?_
                    refine lv_iload hx hb dX5_apart_128 (lv_at hl 2 rfl) ?_
                    refine n_ald hx hb hK hP 7 0 rfl rfl (i := p1) (by omega) (by decide) (v := nI (τ 8 p1)) rfl dX5_apart_130 ?_
                    refine n_to (w := nI (difF p1)) (by rw [hcl1]) ?_
                    refine lv_iload_n hx hb dX5_apart_131 rfl (lv_at hl 3 rfl) ?_
                    refine n_icmp_le hx hb (tgt := 139) (by have := IM.cl3 p1 (by omega); omega) (by have := hbe; omega) dX5_apart_132 (by decide) (fun c_132 => ?_) (fun c_132 => ?_)
                    · refine lv_iconst (v := nI 0) hx hb dX5_apart_139 (by decide) ?_
                      refine lv_istore (lv' := [(6, .int (nI 0)), (5, .int (bI so)), (4, .int (nI p1)), (2, .int (nI be)), (3, .int (nI (2 ^ (τ 0 15) - 1))), (0, .ref (ad 0)), (1, .int (nI 0))]) hx hb dX5_apart_140 hl (by decide) rfl (fun ls hl => ?_)
                      refine lv_iload hx hb dX5_apart_142 (lv_at hl 1 rfl) ?_
                      refine q_if_eq hx hb (tgt := 162) (bI_z) dX5_apart_144 (by decide) (fun c_144 => ?_) (fun c_144 => ?_)
                      · refine lv_iload_n hx hb dX5_apart_162 rfl (lv_at hl 3 rfl) ?_
                        refine lv_istore_n (lv' := [(2, .int (nI be)), (6, .int (nI 0)), (5, .int (bI so)), (4, .int (nI p1)), (3, .int (nI (2 ^ (τ 0 15) - 1))), (0, .ref (ad 0)), (1, .int (nI 0))]) hx hb dX5_apart_163 rfl hl (by decide) rfl (fun ls hl => ?_)
                        refine lv_iinc (v := nI (p1 + 1)) (lv' := [(4, .int (nI (p1 + 1))), (2, .int (nI be)), (6, .int (nI 0)), (5, .int (bI so)), (3, .int (nI (2 ^ (τ 0 15) - 1))), (0, .ref (ad 0)), (1, .int (nI 0))]) hx hb dX5_apart_164 hl (k := 3) rfl (nI_add _ _) (by decide) rfl (fun ls hl => ?_)
                        refine lv_goto (tgt := 38) hx hb dX5_apart_167 (by decide) ?_
                        exact ih38 (p1 + 1) be  _  (by omega) (hA.keep (fun q => absurd (hsm.mpr q) (ts_ff c_144))) (lv_sub hl [0, 1, 4, 5, 6] rfl)
                      · refine lv_iload hx hb dX5_apart_147 (lv_at hl 0 rfl) ?_
                        refine q_if_eq hx hb (tgt := 162) (nI_z (by omega)) dX5_apart_149 (by decide) (fun c_149 => ?_) (fun c_149 => ?_)
                        · refine lv_iload_n hx hb dX5_apart_162 rfl (lv_at hl 3 rfl) ?_
                          refine lv_istore_n (lv' := [(2, .int (nI be)), (6, .int (nI 0)), (5, .int (bI so)), (4, .int (nI p1)), (3, .int (nI (2 ^ (τ 0 15) - 1))), (0, .ref (ad 0)), (1, .int (nI 0))]) hx hb dX5_apart_163 rfl hl (by decide) rfl (fun ls hl => ?_)
                          refine lv_iinc (v := nI (p1 + 1)) (lv' := [(4, .int (nI (p1 + 1))), (2, .int (nI be)), (6, .int (nI 0)), (5, .int (bI so)), (3, .int (nI (2 ^ (τ 0 15) - 1))), (0, .ref (ad 0)), (1, .int (nI 0))]) hx hb dX5_apart_164 hl (k := 3) rfl (nI_add _ _) (by decide) rfl (fun ls hl => ?_)
                          refine lv_goto (tgt := 38) hx hb dX5_apart_167 (by decide) ?_
                          exact ih38 (p1 + 1) be  _  (by omega) (hA.keep (fun _ => c_132)) (lv_sub hl [0, 1, 4, 5, 6] rfl)
                        · exact absurd c_149 (by decide)
                    · refine lv_iconst (v := nI 1) hx hb dX5_apart_135 (by decide) ?_
                      refine lv_goto (tgt := 140) hx hb dX5_apart_136 (by decide) ?_
                      refine lv_istore (lv' := [(6, .int (nI 1)), (5, .int (bI so)), (4, .int (nI p1)), (2, .int (nI be)), (3, .int (nI (2 ^ (τ 0 15) - 1))), (0, .ref (ad 0)), (1, .int (nI 0))]) hx hb dX5_apart_140 hl (by decide) rfl (fun ls hl => ?_)
                      refine lv_iload hx hb dX5_apart_142 (lv_at hl 1 rfl) ?_
                      refine q_if_eq hx hb (tgt := 162) (bI_z) dX5_apart_144 (by decide) (fun c_144 => ?_) (fun c_144 => ?_)
                      · refine lv_iload_n hx hb dX5_apart_162 rfl (lv_at hl 3 rfl) ?_
                        refine lv_istore_n (lv' := [(2, .int (nI be)), (6, .int (nI 1)), (5, .int (bI so)), (4, .int (nI p1)), (3, .int (nI (2 ^ (τ 0 15) - 1))), (0, .ref (ad 0)), (1, .int (nI 0))]) hx hb dX5_apart_163 rfl hl (by decide) rfl (fun ls hl => ?_)
                        refine lv_iinc (v := nI (p1 + 1)) (lv' := [(4, .int (nI (p1 + 1))), (2, .int (nI be)), (6, .int (nI 1)), (5, .int (bI so)), (3, .int (nI (2 ^ (τ 0 15) - 1))), (0, .ref (ad 0)), (1, .int (nI 0))]) hx hb dX5_apart_164 hl (k := 3) rfl (nI_add _ _) (by decide) rfl (fun ls hl => ?_)
                        refine lv_goto (tgt := 38) hx hb dX5_apart_167 (by decide) ?_
                        exact ih38 (p1 + 1) be  _  (by omega) (hA.keep (fun q => absurd (hsm.mpr q) (ts_ff c_144))) (lv_sub hl [0, 1, 4, 5, 6] rfl)
                      · refine lv_iload hx hb dX5_apart_147 (lv_at hl 0 rfl) ?_
                        refine q_if_eq hx hb (tgt := 162) (nI_z (by omega)) dX5_apart_149 (by decide) (fun c_149 => ?_) (fun c_149 => ?_)
                        · exact absurd c_149 (by decide)
                        · refine lv_aload_n hx hb dX5_apart_152 rfl (lv_at hl 5 rfl) ?_
                          refine va_get (D := D) (ci := 4) (v := .ref (ad 8)) (C := RX5) (T := TX5) (N := 20) hx hb hts in_X5_apart_X5 hown hK hP 0 rfl rfl 8 (by decide) (hts _ lk_X5_apart_32) (fun _ h9 => h9) rfl dX5_apart_153 ?_
                          refine lv_iload hx hb dX5_apart_156 (lv_at hl 2 rfl) ?_
                          refine n_ald hx hb hK hP 7 0 rfl rfl (i := p1) (by omega) (by decide) (v := nI (τ 8 p1)) rfl dX5_apart_158 ?_
                          refine n_to (w := nI (difF p1)) (by rw [hcl1]) ?_
                          refine lv_goto (tgt := 163) hx hb dX5_apart_159 (by decide) ?_
                          refine lv_istore_n (lv' := [(2, .int (nI (difF p1))), (6, .int (nI 1)), (5, .int (bI so)), (4, .int (nI p1)), (3, .int (nI (2 ^ (τ 0 15) - 1))), (0, .ref (ad 0)), (1, .int (nI 0))]) hx hb dX5_apart_163 rfl hl (by decide) rfl (fun ls hl => ?_)
                          refine lv_iinc (v := nI (p1 + 1)) (lv' := [(4, .int (nI (p1 + 1))), (2, .int (nI (difF p1))), (6, .int (nI 1)), (5, .int (bI so)), (3, .int (nI (2 ^ (τ 0 15) - 1))), (0, .ref (ad 0)), (1, .int (nI 0))]) hx hb dX5_apart_164 hl (k := 3) rfl (nI_add _ _) (by decide) rfl (fun ls hl => ?_)
                          refine lv_goto (tgt := 38) hx hb dX5_apart_167 (by decide) ?_
                          exact ih38 (p1 + 1) (difF p1)  _  (by omega) (hA.new (hsm.mp (ts_nf c_144)) c_132) (lv_sub hl [0, 1, 4, 5, 6] rfl)
                  · exact absurd c_102 (by decide)
                · omega
              | succ n ih56 =>
                intro r1 so ls hF2 hso hl
                refine lv_iload hx hb dX5_apart_56 (lv_at hl 0 rfl) ?_
                refine lv_aload_n hx hb dX5_apart_58 rfl (lv_at hl 5 rfl) ?_
                refine va_get (D := D) (ci := 4) (v := .ref (ad 14)) (C := RX5) (T := TX5) (N := 20) hx hb hts in_X5_apart_X5 hown hK hP 0 rfl rfl 14 (by decide) (hts _ lk_X5_apart_50) (fun _ h9 => h9) rfl dX5_apart_59 ?_
                refine lv_iload hx hb dX5_apart_62 (lv_at hl 2 rfl) ?_
                refine lv_iconst (v := nI 1) hx hb dX5_apart_64 (by decide) ?_
                refine n_add hx hb dX5_apart_65 ?_
                refine n_ald hx hb hK hP 13 0 rfl rfl (i := p1 + 1) (by omega) (by decide) (v := nI (τ 14 (p1 + 1))) rfl dX5_apart_66 ?_
                refine n_to (w := nI (frT (p1 + 1))) (by rw [hfr1]) ?_
                refine n_icmp_ge hx hb (tgt := 101) (by omega) (by omega) dX5_apart_67 (by decide) (fun c_67 => ?_) (fun c_67 => ?_)
                · omega
                · refine lv_iload hx hb dX5_apart_70 (lv_at hl 1 rfl) ?_
                  refine q_if_ne hx hb (tgt := 88) (bI_z) dX5_apart_72 (by decide) (fun c_72 => ?_) (fun c_72 => ?_)
                  · refine lv_iconst (v := nI 1) hx hb dX5_apart_88 (by decide) ?_
                    refine lv_goto (tgt := 93) hx hb dX5_apart_89 (by decide) ?_
                    refine lv_istore (lv' := [(5, .int (nI 1)), (6, .int (nI r1)), (4, .int (nI p1)), (2, .int (nI be)), (3, .int (nI (2 ^ (τ 0 15) - 1))), (0, .ref (ad 0)), (1, .int (nI 0))]) hx hb dX5_apart_93 hl (by decide) rfl (fun ls hl => ?_)
                    refine lv_iinc (v := nI (r1 + 1)) (lv' := [(6, .int (nI (r1 + 1))), (5, .int (nI 1)), (4, .int (nI p1)), (2, .int (nI be)), (3, .int (nI (2 ^ (τ 0 15) - 1))), (0, .ref (ad 0)), (1, .int (nI 0))]) hx hb dX5_apart_95 hl (k := 1) rfl (nI_add _ _) (by decide) rfl (fun ls hl => ?_)
                    refine lv_goto (tgt := 56) hx hb dX5_apart_98 (by decide) ?_
                    exact ih56 (r1 + 1) true  _  (by omega) (sm_add hF2.2 hso (by unfold HS; simp_all)) (lv_sub hl [0, 1, 2, 3, 4, 5, 6] rfl)
                  · refine lv_aload_n hx hb dX5_apart_75 rfl (lv_at hl 5 rfl) ?_
                    refine va_get (D := D) (ci := 4) (v := .ref (ad 13)) (C := RX5) (T := TX5) (N := 20) hx hb hts in_X5_apart_X5 hown hK hP 0 rfl rfl 13 (by decide) (hts _ lk_X5_apart_47) (fun _ h9 => h9) rfl dX5_apart_76 ?_
                    refine lv_iload hx hb dX5_apart_79 (lv_at hl 0 rfl) ?_
                    refine n_ald hx hb hK hP 12 0 rfl rfl (i := r1) (by omega) (by decide) (v := nI (τ 13 r1)) rfl dX5_apart_81 ?_
                    refine lv_iload_n hx hb dX5_apart_82 rfl (lv_at hl 4 rfl) ?_
                    refine lv_iand hx hb dX5_apart_83 ?_
                    refine n_to (w := nI (τ 13 r1 &&& (2 ^ (τ 0 15) - 1))) (nx_and _ _) ?_
                    refine lv_iload_n hx hb dX5_apart_84 rfl (lv_at hl 4 rfl) ?_
                    refine q_icmp_ne hx hb (tgt := 92) (nI_eq (by have := and_lt (b := 2 ^ (τ 0 15) - 1) (hI.holds (j := r1) (by omega)); omega) (by omega)) dX5_apart_85 (by decide) (fun c_85 => ?_) (fun c_85 => ?_)
                    · refine lv_iconst (v := nI 0) hx hb dX5_apart_92 (by decide) ?_
                      refine lv_istore (lv' := [(5, .int (nI 0)), (6, .int (nI r1)), (4, .int (nI p1)), (2, .int (nI be)), (3, .int (nI (2 ^ (τ 0 15) - 1))), (0, .ref (ad 0)), (1, .int (nI 0))]) hx hb dX5_apart_93 hl (by decide) rfl (fun ls hl => ?_)
                      refine lv_iinc (v := nI (r1 + 1)) (lv' := [(6, .int (nI (r1 + 1))), (5, .int (nI 0)), (4, .int (nI p1)), (2, .int (nI be)), (3, .int (nI (2 ^ (τ 0 15) - 1))), (0, .ref (ad 0)), (1, .int (nI 0))]) hx hb dX5_apart_95 hl (k := 1) rfl (nI_add _ _) (by decide) rfl (fun ls hl => ?_)
                      refine lv_goto (tgt := 56) hx hb dX5_apart_98 (by decide) ?_
                      exact ih56 (r1 + 1) false  _  (by omega) (sm_add hF2.2 hso (by unfold HS; simp_all)) (lv_sub hl [0, 1, 2, 3, 4, 5, 6] rfl)
                    · refine lv_iconst (v := nI 1) hx hb dX5_apart_88 (by decide) ?_
                      refine lv_goto (tgt := 93) hx hb dX5_apart_89 (by decide) ?_
                      refine lv_istore (lv' := [(5, .int (nI 1)), (6, .int (nI r1)), (4, .int (nI p1)), (2, .int (nI be)), (3, .int (nI (2 ^ (τ 0 15) - 1))), (0, .ref (ad 0)), (1, .int (nI 0))]) hx hb dX5_apart_93 hl (by decide) rfl (fun ls hl => ?_)
                      refine lv_iinc (v := nI (r1 + 1)) (lv' := [(6, .int (nI (r1 + 1))), (5, .int (nI 1)), (4, .int (nI p1)), (2, .int (nI be)), (3, .int (nI (2 ^ (τ 0 15) - 1))), (0, .ref (ad 0)), (1, .int (nI 0))]) hx hb dX5_apart_95 hl (k := 1) rfl (nI_add _ _) (by decide) rfl (fun ls hl => ?_)
                      refine lv_goto (tgt := 56) hx hb dX5_apart_98 (by decide) ?_
                      exact ih56 (r1 + 1) true  _  (by omega) (sm_add hF2.2 hso (by unfold HS; simp_all)) (lv_sub hl [0, 1, 2, 3, 4, 5, 6] rfl)
            exact lp56 (frT (p1 + 1) - frT p1) (frT p1) false  _ (by omega) (⟨fun q => (by cases q), fun ⟨r, q1, q2, _⟩ => absurd q1 (by omega)⟩) (lv_sub hl [0, 1, 2, 3, 4, 5, 6] rfl)
      exact lp38 5 0 0  _ (by omega) (⟨by omega, Or.inl rfl, fun p q => absurd q (by omega)⟩) (lv_sub hl [0, 2, 1, 3, 4] rfl)
    · exact absurd c_21 (by decide)
def rX5_apart_m_no : Room := { frames := 1, cells := 0, slots := 0, locals := 22 }
set_option maxHeartbeats 4000000 in
set_option maxRecDepth 100000 in
theorem c_X5_apart_m_no (l : Launch) (D : va_G) (cI cZ : ClassId) (A : Nat → Prop) (ad : Nat → Nat) (τ : Nat → Nat → Nat)  (hI : IM τ) (hch : chB τ (2 ^ (τ 0 15) - 1) = false) : Met l yX5_apart wsX5_apart rX5_apart_m_no (va_Pc [.ref (ad 0), .int (nI 0)] (Wm D cI cZ A ad τ)) (va_Qi (fun r u => r = nI 0 ∧ u = sU τ 0 0 1) (fun u t => Wm D cI cZ A ad u t) A) 0 0 A := by
  refine Met.ofW (cc := cX5_apart) (maxL := 7) (ret := (some .int)) (by decide) rfl ?_
  intro p e s m args below meth c s₁ B hml hv
  obtain ⟨rfl, hP, hK, hD⟩ := hv
  have hx := B.exec
  have hb := B.bytes
  have hr := B.returns
  have hts := atoms_spec (ws := wsX5_apart) B.pre
  have hown : s.vm.findClass RX5 = some m.cls := findClass_of_methodNamed B.named
  have hlocks := B.notSynchronized
  have hS : va_S A s.heap s.heap [] := va_S.rf
  have hl := lv_entry ([.ref (ad 0), .int (nI 0)]) (n := 7) (Nat.le_of_ble_eq_true rfl)
  rw [lg_entry_eq]
  generalize (lg_sl ([.ref (ad 0), .int (nI 0)]) ++ List.replicate (7 - (lg_sl ([.ref (ad 0), .int (nI 0)])).length) Slot.unset).toArray = ls at hl ⊢
  have hl : lv_has ls 7 [(0, .ref (ad 0)), (1, .int (nI 0))] := hl
  have hcl := hI.claims
  have hp8 := pow8 hcl
  refine lv_aload_n hx hb dX5_apart_0 rfl (lv_at hl 0 rfl) ?_
  refine lv_aload_n hx hb dX5_apart_1 rfl (lv_at hl 0 rfl) ?_
  refine lv_aload_n hx hb dX5_apart_2 rfl (lv_at hl 0 rfl) ?_
  refine vp_callSi (va_Run.run (va_runV (As := []) (rest := [.ref (ad 0), .ref (ad 0)]) ⟨hx, hb, hml, hown, hts⟩ (c_X5_all l D cI cZ A ad τ hcl) (cwV 0 hts gX5_apart_X5_all rfl rfl rfl (by decide +kernel) ⟨Nat.le_of_ble_eq_true rfl, Nat.le_of_ble_eq_true rfl⟩) ⟨Wm.blind, va_recv hK hP (ci := 4) (q0 := 0) rfl rfl, fun U hU hW => ⟨rfl, Wm.go hP hK hD hU hW⟩⟩ rfl rfl hl.1 rfl (lv_room (Nat.le_of_ble_eq_true rfl)) dX5_apart_3 ⟨Nat.zero_le _, Nat.zero_le _⟩)) (fun r_1 hr_1 => ?_)
  refine n_to (w := nI (2 ^ (τ 0 15) - 1)) (hr_1.trans rfl) ?_
  refine vp_callSi (va_Run.run (va_runV (As := [.int (nI (2 ^ (τ 0 15) - 1))]) (rest := [.ref (ad 0)]) ⟨hx, hb, hml, hown, hts⟩ (c_X5_canHold l D cI cZ A ad τ (2 ^ (τ 0 15) - 1) hI (by omega)) (cwV 1 hts gX5_apart_X5_canHold rfl rfl rfl (by decide +kernel) ⟨Nat.le_of_ble_eq_true rfl, Nat.le_of_ble_eq_true rfl⟩) ⟨Wm.blind, va_recv hK hP (ci := 4) (q0 := 0) rfl rfl, fun U hU hW => ⟨rfl, Wm.go hP hK hD hU hW⟩⟩ rfl rfl hl.1 rfl (lv_room (Nat.le_of_ble_eq_true rfl)) dX5_apart_6 ⟨Nat.zero_le _, Nat.zero_le _⟩)) (fun r_2 hr_2 => ?_)
  refine n_to (w := bI (chB τ (2 ^ (τ 0 15) - 1))) (hr_2.trans rfl) ?_
  refine q_if_eq hx hb (tgt := 16) (bI_z) dX5_apart_9 (by decide) (fun c_9 => ?_) (fun c_9 => ?_)
  · refine lv_iconst (v := nI 1) hx hb dX5_apart_16 (by decide) ?_
    refine va_put (D := D) (ci := 4) (v := .int (nI 1)) (ty := .int) (C := RX5) (T := TX5) (N := 20) hx hb hts in_X5_apart_X5 tyX5 tyX5_ok nmX5 hown hK hP hD hS 0 rfl rfl 0 (by decide) (hts _ lk_X5_apart_67) (fun _ h9 => h9) rfl (by decide +kernel) rfl rfl (Nat.le_of_ble_eq_true rfl) dX5_apart_17 (fun H locs hP hD hS => ?_)
    have hP : va_P D vwCl (WM ad cI cZ (sU τ 0 0 1)) H := hP
    have hD : va_D A (WM ad cI cZ (sU τ 0 0 1)) := hD
    refine lv_iload_n hx hb dX5_apart_20 rfl (lv_at hl 1 rfl) ?_
    refine q_if_eq hx hb (tgt := 28) (nI_z (by omega)) dX5_apart_21 (by decide) (fun c_21 => ?_) (fun c_21 => ?_)
    · refine lv_iconst (v := nI 0) hx hb dX5_apart_28 (by decide) ?_
      refine lv_istore_n (lv' := [(2, .int (nI 0)), (0, .ref (ad 0)), (1, .int (nI 0))]) hx hb dX5_apart_29 rfl hl (by decide) rfl (fun ls hl => ?_)
      refine lv_aload_n hx hb dX5_apart_30 rfl (lv_at hl 1 rfl) ?_
      refine vp_callSi (va_Run.run (va_runV (As := []) (rest := []) ⟨hx, hb, hml, hown, hts⟩ (c_X5_all l D cI cZ A ad (sU τ 0 0 1) hcl) (cwV 0 hts gX5_apart_X5_all rfl rfl rfl (by decide +kernel) ⟨Nat.le_of_ble_eq_true rfl, Nat.le_of_ble_eq_true rfl⟩) ⟨Wm.blind, va_recv hK hP (ci := 4) (q0 := 0) rfl rfl, fun U hU hW => ⟨rfl, Wm.go hP hK hD hU hW⟩⟩ rfl rfl hl.1 rfl (lv_room (Nat.le_of_ble_eq_true rfl)) dX5_apart_31 ⟨Nat.zero_le _, Nat.zero_le _⟩)) (fun r_3 hr_3 => ?_)
      refine n_to (w := nI (2 ^ (τ 0 15) - 1)) (hr_3.trans rfl) ?_
      refine lv_istore_n (lv' := [(3, .int (nI (2 ^ (τ 0 15) - 1))), (2, .int (nI 0)), (0, .ref (ad 0)), (1, .int (nI 0))]) hx hb dX5_apart_34 rfl hl (by decide) rfl (fun ls hl => ?_)
      refine lv_iconst (v := nI 0) hx hb dX5_apart_35 (by decide) ?_
      refine lv_istore (lv' := [(4, .int (nI 0)), (3, .int (nI (2 ^ (τ 0 15) - 1))), (2, .int (nI 0)), (0, .ref (ad 0)), (1, .int (nI 0))]) hx hb dX5_apart_36 hl (by decide) rfl (fun ls hl => ?_)
      have lp38 : ∀ (n : Nat) (p1 : Nat) (be : Nat) (ls : Array Slot), (p1 + n = 5) → (be ≤ 3) → lv_has ls 7 [(4, .int (nI p1)), (2, .int (nI be)), (3, .int (nI (2 ^ (τ 0 15) - 1))), (0, .ref (ad 0)), (1, .int (nI 0))] → W p l e rX5_apart_m_no s m (([.ref (ad 0), .int (nI 0)] : List Value).toArray) below meth c H locs 0 0 (MQ below (va_Qi (fun r u => r = nI 0 ∧ u = sU τ 0 0 1) (fun u t => Wm D cI cZ A ad u t) A) (([.ref (ad 0), .int (nI 0)] : List Value).toArray) s 0 0 A) (F0 m 38 ls []) := by
        intro n
        induction n with
        | zero =>
          intro p1 be ls hF1 hA hl
          obtain rfl : p1 = 5 := by omega
          refine lv_iload hx hb dX5_apart_38 (lv_at hl 0 rfl) ?_
          refine lv_iconst (v := nI 5) hx hb dX5_apart_40 (by decide) ?_
          refine n_icmp_ge hx hb (tgt := 170) (by omega) (by omega) dX5_apart_41 (by decide) (fun c_41 => ?_) (fun c_41 => ?_)
          · refine lv_aload_n hx hb dX5_apart_170 rfl (lv_at hl 3 rfl) ?_
            refine va_get (D := D) (ci := 4) (v := .int (nI 1)) (C := RX5) (T := TX5) (N := 20) hx hb hts in_X5_apart_X5 hown hK hP 0 rfl rfl 0 (by decide) (hts _ lk_X5_apart_67) (fun _ h9 => h9) rfl dX5_apart_171 ?_
            refine q_if_ne hx hb (tgt := 181) (nI_z (by omega)) dX5_apart_174 (by decide) (fun c_174 => ?_) (fun c_174 => ?_)
            · refine lv_iconst (v := nI 0) hx hb dX5_apart_181 (by decide) ?_
              exact W.iret (v := nI 0) hx hb hr (fun t ht hW => ⟨⟨_, (sU τ 0 0 1), rfl, (⟨rfl, rfl⟩), Wm.go hP hK hD ht hW⟩, hS.F ht⟩) hS.2.2 dX5_apart_182
            · exact absurd c_174 (by decide)
          · omega
        | succ n ih38 =>
          intro p1 be ls hF1 hA hl
          have hfr0 : τ 14 p1 = frT p1 := hI.from (by omega)
          have hfr1 : τ 14 (p1 + 1) = frT (p1 + 1) := hI.from (by omega)
          have htb := tab_ok p1 (by omega)
          have hcl1 := hI.cls (j := p1) (by omega)
          have hbe : be ≤ 3 := hA
          refine lv_iload hx hb dX5_apart_38 (lv_at hl 0 rfl) ?_
          refine lv_iconst (v := nI 5) hx hb dX5_apart_40 (by decide) ?_
          refine n_icmp_ge hx hb (tgt := 170) (by omega) (by omega) dX5_apart_41 (by decide) (fun c_41 => ?_) (fun c_41 => ?_)
          · omega
          · refine lv_iconst (v := nI 0) hx hb dX5_apart_44 (by decide) ?_
            refine lv_istore (lv' := [(5, .int (nI 0)), (4, .int (nI p1)), (2, .int (nI be)), (3, .int (nI (2 ^ (τ 0 15) - 1))), (0, .ref (ad 0)), (1, .int (nI 0))]) hx hb dX5_apart_45 hl (by decide) rfl (fun ls hl => ?_)
            refine lv_aload_n hx hb dX5_apart_47 rfl (lv_at hl 4 rfl) ?_
            refine va_get (D := D) (ci := 4) (v := .ref (ad 14)) (C := RX5) (T := TX5) (N := 20) hx hb hts in_X5_apart_X5 hown hK hP 0 rfl rfl 14 (by decide) (hts _ lk_X5_apart_50) (fun _ h9 => h9) rfl dX5_apart_48 ?_
            refine lv_iload hx hb dX5_apart_51 (lv_at hl 1 rfl) ?_
            refine n_ald hx hb hK hP 13 0 rfl rfl (i := p1) (by omega) (by decide) (v := nI (τ 14 p1)) rfl dX5_apart_53 ?_
            refine n_to (w := nI (frT p1)) (by rw [hfr0]) ?_
            refine lv_istore (lv' := [(6, .int (nI (frT p1))), (5, .int (nI 0)), (4, .int (nI p1)), (2, .int (nI be)), (3, .int (nI (2 ^ (τ 0 15) - 1))), (0, .ref (ad 0)), (1, .int (nI 0))]) hx hb dX5_apart_54 hl (by decide) rfl (fun ls hl => ?_)
            have lp56 : ∀ (n : Nat) (r1 : Nat) (so : Bool) (ls : Array Slot), (r1 + n = frT (p1 + 1) ∧ frT p1 ≤ r1) → (so = true ↔ ∃ r, frT p1 ≤ r ∧ r < r1 ∧ HS τ (2 ^ (τ 0 15) - 1) r) → lv_has ls 7 [(6, .int (nI r1)), (5, .int (bI so)), (4, .int (nI p1)), (2, .int (nI be)), (3, .int (nI (2 ^ (τ 0 15) - 1))), (0, .ref (ad 0)), (1, .int (nI 0))] → W p l e rX5_apart_m_no s m (([.ref (ad 0), .int (nI 0)] : List Value).toArray) below meth c H locs 0 0 (MQ below (va_Qi (fun r u => r = nI 0 ∧ u = sU τ 0 0 1) (fun u t => Wm D cI cZ A ad u t) A) (([.ref (ad 0), .int (nI 0)] : List Value).toArray) s 0 0 A) (F0 m 56 ls []) := by
              intro n
              induction n with
              | zero =>
                intro r1 so ls hF2 hso hl
                have hsm : so = true ↔ SM τ p1 := by rw [hso, show r1 = frT (p1 + 1) by omega]; rfl
                refine lv_iload hx hb dX5_apart_56 (lv_at hl 0 rfl) ?_
                refine lv_aload_n hx hb dX5_apart_58 rfl (lv_at hl 5 rfl) ?_
                refine va_get (D := D) (ci := 4) (v := .ref (ad 14)) (C := RX5) (T := TX5) (N := 20) hx hb hts in_X5_apart_X5 hown hK hP 0 rfl rfl 14 (by decide) (hts _ lk_X5_apart_50) (fun _ h9 => h9) rfl dX5_apart_59 ?_
                refine lv_iload hx hb dX5_apart_62 (lv_at hl 2 rfl) ?_
                refine lv_iconst (v := nI 1) hx hb dX5_apart_64 (by decide) ?_
                refine n_add hx hb dX5_apart_65 ?_
                refine n_ald hx hb hK hP 13 0 rfl rfl (i := p1 + 1) (by omega) (by decide) (v := nI (τ 14 (p1 + 1))) rfl dX5_apart_66 ?_
                refine n_to (w := nI (frT (p1 + 1))) (by rw [hfr1]) ?_
                refine n_icmp_ge hx hb (tgt := 101) (by omega) (by omega) dX5_apart_67 (by decide) (fun c_67 => ?_) (fun c_67 => ?_)
                · refine lv_iload_n hx hb dX5_apart_101 rfl (lv_at hl 6 rfl) ?_
                  refine q_if_eq hx hb (tgt := 124) (nI_z (by omega)) dX5_apart_102 (by decide) (fun c_102 => ?_) (fun c_102 => ?_)
                  · refine lv_aload_n hx hb dX5_apart_124 rfl (lv_at hl 5 rfl) ?_
                    refine va_get (D := D) (ci := 4) (v := .ref (ad 8)) (C := RX5) (T := TX5) (N := 20) hx hb hts in_X5_apart_X5 hown hK hP 0 rfl rfl 8 (by decide) (hts _ lk_X5_apart_32) (fun _ h9 => h9) rfl dX5_apart_125 ?_
                    refine lv_iload hx hb dX5_apart_128 (lv_at hl 2 rfl) ?_
                    refine n_ald hx hb hK hP 7 0 rfl rfl (i := p1) (by omega) (by decide) (v := nI (τ 8 p1)) rfl dX5_apart_130 ?_
                    refine n_to (w := nI (difF p1)) (by rw [hcl1]) ?_
                    refine lv_iload_n hx hb dX5_apart_131 rfl (lv_at hl 3 rfl) ?_
                    refine n_icmp_le hx hb (tgt := 139) (by have := IM.cl3 p1 (by omega); omega) (by have := hbe; omega) dX5_apart_132 (by decide) (fun c_132 => ?_) (fun c_132 => ?_)
                    · refine lv_iconst (v := nI 0) hx hb dX5_apart_139 (by decide) ?_
                      refine lv_istore (lv' := [(6, .int (nI 0)), (5, .int (bI so)), (4, .int (nI p1)), (2, .int (nI be)), (3, .int (nI (2 ^ (τ 0 15) - 1))), (0, .ref (ad 0)), (1, .int (nI 0))]) hx hb dX5_apart_140 hl (by decide) rfl (fun ls hl => ?_)
                      refine lv_iload hx hb dX5_apart_142 (lv_at hl 1 rfl) ?_
                      refine q_if_eq hx hb (tgt := 162) (bI_z) dX5_apart_144 (by decide) (fun c_144 => ?_) (fun c_144 => ?_)
                      · refine lv_iload_n hx hb dX5_apart_162 rfl (lv_at hl 3 rfl) ?_
                        refine lv_istore_n (lv' := [(2, .int (nI be)), (6, .int (nI 0)), (5, .int (bI so)), (4, .int (nI p1)), (3, .int (nI (2 ^ (τ 0 15) - 1))), (0, .ref (ad 0)), (1, .int (nI 0))]) hx hb dX5_apart_163 rfl hl (by decide) rfl (fun ls hl => ?_)
                        refine lv_iinc (v := nI (p1 + 1)) (lv' := [(4, .int (nI (p1 + 1))), (2, .int (nI be)), (6, .int (nI 0)), (5, .int (bI so)), (3, .int (nI (2 ^ (τ 0 15) - 1))), (0, .ref (ad 0)), (1, .int (nI 0))]) hx hb dX5_apart_164 hl (k := 3) rfl (nI_add _ _) (by decide) rfl (fun ls hl => ?_)
                        refine lv_goto (tgt := 38) hx hb dX5_apart_167 (by decide) ?_
                        exact ih38 (p1 + 1) be  _  (by omega) (by have := IM.cl3 p1 (by omega); omega) (lv_sub hl [0, 1, 4, 5, 6] rfl)
                      · refine lv_iload hx hb dX5_apart_147 (lv_at hl 0 rfl) ?_
                        refine q_if_eq hx hb (tgt := 162) (nI_z (by omega)) dX5_apart_149 (by decide) (fun c_149 => ?_) (fun c_149 => ?_)
                        · refine lv_iload_n hx hb dX5_apart_162 rfl (lv_at hl 3 rfl) ?_
                          refine lv_istore_n (lv' := [(2, .int (nI be)), (6, .int (nI 0)), (5, .int (bI so)), (4, .int (nI p1)), (3, .int (nI (2 ^ (τ 0 15) - 1))), (0, .ref (ad 0)), (1, .int (nI 0))]) hx hb dX5_apart_163 rfl hl (by decide) rfl (fun ls hl => ?_)
                          refine lv_iinc (v := nI (p1 + 1)) (lv' := [(4, .int (nI (p1 + 1))), (2, .int (nI be)), (6, .int (nI 0)), (5, .int (bI so)), (3, .int (nI (2 ^ (τ 0 15) - 1))), (0, .ref (ad 0)), (1, .int (nI 0))]) hx hb dX5_apart_164 hl (k := 3) rfl (nI_add _ _) (by decide) rfl (fun ls hl => ?_)
                          refine lv_goto (tgt := 38) hx hb dX5_apart_167 (by decide) ?_
                          exact ih38 (p1 + 1) be  _  (by omega) (by have := IM.cl3 p1 (by omega); omega) (lv_sub hl [0, 1, 4, 5, 6] rfl)
                        · exact absurd c_149 (by decide)
                    · refine lv_iconst (v := nI 1) hx hb dX5_apart_135 (by decide) ?_
                      refine lv_goto (tgt := 140) hx hb dX5_apart_136 (by decide) ?_
                      refine lv_istore (lv' := [(6, .int (nI 1)), (5, .int (bI so)), (4, .int (nI p1)), (2, .int (nI be)), (3, .int (nI (2 ^ (τ 0 15) - 1))), (0, .ref (ad 0)), (1, .int (nI 0))]) hx hb dX5_apart_140 hl (by decide) rfl (fun ls hl => ?_)
                      refine lv_iload hx hb dX5_apart_142 (lv_at hl 1 rfl) ?_
                      refine q_if_eq hx hb (tgt := 162) (bI_z) dX5_apart_144 (by decide) (fun c_144 => ?_) (fun c_144 => ?_)
                      · refine lv_iload_n hx hb dX5_apart_162 rfl (lv_at hl 3 rfl) ?_
                        refine lv_istore_n (lv' := [(2, .int (nI be)), (6, .int (nI 1)), (5, .int (bI so)), (4, .int (nI p1)), (3, .int (nI (2 ^ (τ 0 15) - 1))), (0, .ref (ad 0)), (1, .int (nI 0))]) hx hb dX5_apart_163 rfl hl (by decide) rfl (fun ls hl => ?_)
                        refine lv_iinc (v := nI (p1 + 1)) (lv' := [(4, .int (nI (p1 + 1))), (2, .int (nI be)), (6, .int (nI 1)), (5, .int (bI so)), (3, .int (nI (2 ^ (τ 0 15) - 1))), (0, .ref (ad 0)), (1, .int (nI 0))]) hx hb dX5_apart_164 hl (k := 3) rfl (nI_add _ _) (by decide) rfl (fun ls hl => ?_)
                        refine lv_goto (tgt := 38) hx hb dX5_apart_167 (by decide) ?_
                        exact ih38 (p1 + 1) be  _  (by omega) (by have := IM.cl3 p1 (by omega); omega) (lv_sub hl [0, 1, 4, 5, 6] rfl)
                      · refine lv_iload hx hb dX5_apart_147 (lv_at hl 0 rfl) ?_
                        refine q_if_eq hx hb (tgt := 162) (nI_z (by omega)) dX5_apart_149 (by decide) (fun c_149 => ?_) (fun c_149 => ?_)
                        · exact absurd c_149 (by decide)
                        · refine lv_aload_n hx hb dX5_apart_152 rfl (lv_at hl 5 rfl) ?_
                          refine va_get (D := D) (ci := 4) (v := .ref (ad 8)) (C := RX5) (T := TX5) (N := 20) hx hb hts in_X5_apart_X5 hown hK hP 0 rfl rfl 8 (by decide) (hts _ lk_X5_apart_32) (fun _ h9 => h9) rfl dX5_apart_153 ?_
                          refine lv_iload hx hb dX5_apart_156 (lv_at hl 2 rfl) ?_
                          refine n_ald hx hb hK hP 7 0 rfl rfl (i := p1) (by omega) (by decide) (v := nI (τ 8 p1)) rfl dX5_apart_158 ?_
                          refine n_to (w := nI (difF p1)) (by rw [hcl1]) ?_
                          refine lv_goto (tgt := 163) hx hb dX5_apart_159 (by decide) ?_
                          refine lv_istore_n (lv' := [(2, .int (nI (difF p1))), (6, .int (nI 1)), (5, .int (bI so)), (4, .int (nI p1)), (3, .int (nI (2 ^ (τ 0 15) - 1))), (0, .ref (ad 0)), (1, .int (nI 0))]) hx hb dX5_apart_163 rfl hl (by decide) rfl (fun ls hl => ?_)
                          refine lv_iinc (v := nI (p1 + 1)) (lv' := [(4, .int (nI (p1 + 1))), (2, .int (nI (difF p1))), (6, .int (nI 1)), (5, .int (bI so)), (3, .int (nI (2 ^ (τ 0 15) - 1))), (0, .ref (ad 0)), (1, .int (nI 0))]) hx hb dX5_apart_164 hl (k := 3) rfl (nI_add _ _) (by decide) rfl (fun ls hl => ?_)
                          refine lv_goto (tgt := 38) hx hb dX5_apart_167 (by decide) ?_
                          exact ih38 (p1 + 1) (difF p1)  _  (by omega) (by have := IM.cl3 p1 (by omega); omega) (lv_sub hl [0, 1, 4, 5, 6] rfl)
                  · exact absurd c_102 (by decide)
                · omega
              | succ n ih56 =>
                intro r1 so ls hF2 hso hl
                refine lv_iload hx hb dX5_apart_56 (lv_at hl 0 rfl) ?_
                refine lv_aload_n hx hb dX5_apart_58 rfl (lv_at hl 5 rfl) ?_
                refine va_get (D := D) (ci := 4) (v := .ref (ad 14)) (C := RX5) (T := TX5) (N := 20) hx hb hts in_X5_apart_X5 hown hK hP 0 rfl rfl 14 (by decide) (hts _ lk_X5_apart_50) (fun _ h9 => h9) rfl dX5_apart_59 ?_
                refine lv_iload hx hb dX5_apart_62 (lv_at hl 2 rfl) ?_
                refine lv_iconst (v := nI 1) hx hb dX5_apart_64 (by decide) ?_
                refine n_add hx hb dX5_apart_65 ?_
                refine n_ald hx hb hK hP 13 0 rfl rfl (i := p1 + 1) (by omega) (by decide) (v := nI (τ 14 (p1 + 1))) rfl dX5_apart_66 ?_
                refine n_to (w := nI (frT (p1 + 1))) (by rw [hfr1]) ?_
                refine n_icmp_ge hx hb (tgt := 101) (by omega) (by omega) dX5_apart_67 (by decide) (fun c_67 => ?_) (fun c_67 => ?_)
                · omega
                · refine lv_iload hx hb dX5_apart_70 (lv_at hl 1 rfl) ?_
                  refine q_if_ne hx hb (tgt := 88) (bI_z) dX5_apart_72 (by decide) (fun c_72 => ?_) (fun c_72 => ?_)
                  · refine lv_iconst (v := nI 1) hx hb dX5_apart_88 (by decide) ?_
                    refine lv_goto (tgt := 93) hx hb dX5_apart_89 (by decide) ?_
                    refine lv_istore (lv' := [(5, .int (nI 1)), (6, .int (nI r1)), (4, .int (nI p1)), (2, .int (nI be)), (3, .int (nI (2 ^ (τ 0 15) - 1))), (0, .ref (ad 0)), (1, .int (nI 0))]) hx hb dX5_apart_93 hl (by decide) rfl (fun ls hl => ?_)
                    refine lv_iinc (v := nI (r1 + 1)) (lv' := [(6, .int (nI (r1 + 1))), (5, .int (nI 1)), (4, .int (nI p1)), (2, .int (nI be)), (3, .int (nI (2 ^ (τ 0 15) - 1))), (0, .ref (ad 0)), (1, .int (nI 0))]) hx hb dX5_apart_95 hl (k := 1) rfl (nI_add _ _) (by decide) rfl (fun ls hl => ?_)
                    refine lv_goto (tgt := 56) hx hb dX5_apart_98 (by decide) ?_
                    exact ih56 (r1 + 1) true  _  (by omega) (sm_add hF2.2 hso (by unfold HS; simp_all)) (lv_sub hl [0, 1, 2, 3, 4, 5, 6] rfl)
                  · refine lv_aload_n hx hb dX5_apart_75 rfl (lv_at hl 5 rfl) ?_
                    refine va_get (D := D) (ci := 4) (v := .ref (ad 13)) (C := RX5) (T := TX5) (N := 20) hx hb hts in_X5_apart_X5 hown hK hP 0 rfl rfl 13 (by decide) (hts _ lk_X5_apart_47) (fun _ h9 => h9) rfl dX5_apart_76 ?_
                    refine lv_iload hx hb dX5_apart_79 (lv_at hl 0 rfl) ?_
                    refine n_ald hx hb hK hP 12 0 rfl rfl (i := r1) (by omega) (by decide) (v := nI (τ 13 r1)) rfl dX5_apart_81 ?_
                    refine lv_iload_n hx hb dX5_apart_82 rfl (lv_at hl 4 rfl) ?_
                    refine lv_iand hx hb dX5_apart_83 ?_
                    refine n_to (w := nI (τ 13 r1 &&& (2 ^ (τ 0 15) - 1))) (nx_and _ _) ?_
                    refine lv_iload_n hx hb dX5_apart_84 rfl (lv_at hl 4 rfl) ?_
                    refine q_icmp_ne hx hb (tgt := 92) (nI_eq (by have := and_lt (b := 2 ^ (τ 0 15) - 1) (hI.holds (j := r1) (by omega)); omega) (by omega)) dX5_apart_85 (by decide) (fun c_85 => ?_) (fun c_85 => ?_)
                    · refine lv_iconst (v := nI 0) hx hb dX5_apart_92 (by decide) ?_
                      refine lv_istore (lv' := [(5, .int (nI 0)), (6, .int (nI r1)), (4, .int (nI p1)), (2, .int (nI be)), (3, .int (nI (2 ^ (τ 0 15) - 1))), (0, .ref (ad 0)), (1, .int (nI 0))]) hx hb dX5_apart_93 hl (by decide) rfl (fun ls hl => ?_)
                      refine lv_iinc (v := nI (r1 + 1)) (lv' := [(6, .int (nI (r1 + 1))), (5, .int (nI 0)), (4, .int (nI p1)), (2, .int (nI be)), (3, .int (nI (2 ^ (τ 0 15) - 1))), (0, .ref (ad 0)), (1, .int (nI 0))]) hx hb dX5_apart_95 hl (k := 1) rfl (nI_add _ _) (by decide) rfl (fun ls hl => ?_)
                      refine lv_goto (tgt := 56) hx hb dX5_apart_98 (by decide) ?_
                      exact ih56 (r1 + 1) false  _  (by omega) (sm_add hF2.2 hso (by unfold HS; simp_all)) (lv_sub hl [0, 1, 2, 3, 4, 5, 6] rfl)
                    · refine lv_iconst (v := nI 1) hx hb dX5_apart_88 (by decide) ?_
                      refine lv_goto (tgt := 93) hx hb dX5_apart_89 (by decide) ?_
                      refine lv_istore (lv' := [(5, .int (nI 1)), (6, .int (nI r1)), (4, .int (nI p1)), (2, .int (nI be)), (3, .int (nI (2 ^ (τ 0 15) - 1))), (0, .ref (ad 0)), (1, .int (nI 0))]) hx hb dX5_apart_93 hl (by decide) rfl (fun ls hl => ?_)
                      refine lv_iinc (v := nI (r1 + 1)) (lv' := [(6, .int (nI (r1 + 1))), (5, .int (nI 1)), (4, .int (nI p1)), (2, .int (nI be)), (3, .int (nI (2 ^ (τ 0 15) - 1))), (0, .ref (ad 0)), (1, .int (nI 0))]) hx hb dX5_apart_95 hl (k := 1) rfl (nI_add _ _) (by decide) rfl (fun ls hl => ?_)
                      refine lv_goto (tgt := 56) hx hb dX5_apart_98 (by decide) ?_
                      exact ih56 (r1 + 1) true  _  (by omega) (sm_add hF2.2 hso (by unfold HS; simp_all)) (lv_sub hl [0, 1, 2, 3, 4, 5, 6] rfl)
            exact lp56 (frT (p1 + 1) - frT p1) (frT p1) false  _ (by omega) (⟨fun q => (by cases q), fun ⟨r, q1, q2, _⟩ => absurd q1 (by omega)⟩) (lv_sub hl [0, 1, 2, 3, 4, 5, 6] rfl)
      exact lp38 5 0 0  _ (by omega) (by omega) (lv_sub hl [0, 2, 1, 3, 4] rfl)
    · exact absurd c_21 (by decide)
  · exact absurd hch c_9
theorem in_X5_findWays_X5 : ∀ w ∈ wsX50, w ∈ wsX5_findWays := by decide +kernel
theorem lk_X5_findWays_38 : Cond.fieldLink RX5 38 "ArrayClaimsModel" "ways" "[I" ∈ wsX5_findWays := by decide +kernel
def rX5_findWays : Room := { frames := 3, cells := 0, slots := 0, locals := 66 }
set_option maxHeartbeats 4000000 in
set_option maxRecDepth 100000 in
theorem c_X5_findWays (l : Launch) (D : va_G) (cI cZ : ClassId) (A : Nat → Prop) (ad : Nat → Nat) (τ : Nat → Nat → Nat) (k0 o mn : Nat) (hk0 : 1 ≤ k0 ∧ k0 ≤ 8) (hom : o + mn ≤ 4358) (hbd : ∀ k, k < mn → itF k0 k < 2 ^ 24) : Met l yX5_findWays wsX5_findWays rX5_findWays (va_Pc [.ref (ad 0), .int (nI k0), .int (nI o), .int (nI mn)] (Wm D cI cZ A ad τ)) (va_Qv (fun u => (∀ r, r ≠ 10 → u r = τ r) ∧ (∀ k, k < mn → u 10 (o + k) = itF k0 k) ∧ (∀ j, j < o ∨ o + mn ≤ j → u 10 j = τ 10 j)) (fun u t => Wm D cI cZ A ad u t) A) 0 0 A := by
  refine Met.ofW (cc := cX5_findWays) (maxL := 6) (ret := none) (by decide) rfl ?_
  intro p e s m args below meth c s₁ B hml hv
  obtain ⟨rfl, hP, hK, hD⟩ := hv
  have hx := B.exec
  have hb := B.bytes
  have hr := B.returns
  have hts := atoms_spec (ws := wsX5_findWays) B.pre
  have hown : s.vm.findClass RX5 = some m.cls := findClass_of_methodNamed B.named
  have hlocks := B.notSynchronized
  have hS : va_S A s.heap s.heap [] := va_S.rf
  have hl := lv_entry ([.ref (ad 0), .int (nI k0), .int (nI o), .int (nI mn)]) (n := 6) (Nat.le_of_ble_eq_true rfl)
  rw [lg_entry_eq]
  generalize (lg_sl ([.ref (ad 0), .int (nI k0), .int (nI o), .int (nI mn)]) ++ List.replicate (6 - (lg_sl ([.ref (ad 0), .int (nI k0), .int (nI o), .int (nI mn)])).length) Slot.unset).toArray = ls at hl ⊢
  have hl : lv_has ls 6 [(0, .ref (ad 0)), (1, .int (nI k0)), (2, .int (nI o)), (3, .int (nI mn))] := hl
  refine lv_iconst (v := nI 0) hx hb dX5_findWays_0 (by decide) ?_
  refine lv_istore (lv' := [(4, .int (nI 0)), (0, .ref (ad 0)), (1, .int (nI k0)), (2, .int (nI o)), (3, .int (nI mn))]) hx hb dX5_findWays_1 hl (by decide) rfl (fun ls hl => ?_)
  refine lv_iconst (v := nI 0) hx hb dX5_findWays_3 (by decide) ?_
  refine lv_istore (lv' := [(5, .int (nI 0)), (4, .int (nI 0)), (0, .ref (ad 0)), (1, .int (nI k0)), (2, .int (nI o)), (3, .int (nI mn))]) hx hb dX5_findWays_4 hl (by decide) rfl (fun ls hl => ?_)
  have lp6 : ∀ (n : Nat) (k : Nat) (w1 : Nat) (τ_1 : Nat → Nat → Nat) (H : Heap) (locs : List Loc) (ls : Array Slot), (k + n = mn) → (w1 = itF k0 k) → (∀ r, r ≠ 10 → τ_1 r = τ r) → (∀ k1, k1 < k → τ_1 10 (o + k1) = itF k0 k1) → (∀ j, j < o ∨ o + k ≤ j → τ_1 10 j = τ 10 j) → va_P D vwCl (WM ad cI cZ τ_1) H → va_D A (WM ad cI cZ τ_1) → va_S A s.heap H locs → lv_has ls 6 [(5, .int (nI k)), (4, .int (nI w1)), (0, .ref (ad 0)), (1, .int (nI k0)), (2, .int (nI o)), (3, .int (nI mn))] → W p l e rX5_findWays s m (([.ref (ad 0), .int (nI k0), .int (nI o), .int (nI mn)] : List Value).toArray) below meth c H locs 0 0 (MQ below (va_Qv (fun u => (∀ r, r ≠ 10 → u r = τ r) ∧ (∀ k, k < mn → u 10 (o + k) = itF k0 k) ∧ (∀ j, j < o ∨ o + mn ≤ j → u 10 j = τ 10 j)) (fun u t => Wm D cI cZ A ad u t) A) (([.ref (ad 0), .int (nI k0), .int (nI o), .int (nI mn)] : List Value).toArray) s 0 0 A) (F0 m 6 ls []) := by
    intro n
    induction n with
    | zero =>
      intro k w1 τ_1 H locs ls hF1 hw1 hO hV hKe hP hD hS hl
      obtain rfl : k = mn := by omega
      refine lv_iload hx hb dX5_findWays_6 (lv_at hl 0 rfl) ?_
      refine lv_iload_n hx hb dX5_findWays_8 rfl (lv_at hl 5 rfl) ?_
      refine n_icmp_ge hx hb (tgt := 37) (by omega) (by omega) dX5_findWays_9 (by decide) (fun c_9 => ?_) (fun c_9 => ?_)
      · exact W.vret hx hb hr (fun t ht hW => ⟨⟨_, rfl, (⟨hO, hV, hKe⟩), Wm.go hP hK hD ht hW⟩, hS.F ht⟩) hS.2.2 dX5_findWays_37
      · omega
    | succ n ih6 =>
      intro k w1 τ_1 H locs ls hF1 hw1 hO hV hKe hP hD hS hl
      refine lv_iload hx hb dX5_findWays_6 (lv_at hl 0 rfl) ?_
      refine lv_iload_n hx hb dX5_findWays_8 rfl (lv_at hl 5 rfl) ?_
      refine n_icmp_ge hx hb (tgt := 37) (by omega) (by omega) dX5_findWays_9 (by decide) (fun c_9 => ?_) (fun c_9 => ?_)
      · omega
      · rw [hw1] at hl
        refine lv_aload_n hx hb dX5_findWays_12 rfl (lv_at hl 2 rfl) ?_
        refine va_get (D := D) (ci := 4) (v := .ref (ad 10)) (C := RX5) (T := TX5) (N := 20) hx hb hts in_X5_findWays_X5 hown hK hP 0 rfl rfl 10 (by decide) (hts _ lk_X5_findWays_38) (fun _ h9 => h9) rfl dX5_findWays_13 ?_
        refine lv_iload_n hx hb dX5_findWays_16 rfl (lv_at hl 4 rfl) ?_
        refine lv_iload hx hb dX5_findWays_17 (lv_at hl 0 rfl) ?_
        refine n_add hx hb dX5_findWays_19 ?_
        refine lv_iload hx hb dX5_findWays_20 (lv_at hl 1 rfl) ?_
        refine n_ast (ws' := WM ad cI cZ (sU τ_1 10 (o + k) (itF k0 k))) hx hb hK hP hD hS 9 0 rfl rfl (i := o + k) (by omega) (by decide) (WMs10 ..) dX5_findWays_22 (fun H locs hP hD hS => ?_)
        refine lv_iload hx hb dX5_findWays_23 (lv_at hl 1 rfl) ?_
        refine lv_iload_n hx hb dX5_findWays_25 rfl (lv_at hl 3 rfl) ?_
        refine vp_callSi (va_Run.run (va_runS (As := [.int (nI (itF k0 k)), .int (nI k0)]) (rest := []) ⟨hx, hb, hml, hown, hts⟩ (c_X5_nextWay l   (itF k0 k) k0 (hbd k (by omega)) hk0) (va_cwS 2 hts gX5_findWays_X5_nextWay rfl rfl rfl (by decide +kernel) ⟨Nat.le_of_ble_eq_true rfl, Nat.le_of_ble_eq_true rfl⟩) ⟨tt_blind, fun U hU hW => ⟨rfl, trivial⟩⟩ rfl rfl hl.1 rfl (lv_room (Nat.le_of_ble_eq_true rfl)) dX5_findWays_26 ⟨Nat.zero_le _, Nat.zero_le _⟩)) (fun r_2 hr_2 => ?_)
        refine n_to (w := nI (itF k0 (k + 1))) (hr_2.trans rfl) ?_
        refine lv_istore (lv' := [(4, .int (nI (itF k0 (k + 1)))), (5, .int (nI k)), (0, .ref (ad 0)), (1, .int (nI k0)), (2, .int (nI o)), (3, .int (nI mn))]) hx hb dX5_findWays_29 hl (by decide) rfl (fun ls hl => ?_)
        refine lv_iinc (v := nI (k + 1)) (lv' := [(5, .int (nI (k + 1))), (4, .int (nI (itF k0 (k + 1)))), (0, .ref (ad 0)), (1, .int (nI k0)), (2, .int (nI o)), (3, .int (nI mn))]) hx hb dX5_findWays_31 hl (k := 1) rfl (nI_add _ _) (by decide) rfl (fun ls hl => ?_)
        refine lv_goto (tgt := 6) hx hb dX5_findWays_34 (by decide) ?_
        exact ih6 (k + 1) (itF k0 (k + 1))  _ _ _ _  (by omega) (rfl) (hO_step hO) (fun k1 hk1 => by rw [sU_at]; split; (obtain rfl : k1 = k := by omega); rfl; exact hV k1 (by omega)) (fun j hj => by rw [sU_at, if_neg (by omega)]; exact hKe j (by omega)) hP hD hS (lv_sub hl [0, 1, 2, 3, 4, 5] rfl)
  exact lp6 mn 0 0  _ _ _ _ (by omega) (rfl) (fun _ _ => rfl) (fun k1 q => absurd q (by omega)) (fun _ _ => rfl) hP hD hS (lv_sub hl [0, 1, 2, 3, 4, 5] rfl)
