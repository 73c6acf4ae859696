theorem in_X5_claim_X5 : ∀ w ∈ wsX50, w ∈ wsX5_claim := by decide +kernel
theorem lk_X5_claim_102 : Cond.fieldLink RX5 102 "ArrayClaimsModel" "literals" "I" ∈ wsX5_claim := by decide +kernel
theorem lk_X5_claim_67 : Cond.fieldLink RX5 67 "ArrayClaimsModel" "thrown" "I" ∈ wsX5_claim := by decide +kernel
def rX5_claim_none : Room := { frames := 0, cells := 0, slots := 0, locals := 0 }
set_option maxHeartbeats 4000000 in
set_option maxRecDepth 100000 in
theorem c_X5_claim_none (l : Launch) (D : va_G) (cI cZ : ClassId) (A : Nat → Prop) (ad : Nat → Nat) (τ : Nat → Nat → Nat)  (hz : τ 0 16 = 0) : Met l yX5_claim wsX5_claim rX5_claim_none (va_Pc [.ref (ad 0)] (Wm D cI cZ A ad τ)) (va_Qi (fun r u => r = nI 0 ∧ u = sU τ 0 0 1) (fun u t => Wm D cI cZ A ad u t) A) 0 0 A := by
  refine Met.ofW (cc := cX5_claim) (maxL := 4) (ret := (some .int)) (by decide) rfl ?_
  intro p e s m args below meth c s₁ B hml hv
  obtain ⟨rfl, hP, hK, hD⟩ := hv
  have hx := B.exec
  have hb := B.bytes
  have hr := B.returns
  have hts := atoms_spec (ws := wsX5_claim) B.pre
  have hown : s.vm.findClass RX5 = some m.cls := findClass_of_methodNamed B.named
  have hlocks := B.notSynchronized
  have hS : va_S A s.heap s.heap [] := va_S.rf
  have hl := lv_entry ([.ref (ad 0)]) (n := 4) (Nat.le_of_ble_eq_true rfl)
  rw [lg_entry_eq]
  generalize (lg_sl ([.ref (ad 0)]) ++ List.replicate (4 - (lg_sl ([.ref (ad 0)])).length) Slot.unset).toArray = ls at hl ⊢
  have hl : lv_has ls 4 [(0, .ref (ad 0))] := hl
  refine lv_aload_n hx hb dX5_claim_0 rfl (lv_at hl 0 rfl) ?_
  refine lv_aload_n hx hb dX5_claim_1 rfl (lv_at hl 0 rfl) ?_
  refine va_get (D := D) (ci := 4) (v := .int (nI (τ 0 16))) (C := RX5) (T := TX5) (N := 20) hx hb hts in_X5_claim_X5 hown hK hP 0 rfl rfl 16 (by decide) (hts _ lk_X5_claim_102) (fun _ h9 => h9) rfl dX5_claim_2 ?_
  refine q_if_ne hx hb (tgt := 12) (nI_z (by omega)) dX5_claim_5 (by decide) (fun c_5 => ?_) (fun c_5 => ?_)
  · exact absurd hz c_5
  · refine lv_iconst (v := nI 1) hx hb dX5_claim_8 (by decide) ?_
    refine lv_goto (tgt := 26) hx hb dX5_claim_9 (by decide) ?_
    refine va_put (D := D) (ci := 4) (v := .int (nI 1)) (ty := .int) (C := RX5) (T := TX5) (N := 20) hx hb hts in_X5_claim_X5 tyX5 tyX5_ok nmX5 hown hK hP hD hS 0 rfl rfl 0 (by decide) (hts _ lk_X5_claim_67) (fun _ h9 => h9) rfl (by decide +kernel) rfl rfl (Nat.le_of_ble_eq_true rfl) dX5_claim_26 (fun H locs hP hD hS => ?_)
    have hP : va_P D vwCl (WM ad cI cZ (sU τ 0 0 1)) H := hP
    have hD : va_D A (WM ad cI cZ (sU τ 0 0 1)) := hD
    refine lv_aload_n hx hb dX5_claim_29 rfl (lv_at hl 0 rfl) ?_
    refine va_get (D := D) (ci := 4) (v := .int (nI 1)) (C := RX5) (T := TX5) (N := 20) hx hb hts in_X5_claim_X5 hown hK hP 0 rfl rfl 0 (by decide) (hts _ lk_X5_claim_67) (fun _ h9 => h9) rfl dX5_claim_30 ?_
    refine q_if_le hx hb (tgt := 38) (nI_le0 (by omega)) dX5_claim_33 (by decide) (fun c_33 => ?_) (fun c_33 => ?_)
    · exact absurd c_33 (by decide)
    · refine lv_iconst (v := nI 0) hx hb dX5_claim_36 (by decide) ?_
      exact W.iret (v := nI 0) hx hb hr (fun t ht hW => ⟨⟨_, (sU τ 0 0 1), rfl, (⟨rfl, rfl⟩), Wm.go hP hK hD ht hW⟩, hS.F ht⟩) hS.2.2 dX5_claim_37
theorem lk_X5_claim_109 : Cond.fieldLink RX5 109 "ArrayClaimsModel" "claims" "I" ∈ wsX5_claim := by decide +kernel
def rX5_claim_full : Room := { frames := 0, cells := 0, slots := 0, locals := 0 }
set_option maxHeartbeats 4000000 in
set_option maxRecDepth 100000 in
theorem c_X5_claim_full (l : Launch) (D : va_G) (cI cZ : ClassId) (A : Nat → Prop) (ad : Nat → Nat) (τ : Nat → Nat → Nat)  (hI : IM τ) (hz : τ 0 16 ≠ 0) (h8 : τ 0 15 = 8) : Met l yX5_claim wsX5_claim rX5_claim_full (va_Pc [.ref (ad 0)] (Wm D cI cZ A ad τ)) (va_Qi (fun r u => r = nI 0 ∧ u = sU τ 0 0 2) (fun u t => Wm D cI cZ A ad u t) A) 0 0 A := by
  refine Met.ofW (cc := cX5_claim) (maxL := 4) (ret := (some .int)) (by decide) rfl ?_
  intro p e s m args below meth c s₁ B hml hv
  obtain ⟨rfl, hP, hK, hD⟩ := hv
  have hx := B.exec
  have hb := B.bytes
  have hr := B.returns
  have hts := atoms_spec (ws := wsX5_claim) B.pre
  have hown : s.vm.findClass RX5 = some m.cls := findClass_of_methodNamed B.named
  have hlocks := B.notSynchronized
  have hS : va_S A s.heap s.heap [] := va_S.rf
  have hl := lv_entry ([.ref (ad 0)]) (n := 4) (Nat.le_of_ble_eq_true rfl)
  rw [lg_entry_eq]
  generalize (lg_sl ([.ref (ad 0)]) ++ List.replicate (4 - (lg_sl ([.ref (ad 0)])).length) Slot.unset).toArray = ls at hl ⊢
  have hl : lv_has ls 4 [(0, .ref (ad 0))] := hl
  have hli := hI.lits
  refine lv_aload_n hx hb dX5_claim_0 rfl (lv_at hl 0 rfl) ?_
  refine lv_aload_n hx hb dX5_claim_1 rfl (lv_at hl 0 rfl) ?_
  refine va_get (D := D) (ci := 4) (v := .int (nI (τ 0 16))) (C := RX5) (T := TX5) (N := 20) hx hb hts in_X5_claim_X5 hown hK hP 0 rfl rfl 16 (by decide) (hts _ lk_X5_claim_102) (fun _ h9 => h9) rfl dX5_claim_2 ?_
  refine q_if_ne hx hb (tgt := 12) (nI_z (by omega)) dX5_claim_5 (by decide) (fun c_5 => ?_) (fun c_5 => ?_)
  · refine lv_aload_n hx hb dX5_claim_12 rfl (lv_at hl 0 rfl) ?_
    refine va_get (D := D) (ci := 4) (v := .int (nI (τ 0 15))) (C := RX5) (T := TX5) (N := 20) hx hb hts in_X5_claim_X5 hown hK hP 0 rfl rfl 15 (by decide) (hts _ lk_X5_claim_109) (fun _ h9 => h9) rfl dX5_claim_13 ?_
    refine lv_bipush (v := nI 8) hx hb dX5_claim_16 (by decide) ?_
    refine q_icmp_ne hx hb (tgt := 25) (nI_eq (by omega) (by omega)) dX5_claim_18 (by decide) (fun c_18 => ?_) (fun c_18 => ?_)
    · exact absurd h8 c_18
    · refine lv_iconst (v := nI 2) hx hb dX5_claim_21 (by decide) ?_
      refine lv_goto (tgt := 26) hx hb dX5_claim_22 (by decide) ?_
      refine va_put (D := D) (ci := 4) (v := .int (nI 2)) (ty := .int) (C := RX5) (T := TX5) (N := 20) hx hb hts in_X5_claim_X5 tyX5 tyX5_ok nmX5 hown hK hP hD hS 0 rfl rfl 0 (by decide) (hts _ lk_X5_claim_67) (fun _ h9 => h9) rfl (by decide +kernel) rfl rfl (Nat.le_of_ble_eq_true rfl) dX5_claim_26 (fun H locs hP hD hS => ?_)
      have hP : va_P D vwCl (WM ad cI cZ (sU τ 0 0 2)) H := hP
      have hD : va_D A (WM ad cI cZ (sU τ 0 0 2)) := hD
      refine lv_aload_n hx hb dX5_claim_29 rfl (lv_at hl 0 rfl) ?_
      refine va_get (D := D) (ci := 4) (v := .int (nI 2)) (C := RX5) (T := TX5) (N := 20) hx hb hts in_X5_claim_X5 hown hK hP 0 rfl rfl 0 (by decide) (hts _ lk_X5_claim_67) (fun _ h9 => h9) rfl dX5_claim_30 ?_
      refine q_if_le hx hb (tgt := 38) (nI_le0 (by omega)) dX5_claim_33 (by decide) (fun c_33 => ?_) (fun c_33 => ?_)
      · exact absurd c_33 (by decide)
      · refine lv_iconst (v := nI 0) hx hb dX5_claim_36 (by decide) ?_
        exact W.iret (v := nI 0) hx hb hr (fun t ht hW => ⟨⟨_, (sU τ 0 0 2), rfl, (⟨rfl, rfl⟩), Wm.go hP hK hD ht hW⟩, hS.F ht⟩) hS.2.2 dX5_claim_37
  · exact absurd c_5 hz
theorem lk_X5_claim_50 : Cond.fieldLink RX5 50 "ArrayClaimsModel" "from" "[I" ∈ wsX5_claim := by decide +kernel
theorem lk_X5_claim_47 : Cond.fieldLink RX5 47 "ArrayClaimsModel" "holds" "[I" ∈ wsX5_claim := by decide +kernel
def rX5_claim_ok : Room := { frames := 4, cells := 0, slots := 0, locals := 99 }
set_option maxHeartbeats 4000000 in
set_option maxRecDepth 100000 in
theorem c_X5_claim_ok (l : Launch) (D : va_G) (cI cZ : ClassId) (A : Nat → Prop) (ad : Nat → Nat) (τ : Nat → Nat → Nat)  (hI : IM τ) (hDS : DrS τ) (hz : τ 0 16 ≠ 0) (h8 : τ 0 15 < 8) : Met l yX5_claim wsX5_claim rX5_claim_ok (va_Pc [.ref (ad 0)] (Wm D cI cZ A ad τ)) (va_Qi (fun r u => r = nI (τ 0 15) ∧ CLM τ u) (fun u t => Wm D cI cZ A ad u t) A) 0 0 A := by
  refine Met.ofW (cc := cX5_claim) (maxL := 4) (ret := (some .int)) (by decide) rfl ?_
  intro p e s m args below meth c s₁ B hml hv
  obtain ⟨rfl, hP, hK, hD⟩ := hv
  have hx := B.exec
  have hb := B.bytes
  have hr := B.returns
  have hts := atoms_spec (ws := wsX5_claim) B.pre
  have hown : s.vm.findClass RX5 = some m.cls := findClass_of_methodNamed B.named
  have hlocks := B.notSynchronized
  have hS : va_S A s.heap s.heap [] := va_S.rf
  have hl := lv_entry ([.ref (ad 0)]) (n := 4) (Nat.le_of_ble_eq_true rfl)
  rw [lg_entry_eq]
  generalize (lg_sl ([.ref (ad 0)]) ++ List.replicate (4 - (lg_sl ([.ref (ad 0)])).length) Slot.unset).toArray = ls at hl ⊢
  have hl : lv_has ls 4 [(0, .ref (ad 0))] := hl
  have hli := hI.lits
  refine lv_aload_n hx hb dX5_claim_0 rfl (lv_at hl 0 rfl) ?_
  refine lv_aload_n hx hb dX5_claim_1 rfl (lv_at hl 0 rfl) ?_
  refine va_get (D := D) (ci := 4) (v := .int (nI (τ 0 16))) (C := RX5) (T := TX5) (N := 20) hx hb hts in_X5_claim_X5 hown hK hP 0 rfl rfl 16 (by decide) (hts _ lk_X5_claim_102) (fun _ h9 => h9) rfl dX5_claim_2 ?_
  refine q_if_ne hx hb (tgt := 12) (nI_z (by omega)) dX5_claim_5 (by decide) (fun c_5 => ?_) (fun c_5 => ?_)
  · refine lv_aload_n hx hb dX5_claim_12 rfl (lv_at hl 0 rfl) ?_
    refine va_get (D := D) (ci := 4) (v := .int (nI (τ 0 15))) (C := RX5) (T := TX5) (N := 20) hx hb hts in_X5_claim_X5 hown hK hP 0 rfl rfl 15 (by decide) (hts _ lk_X5_claim_109) (fun _ h9 => h9) rfl dX5_claim_13 ?_
    refine lv_bipush (v := nI 8) hx hb dX5_claim_16 (by decide) ?_
    refine q_icmp_ne hx hb (tgt := 25) (nI_eq (by omega) (by omega)) dX5_claim_18 (by decide) (fun c_18 => ?_) (fun c_18 => ?_)
    · refine lv_iconst (v := nI 0) hx hb dX5_claim_25 (by decide) ?_
      refine va_put (D := D) (ci := 4) (v := .int (nI 0)) (ty := .int) (C := RX5) (T := TX5) (N := 20) hx hb hts in_X5_claim_X5 tyX5 tyX5_ok nmX5 hown hK hP hD hS 0 rfl rfl 0 (by decide) (hts _ lk_X5_claim_67) (fun _ h9 => h9) rfl (by decide +kernel) rfl rfl (Nat.le_of_ble_eq_true rfl) dX5_claim_26 (fun H locs hP hD hS => ?_)
      have hP : va_P D vwCl (WM ad cI cZ (sU τ 0 0 0)) H := hP
      have hD : va_D A (WM ad cI cZ (sU τ 0 0 0)) := hD
      refine lv_aload_n hx hb dX5_claim_29 rfl (lv_at hl 0 rfl) ?_
      refine va_get (D := D) (ci := 4) (v := .int (nI 0)) (C := RX5) (T := TX5) (N := 20) hx hb hts in_X5_claim_X5 hown hK hP 0 rfl rfl 0 (by decide) (hts _ lk_X5_claim_67) (fun _ h9 => h9) rfl dX5_claim_30 ?_
      refine q_if_le hx hb (tgt := 38) (nI_le0 (by omega)) dX5_claim_33 (by decide) (fun c_33 => ?_) (fun c_33 => ?_)
      · refine lv_iconst (v := nI 1) hx hb dX5_claim_38 (by decide) ?_
        refine lv_aload_n hx hb dX5_claim_39 rfl (lv_at hl 0 rfl) ?_
        refine va_get (D := D) (ci := 4) (v := .int (nI (τ 0 15))) (C := RX5) (T := TX5) (N := 20) hx hb hts in_X5_claim_X5 hown hK hP 0 rfl rfl 15 (by decide) (hts _ lk_X5_claim_109) (fun _ h9 => h9) rfl dX5_claim_40 ?_
        refine lv_ishl hx hb dX5_claim_43 ?_
        refine n_to (w := nI (2 ^ (τ 0 15))) (all_shl (by omega)) ?_
        refine lv_istore_n (lv' := [(1, .int (nI (2 ^ (τ 0 15)))), (0, .ref (ad 0))]) hx hb dX5_claim_44 rfl hl (by decide) rfl (fun ls hl => ?_)
        refine lv_iconst (v := nI 0) hx hb dX5_claim_45 (by decide) ?_
        refine lv_istore_n (lv' := [(2, .int (nI 0)), (1, .int (nI (2 ^ (τ 0 15)))), (0, .ref (ad 0))]) hx hb dX5_claim_46 rfl hl (by decide) rfl (fun ls hl => ?_)
        have lp47 : ∀ (n : Nat) (p1 : Nat) (τ_1 : Nat → Nat → Nat) (H : Heap) (locs : List Loc) (ls : Array Slot), (p1 + n = 5) → (∀ r, r ≠ 13 → τ_1 r = sU τ 0 0 0 r) → (∀ j, j < 9528 → τ_1 13 j < 256) → (∀ p r, p < p1 → frT p ≤ r → r < frT (p + 1) → τ_1 13 r = hbF τ p r) → (∀ r, frT p1 ≤ r → τ_1 13 r = τ 13 r) → va_P D vwCl (WM ad cI cZ τ_1) H → va_D A (WM ad cI cZ τ_1) → va_S A s.heap H locs → lv_has ls 4 [(2, .int (nI p1)), (1, .int (nI (2 ^ (τ 0 15)))), (0, .ref (ad 0))] → W p l e rX5_claim_ok s m (([.ref (ad 0)] : List Value).toArray) below meth c H locs 0 0 (MQ below (va_Qi (fun r u => r = nI (τ 0 15) ∧ CLM τ u) (fun u t => Wm D cI cZ A ad u t) A) (([.ref (ad 0)] : List Value).toArray) s 0 0 A) (F0 m 47 ls []) := by
          intro n
          induction n with
          | zero =>
            intro p1 τ_1 H locs ls hF1 hO hB hH hKe hP hD hS hl
            obtain rfl : p1 = 5 := by omega
            refine lv_iload_n hx hb dX5_claim_47 rfl (lv_at hl 0 rfl) ?_
            refine lv_iconst (v := nI 5) hx hb dX5_claim_48 (by decide) ?_
            refine n_icmp_ge hx hb (tgt := 119) (by omega) (by omega) dX5_claim_49 (by decide) (fun c_49 => ?_) (fun c_49 => ?_)
            · refine lv_aload_n hx hb dX5_claim_119 rfl (lv_at hl 2 rfl) ?_
              refine lv_iconst (v := nI 0) hx hb dX5_claim_120 (by decide) ?_
              refine va_put (D := D) (ci := 4) (v := .int (nI 0)) (ty := .int) (C := RX5) (T := TX5) (N := 20) hx hb hts in_X5_claim_X5 tyX5 tyX5_ok nmX5 hown hK hP hD hS 0 rfl rfl 16 (by decide) (hts _ lk_X5_claim_102) (fun _ h9 => h9) rfl (by decide +kernel) rfl rfl (Nat.le_of_ble_eq_true rfl) dX5_claim_121 (fun H locs hP hD hS => ?_)
              have hP : va_P D vwCl (WM ad cI cZ (sU τ_1 0 16 0)) H := hP
              have hD : va_D A (WM ad cI cZ (sU τ_1 0 16 0)) := hD
              refine lv_aload_n hx hb dX5_claim_124 rfl (lv_at hl 2 rfl) ?_
              refine lv_dup hx hb dX5_claim_125 rfl ?_
              refine va_get (D := D) (ci := 4) (v := .int (nI (τ_1 0 15))) (C := RX5) (T := TX5) (N := 20) hx hb hts in_X5_claim_X5 hown hK hP 0 rfl rfl 15 (by decide) (hts _ lk_X5_claim_109) (fun _ h9 => h9) rfl dX5_claim_126 ?_
              refine lv_iconst (v := nI 1) hx hb dX5_claim_129 (by decide) ?_
              refine n_add hx hb dX5_claim_130 ?_
              refine va_put (D := D) (ci := 4) (v := .int (nI ((τ_1 0 15) + 1))) (ty := .int) (C := RX5) (T := TX5) (N := 20) hx hb hts in_X5_claim_X5 tyX5 tyX5_ok nmX5 hown hK hP hD hS 0 rfl rfl 15 (by decide) (hts _ lk_X5_claim_109) (fun _ h9 => h9) rfl (by decide +kernel) rfl rfl (Nat.le_of_ble_eq_true rfl) dX5_claim_131 (fun H locs hP hD hS => ?_)
              have hP : va_P D vwCl (WM ad cI cZ (sU (sU τ_1 0 16 0) 0 15 ((τ_1 0 15) + 1))) H := hP
              have hD : va_D A (WM ad cI cZ (sU (sU τ_1 0 16 0) 0 15 ((τ_1 0 15) + 1))) := hD
              refine lv_aload_n hx hb dX5_claim_134 rfl (lv_at hl 2 rfl) ?_
              refine va_get (D := D) (ci := 4) (v := .int (nI ((τ_1 0 15) + 1))) (C := RX5) (T := TX5) (N := 20) hx hb hts in_X5_claim_X5 hown hK hP 0 rfl rfl 15 (by decide) (hts _ lk_X5_claim_109) (fun _ h9 => h9) rfl dX5_claim_135 ?_
              refine lv_iconst (v := nI 1) hx hb dX5_claim_138 (by decide) ?_
              refine n_sub hx hb (by omega) dX5_claim_139 ?_
              exact W.iret (v := nI (((τ_1 0 15) + 1) - 1)) hx hb hr (fun t ht hW => ⟨⟨_, (sU (sU τ_1 0 16 0) 0 15 ((τ_1 0 15) + 1)), rfl, (⟨by rw [hO 0 (by decide)]; rfl, CLM_of hO hH⟩), Wm.go hP hK hD ht hW⟩, hS.F ht⟩) hS.2.2 dX5_claim_140
            · omega
          | succ n ih47 =>
            intro p1 τ_1 H locs ls hF1 hO hB hH hKe hP hD hS hl
            have hfr0 : τ_1 14 p1 = frT p1 := by rw [hO 14 (by decide)]; exact hI.from (by omega)
            have htb := tab_ok p1 (by omega)
            refine lv_iload_n hx hb dX5_claim_47 rfl (lv_at hl 0 rfl) ?_
            refine lv_iconst (v := nI 5) hx hb dX5_claim_48 (by decide) ?_
            refine n_icmp_ge hx hb (tgt := 119) (by omega) (by omega) dX5_claim_49 (by decide) (fun c_49 => ?_) (fun c_49 => ?_)
            · omega
            · refine lv_aload_n hx hb dX5_claim_52 rfl (lv_at hl 2 rfl) ?_
              refine va_get (D := D) (ci := 4) (v := .ref (ad 14)) (C := RX5) (T := TX5) (N := 20) hx hb hts in_X5_claim_X5 hown hK hP 0 rfl rfl 14 (by decide) (hts _ lk_X5_claim_50) (fun _ h9 => h9) rfl dX5_claim_53 ?_
              refine lv_iload_n hx hb dX5_claim_56 rfl (lv_at hl 0 rfl) ?_
              refine n_ald hx hb hK hP 13 0 rfl rfl (i := p1) (by omega) (by decide) (v := nI (τ_1 14 p1)) rfl dX5_claim_57 ?_
              refine n_to (w := nI (frT p1)) (by rw [hfr0]) ?_
              refine lv_istore_n (lv' := [(3, .int (nI (frT p1))), (2, .int (nI p1)), (1, .int (nI (2 ^ (τ 0 15)))), (0, .ref (ad 0))]) hx hb dX5_claim_58 rfl hl (by decide) rfl (fun ls hl => ?_)
              have lp59 : ∀ (n : Nat) (r1 : Nat) (τ_2 : Nat → Nat → Nat) (H : Heap) (locs : List Loc) (ls : Array Slot), (r1 + n = frT (p1 + 1) ∧ frT p1 ≤ r1) → (∀ r, r ≠ 13 → τ_2 r = sU τ 0 0 0 r) → (∀ j, j < 9528 → τ_2 13 j < 256) → (∀ p r, p < p1 → frT p ≤ r → r < frT (p + 1) → τ_2 13 r = hbF τ p r) → (∀ r, frT p1 ≤ r → r < r1 → τ_2 13 r = hbF τ p1 r) → (∀ r, r1 ≤ r → τ_2 13 r = τ 13 r) → va_P D vwCl (WM ad cI cZ τ_2) H → va_D A (WM ad cI cZ τ_2) → va_S A s.heap H locs → lv_has ls 4 [(3, .int (nI r1)), (2, .int (nI p1)), (1, .int (nI (2 ^ (τ 0 15)))), (0, .ref (ad 0))] → W p l e rX5_claim_ok s m (([.ref (ad 0)] : List Value).toArray) below meth c H locs 0 0 (MQ below (va_Qi (fun r u => r = nI (τ 0 15) ∧ CLM τ u) (fun u t => Wm D cI cZ A ad u t) A) (([.ref (ad 0)] : List Value).toArray) s 0 0 A) (F0 m 59 ls []) := by
                intro n
                induction n with
                | zero =>
                  intro r1 τ_2 H locs ls hF2 hO hB hH hHr hKe hP hD hS hl
                  have hfr1 : τ_2 14 (p1 + 1) = frT (p1 + 1) := by rw [hO 14 (by decide)]; exact hI.from (by omega)
                  refine lv_iload_n hx hb dX5_claim_59 rfl (lv_at hl 0 rfl) ?_
                  refine lv_aload_n hx hb dX5_claim_60 rfl (lv_at hl 3 rfl) ?_
                  refine va_get (D := D) (ci := 4) (v := .ref (ad 14)) (C := RX5) (T := TX5) (N := 20) hx hb hts in_X5_claim_X5 hown hK hP 0 rfl rfl 14 (by decide) (hts _ lk_X5_claim_50) (fun _ h9 => h9) rfl dX5_claim_61 ?_
                  refine lv_iload_n hx hb dX5_claim_64 rfl (lv_at hl 1 rfl) ?_
                  refine lv_iconst (v := nI 1) hx hb dX5_claim_65 (by decide) ?_
                  refine n_add hx hb dX5_claim_66 ?_
                  refine n_ald hx hb hK hP 13 0 rfl rfl (i := p1 + 1) (by omega) (by decide) (v := nI (τ_2 14 (p1 + 1))) rfl dX5_claim_67 ?_
                  refine n_to (w := nI (frT (p1 + 1))) (by rw [hfr1]) ?_
                  refine n_icmp_ge hx hb (tgt := 113) (by omega) (by omega) dX5_claim_68 (by decide) (fun c_68 => ?_) (fun c_68 => ?_)
                  · refine lv_iinc (v := nI (p1 + 1)) (lv' := [(2, .int (nI (p1 + 1))), (3, .int (nI r1)), (1, .int (nI (2 ^ (τ 0 15)))), (0, .ref (ad 0))]) hx hb dX5_claim_113 hl (k := 1) rfl (nI_add _ _) (by decide) rfl (fun ls hl => ?_)
                    refine lv_goto (tgt := 47) hx hb dX5_claim_116 (by decide) ?_
                    exact ih47 (p1 + 1)  _ _ _ _  (by omega) (hO) (hB) (fun p r q1 q2 q3 => by rcases Nat.lt_or_ge p p1 with z | z; exact hH p r z q2 q3; (obtain rfl : p = p1 := by omega); exact hHr r q2 (by omega)) (fun r q => hKe r (by omega)) hP hD hS (lv_sub hl [0, 2, 3] rfl)
                  · omega
                | succ n ih59 =>
                  intro r1 τ_2 H locs ls hF2 hO hB hH hHr hKe hP hD hS hl
                  have hfr1 : τ_2 14 (p1 + 1) = frT (p1 + 1) := by rw [hO 14 (by decide)]; exact hI.from (by omega)
                  have hbl := hb_lt (p := p1) (hI.holds (j := r1) (by omega)) h8
                  refine lv_iload_n hx hb dX5_claim_59 rfl (lv_at hl 0 rfl) ?_
                  refine lv_aload_n hx hb dX5_claim_60 rfl (lv_at hl 3 rfl) ?_
                  refine va_get (D := D) (ci := 4) (v := .ref (ad 14)) (C := RX5) (T := TX5) (N := 20) hx hb hts in_X5_claim_X5 hown hK hP 0 rfl rfl 14 (by decide) (hts _ lk_X5_claim_50) (fun _ h9 => h9) rfl dX5_claim_61 ?_
                  refine lv_iload_n hx hb dX5_claim_64 rfl (lv_at hl 1 rfl) ?_
                  refine lv_iconst (v := nI 1) hx hb dX5_claim_65 (by decide) ?_
                  refine n_add hx hb dX5_claim_66 ?_
                  refine n_ald hx hb hK hP 13 0 rfl rfl (i := p1 + 1) (by omega) (by decide) (v := nI (τ_2 14 (p1 + 1))) rfl dX5_claim_67 ?_
                  refine n_to (w := nI (frT (p1 + 1))) (by rw [hfr1]) ?_
                  refine n_icmp_ge hx hb (tgt := 113) (by omega) (by omega) dX5_claim_68 (by decide) (fun c_68 => ?_) (fun c_68 => ?_)
                  · omega
                  · refine lv_aload_n hx hb dX5_claim_71 rfl (lv_at hl 3 rfl) ?_
                    refine va_get (D := D) (ci := 4) (v := .ref (ad 13)) (C := RX5) (T := TX5) (N := 20) hx hb hts in_X5_claim_X5 hown hK hP 0 rfl rfl 13 (by decide) (hts _ lk_X5_claim_47) (fun _ h9 => h9) rfl dX5_claim_72 ?_
                    refine lv_iload_n hx hb dX5_claim_75 rfl (lv_at hl 0 rfl) ?_
                    refine lv_aload_n hx hb dX5_claim_76 rfl (lv_at hl 3 rfl) ?_
                    refine lv_iload_n hx hb dX5_claim_77 rfl (lv_at hl 1 rfl) ?_
                    refine lv_iload_n hx hb dX5_claim_78 rfl (lv_at hl 0 rfl) ?_
                    refine vp_callSi (va_Run.run (va_runV (As := [.int (nI p1), .int (nI r1)]) (rest := [.int (nI r1), .ref (ad 13)]) ⟨hx, hb, hml, hown, hts⟩ (c_X5_draftHolds l D cI cZ A ad τ_2 p1 r1 (hI.h13 hO hB) (DrS_of hO hDS) (by omega) (by omega) (by omega)) (cwV 2 hts gX5_claim_X5_draftHolds rfl rfl rfl (by decide +kernel) ⟨Nat.le_of_ble_eq_true rfl, Nat.le_of_ble_eq_true rfl⟩) ⟨Wm.blind, va_recv hK hP (ci := 4) (q0 := 0) rfl rfl, fun U hU hW => ⟨rfl, Wm.go hP hK hD hU hW⟩⟩ rfl rfl hl.1 rfl (lv_room (Nat.le_of_ble_eq_true rfl)) dX5_claim_79 ⟨Nat.zero_le _, Nat.zero_le _⟩)) (fun r_3 hr_3 => ?_)
                    refine n_to (w := bI (dhB τ p1 r1)) (hr_3.trans (congrArg bI (dhB_of hO p1 r1))) ?_
                    refine q_if_eq hx hb (tgt := 96) (bI_z) dX5_claim_82 (by decide) (fun c_82 => ?_) (fun c_82 => ?_)
                    · refine lv_aload_n hx hb dX5_claim_96 rfl (lv_at hl 3 rfl) ?_
                      refine va_get (D := D) (ci := 4) (v := .ref (ad 13)) (C := RX5) (T := TX5) (N := 20) hx hb hts in_X5_claim_X5 hown hK hP 0 rfl rfl 13 (by decide) (hts _ lk_X5_claim_47) (fun _ h9 => h9) rfl dX5_claim_97 ?_
                      refine lv_iload_n hx hb dX5_claim_100 rfl (lv_at hl 0 rfl) ?_
                      refine n_ald hx hb hK hP 12 0 rfl rfl (i := r1) (by omega) (by decide) (v := nI (τ_2 13 r1)) rfl dX5_claim_101 ?_
                      refine n_to (w := nI (τ 13 r1)) (by rw [hKe r1 (Nat.le_refl _)]) ?_
                      refine lv_iload_n hx hb dX5_claim_102 rfl (lv_at hl 2 rfl) ?_
                      refine lv_iconst (v := mI 0) hx hb dX5_claim_103 (by decide) ?_
                      refine lv_ixor hx hb dX5_claim_104 ?_
                      refine n_to (w := (nI (2 ^ (τ 0 15)) ^^^ mI 0)) (rfl) ?_
                      refine lv_iand hx hb dX5_claim_105 ?_
                      refine n_to (w := nI (τ 13 r1 &&& (255 - 2 ^ (τ 0 15)))) (clr_ok (τ 0 15) h8 _ (hI.holds (by omega))) ?_
                      refine n_ast (ws' := WM ad cI cZ (sU τ_2 13 r1 (τ 13 r1 &&& (255 - 2 ^ (τ 0 15))))) hx hb hK hP hD hS 12 0 rfl rfl (i := r1) (by omega) (by decide) (WMs13 ..) dX5_claim_106 (fun H locs hP hD hS => ?_)
                      refine lv_iinc (v := nI (r1 + 1)) (lv' := [(3, .int (nI (r1 + 1))), (2, .int (nI p1)), (1, .int (nI (2 ^ (τ 0 15)))), (0, .ref (ad 0))]) hx hb dX5_claim_107 hl (k := 0) rfl (nI_add _ _) (by decide) rfl (fun ls hl => ?_)
                      refine lv_goto (tgt := 59) hx hb dX5_claim_110 (by decide) ?_
                      have hv : τ 13 r1 &&& (255 - 2 ^ (τ 0 15)) = hbF τ p1 r1 := by unfold hbF; first | (rw [if_pos (ts_nf c_82)]; done) | (rw [if_neg (ts_ff c_82)]; done)
                      exact ih59 (r1 + 1)  _ _ _ _  (by omega) (hO_step hO) (hB_step (by rw [hv]; exact hbl) hB) (fun p r q1 q2 q3 => by rw [sU_at, if_neg (by have := frT_mono p1 (by omega) p q1; omega)]; exact hH p r q1 q2 q3) (fun r q1 q2 => by rw [sU_at]; split; (rename_i hh; rw [hh]; exact hv); exact hHr r q1 (by omega)) (fun r q => by rw [sU_at, if_neg (by omega)]; exact hKe r (by omega)) hP hD hS (lv_sub hl [0, 1, 2, 3] rfl)
                    · refine lv_aload_n hx hb dX5_claim_85 rfl (lv_at hl 3 rfl) ?_
                      refine va_get (D := D) (ci := 4) (v := .ref (ad 13)) (C := RX5) (T := TX5) (N := 20) hx hb hts in_X5_claim_X5 hown hK hP 0 rfl rfl 13 (by decide) (hts _ lk_X5_claim_47) (fun _ h9 => h9) rfl dX5_claim_86 ?_
                      refine lv_iload_n hx hb dX5_claim_89 rfl (lv_at hl 0 rfl) ?_
                      refine n_ald hx hb hK hP 12 0 rfl rfl (i := r1) (by omega) (by decide) (v := nI (τ_2 13 r1)) rfl dX5_claim_90 ?_
                      refine n_to (w := nI (τ 13 r1)) (by rw [hKe r1 (Nat.le_refl _)]) ?_
                      refine lv_iload_n hx hb dX5_claim_91 rfl (lv_at hl 2 rfl) ?_
                      refine lv_ior hx hb dX5_claim_92 ?_
                      refine n_to (w := nI (τ 13 r1 ||| 2 ^ (τ 0 15))) (nx_or _ _) ?_
                      refine lv_goto (tgt := 106) hx hb dX5_claim_93 (by decide) ?_
                      refine n_ast (ws' := WM ad cI cZ (sU τ_2 13 r1 (τ 13 r1 ||| 2 ^ (τ 0 15)))) hx hb hK hP hD hS 12 0 rfl rfl (i := r1) (by omega) (by decide) (WMs13 ..) dX5_claim_106 (fun H locs hP hD hS => ?_)
                      refine lv_iinc (v := nI (r1 + 1)) (lv' := [(3, .int (nI (r1 + 1))), (2, .int (nI p1)), (1, .int (nI (2 ^ (τ 0 15)))), (0, .ref (ad 0))]) hx hb dX5_claim_107 hl (k := 0) rfl (nI_add _ _) (by decide) rfl (fun ls hl => ?_)
                      refine lv_goto (tgt := 59) hx hb dX5_claim_110 (by decide) ?_
                      have hv : τ 13 r1 ||| 2 ^ (τ 0 15) = hbF τ p1 r1 := by unfold hbF; first | (rw [if_pos (ts_nf c_82)]; done) | (rw [if_neg (ts_ff c_82)]; done)
                      exact ih59 (r1 + 1)  _ _ _ _  (by omega) (hO_step hO) (hB_step (by rw [hv]; exact hbl) hB) (fun p r q1 q2 q3 => by rw [sU_at, if_neg (by have := frT_mono p1 (by omega) p q1; omega)]; exact hH p r q1 q2 q3) (fun r q1 q2 => by rw [sU_at]; split; (rename_i hh; rw [hh]; exact hv); exact hHr r q1 (by omega)) (fun r q => by rw [sU_at, if_neg (by omega)]; exact hKe r (by omega)) hP hD hS (lv_sub hl [0, 1, 2, 3] rfl)
              exact lp59 (frT (p1 + 1) - frT p1) (frT p1)  _ _ _ _ (by omega) (hO) (hB) (hH) (fun r q1 q2 => absurd q1 (by omega)) (hKe) hP hD hS (lv_sub hl [0, 1, 2, 3] rfl)
        exact lp47 5 0  _ _ _ _ (by omega) (fun _ _ => rfl) (fun j hj => hI.holds hj) (fun p r q => absurd q (by omega)) (fun _ _ => rfl) hP hD hS (lv_sub hl [0, 1, 2] rfl)
      · exact absurd c_33 (by decide)
    · omega
  · exact absurd c_5 hz
theorem in_X5_same_X5 : ∀ w ∈ wsX50, w ∈ wsX5_same := by decide +kernel
theorem lk_X5_same_67 : Cond.fieldLink RX5 67 "ArrayClaimsModel" "thrown" "I" ∈ wsX5_same := by decide +kernel
def rX5_same_o1 : Room := { frames := 1, cells := 0, slots := 0, locals := 21 }
set_option maxHeartbeats 4000000 in
set_option maxRecDepth 100000 in
theorem c_X5_same_o1 (l : Launch) (D : va_G) (cI cZ : ClassId) (A : Nat → Prop) (ad : Nat → Nat) (τ : Nat → Nat → Nat) (t1 u1 : Int32) (hc : 7 ≤ τ 0 1 ∧ τ 0 1 ≤ 24) (hxo : t1 < 0 ∨ nI (τ 0 1) ≤ t1) : Met l yX5_same wsX5_same rX5_same_o1 (va_Pc [.ref (ad 0), .int t1, .int u1] (Wm D cI cZ A ad τ)) (va_Qi (fun r u => r = nI 0 ∧ u = sU τ 0 0 1) (fun u t => Wm D cI cZ A ad u t) A) 0 0 A := by
  refine Met.ofW (cc := cX5_same) (maxL := 9) (ret := (some .int)) (by decide) rfl ?_
  intro p e s m args below meth c s₁ B hml hv
  obtain ⟨rfl, hP, hK, hD⟩ := hv
  have hx := B.exec
  have hb := B.bytes
  have hr := B.returns
  have hts := atoms_spec (ws := wsX5_same) B.pre
  have hown : s.vm.findClass RX5 = some m.cls := findClass_of_methodNamed B.named
  have hlocks := B.notSynchronized
  have hS : va_S A s.heap s.heap [] := va_S.rf
  have hl := lv_entry ([.ref (ad 0), .int t1, .int u1]) (n := 9) (Nat.le_of_ble_eq_true rfl)
  rw [lg_entry_eq]
  generalize (lg_sl ([.ref (ad 0), .int t1, .int u1]) ++ List.replicate (9 - (lg_sl ([.ref (ad 0), .int t1, .int u1])).length) Slot.unset).toArray = ls at hl ⊢
  have hl : lv_has ls 9 [(0, .ref (ad 0)), (1, .int t1), (2, .int u1)] := hl
  refine lv_aload_n hx hb dX5_same_0 rfl (lv_at hl 0 rfl) ?_
  refine lv_aload_n hx hb dX5_same_1 rfl (lv_at hl 0 rfl) ?_
  refine lv_iload_n hx hb dX5_same_2 rfl (lv_at hl 1 rfl) ?_
  refine vp_callSi (va_Run.run (va_runV (As := [.int t1]) (rest := [.ref (ad 0)]) ⟨hx, hb, hml, hown, hts⟩ (c_X5_isTerm_out l D cI cZ A ad τ t1 hxo) (cwV 1 hts gX5_same_X5_isTerm rfl rfl rfl (by decide +kernel) ⟨Nat.le_of_ble_eq_true rfl, Nat.le_of_ble_eq_true rfl⟩) ⟨Wm.blind, va_recv hK hP (ci := 4) (q0 := 0) rfl rfl, fun U hU hW => ⟨rfl, Wm.go hP hK hD hU hW⟩⟩ rfl rfl hl.1 rfl (lv_room (Nat.le_of_ble_eq_true rfl)) dX5_same_3 ⟨Nat.zero_le _, Nat.zero_le _⟩)) (fun r_1 hr_1 => ?_)
  refine n_to (w := bI false) (hr_1.trans rfl) ?_
  refine q_if_eq hx hb (tgt := 17) (bI_z) dX5_same_6 (by decide) (fun c_6 => ?_) (fun c_6 => ?_)
  · refine lv_iconst (v := nI 1) hx hb dX5_same_17 (by decide) ?_
    refine lv_goto (tgt := 56) hx hb dX5_same_18 (by decide) ?_
    refine va_put (D := D) (ci := 4) (v := .int (nI 1)) (ty := .int) (C := RX5) (T := TX5) (N := 20) hx hb hts in_X5_same_X5 tyX5 tyX5_ok nmX5 hown hK hP hD hS 0 rfl rfl 0 (by decide) (hts _ lk_X5_same_67) (fun _ h9 => h9) rfl (by decide +kernel) rfl rfl (Nat.le_of_ble_eq_true rfl) dX5_same_56 (fun H locs hP hD hS => ?_)
    have hP : va_P D vwCl (WM ad cI cZ (sU τ 0 0 1)) H := hP
    have hD : va_D A (WM ad cI cZ (sU τ 0 0 1)) := hD
    refine lv_aload_n hx hb dX5_same_59 rfl (lv_at hl 0 rfl) ?_
    refine va_get (D := D) (ci := 4) (v := .int (nI 1)) (C := RX5) (T := TX5) (N := 20) hx hb hts in_X5_same_X5 hown hK hP 0 rfl rfl 0 (by decide) (hts _ lk_X5_same_67) (fun _ h9 => h9) rfl dX5_same_60 ?_
    refine q_if_le hx hb (tgt := 68) (nI_le0 (by omega)) dX5_same_63 (by decide) (fun c_63 => ?_) (fun c_63 => ?_)
    · exact absurd c_63 (by decide)
    · refine lv_iconst (v := nI 0) hx hb dX5_same_66 (by decide) ?_
      exact W.iret (v := nI 0) hx hb hr (fun t ht hW => ⟨⟨_, (sU τ 0 0 1), rfl, (⟨rfl, rfl⟩), Wm.go hP hK hD ht hW⟩, hS.F ht⟩) hS.2.2 dX5_same_67
  · exact absurd rfl c_6
def rX5_same_o2 : Room := { frames := 1, cells := 0, slots := 0, locals := 21 }
set_option maxHeartbeats 4000000 in
set_option maxRecDepth 100000 in
theorem c_X5_same_o2 (l : Launch) (D : va_G) (cI cZ : ClassId) (A : Nat → Prop) (ad : Nat → Nat) (τ : Nat → Nat → Nat) (t1 : Nat) (u1 : Int32) (hc : 7 ≤ τ 0 1 ∧ τ 0 1 ≤ 24) (ht : t1 < τ 0 1) (hxo : u1 < 0 ∨ nI (τ 0 1) ≤ u1) : Met l yX5_same wsX5_same rX5_same_o2 (va_Pc [.ref (ad 0), .int (nI t1), .int u1] (Wm D cI cZ A ad τ)) (va_Qi (fun r u => r = nI 0 ∧ u = sU τ 0 0 1) (fun u t => Wm D cI cZ A ad u t) A) 0 0 A := by
  refine Met.ofW (cc := cX5_same) (maxL := 9) (ret := (some .int)) (by decide) rfl ?_
  intro p e s m args below meth c s₁ B hml hv
  obtain ⟨rfl, hP, hK, hD⟩ := hv
  have hx := B.exec
  have hb := B.bytes
  have hr := B.returns
  have hts := atoms_spec (ws := wsX5_same) B.pre
  have hown : s.vm.findClass RX5 = some m.cls := findClass_of_methodNamed B.named
  have hlocks := B.notSynchronized
  have hS : va_S A s.heap s.heap [] := va_S.rf
  have hl := lv_entry ([.ref (ad 0), .int (nI t1), .int u1]) (n := 9) (Nat.le_of_ble_eq_true rfl)
  rw [lg_entry_eq]
  generalize (lg_sl ([.ref (ad 0), .int (nI t1), .int u1]) ++ List.replicate (9 - (lg_sl ([.ref (ad 0), .int (nI t1), .int u1])).length) Slot.unset).toArray = ls at hl ⊢
  have hl : lv_has ls 9 [(0, .ref (ad 0)), (1, .int (nI t1)), (2, .int u1)] := hl
  refine lv_aload_n hx hb dX5_same_0 rfl (lv_at hl 0 rfl) ?_
  refine lv_aload_n hx hb dX5_same_1 rfl (lv_at hl 0 rfl) ?_
  refine lv_iload_n hx hb dX5_same_2 rfl (lv_at hl 1 rfl) ?_
  refine vp_callSi (va_Run.run (va_runV (As := [.int (nI t1)]) (rest := [.ref (ad 0)]) ⟨hx, hb, hml, hown, hts⟩ (c_X5_isTerm_in l D cI cZ A ad τ t1 ht hc.2) (cwV 1 hts gX5_same_X5_isTerm rfl rfl rfl (by decide +kernel) ⟨Nat.le_of_ble_eq_true rfl, Nat.le_of_ble_eq_true rfl⟩) ⟨Wm.blind, va_recv hK hP (ci := 4) (q0 := 0) rfl rfl, fun U hU hW => ⟨rfl, Wm.go hP hK hD hU hW⟩⟩ rfl rfl hl.1 rfl (lv_room (Nat.le_of_ble_eq_true rfl)) dX5_same_3 ⟨Nat.zero_le _, Nat.zero_le _⟩)) (fun r_1 hr_1 => ?_)
  refine n_to (w := bI true) (hr_1.trans rfl) ?_
  refine q_if_eq hx hb (tgt := 17) (bI_z) dX5_same_6 (by decide) (fun c_6 => ?_) (fun c_6 => ?_)
  · cases c_6
  · refine lv_aload_n hx hb dX5_same_9 rfl (lv_at hl 0 rfl) ?_
    refine lv_iload_n hx hb dX5_same_10 rfl (lv_at hl 2 rfl) ?_
    refine vp_callSi (va_Run.run (va_runV (As := [.int u1]) (rest := [.ref (ad 0)]) ⟨hx, hb, hml, hown, hts⟩ (c_X5_isTerm_out l D cI cZ A ad τ u1 hxo) (cwV 1 hts gX5_same_X5_isTerm rfl rfl rfl (by decide +kernel) ⟨Nat.le_of_ble_eq_true rfl, Nat.le_of_ble_eq_true rfl⟩) ⟨Wm.blind, va_recv hK hP (ci := 4) (q0 := 0) rfl rfl, fun U hU hW => ⟨rfl, Wm.go hP hK hD hU hW⟩⟩ rfl rfl hl.1 rfl (lv_room (Nat.le_of_ble_eq_true rfl)) dX5_same_11 ⟨Nat.zero_le _, Nat.zero_le _⟩)) (fun r_2 hr_2 => ?_)
    refine n_to (w := bI false) (hr_2.trans rfl) ?_
    refine q_if_ne hx hb (tgt := 21) (bI_z) dX5_same_14 (by decide) (fun c_14 => ?_) (fun c_14 => ?_)
    · exact absurd rfl c_14
    · refine lv_iconst (v := nI 1) hx hb dX5_same_17 (by decide) ?_
      refine lv_goto (tgt := 56) hx hb dX5_same_18 (by decide) ?_
      refine va_put (D := D) (ci := 4) (v := .int (nI 1)) (ty := .int) (C := RX5) (T := TX5) (N := 20) hx hb hts in_X5_same_X5 tyX5 tyX5_ok nmX5 hown hK hP hD hS 0 rfl rfl 0 (by decide) (hts _ lk_X5_same_67) (fun _ h9 => h9) rfl (by decide +kernel) rfl rfl (Nat.le_of_ble_eq_true rfl) dX5_same_56 (fun H locs hP hD hS => ?_)
      have hP : va_P D vwCl (WM ad cI cZ (sU τ 0 0 1)) H := hP
      have hD : va_D A (WM ad cI cZ (sU τ 0 0 1)) := hD
      refine lv_aload_n hx hb dX5_same_59 rfl (lv_at hl 0 rfl) ?_
      refine va_get (D := D) (ci := 4) (v := .int (nI 1)) (C := RX5) (T := TX5) (N := 20) hx hb hts in_X5_same_X5 hown hK hP 0 rfl rfl 0 (by decide) (hts _ lk_X5_same_67) (fun _ h9 => h9) rfl dX5_same_60 ?_
      refine q_if_le hx hb (tgt := 68) (nI_le0 (by omega)) dX5_same_63 (by decide) (fun c_63 => ?_) (fun c_63 => ?_)
      · exact absurd c_63 (by decide)
      · refine lv_iconst (v := nI 0) hx hb dX5_same_66 (by decide) ?_
        exact W.iret (v := nI 0) hx hb hr (fun t ht hW => ⟨⟨_, (sU τ 0 0 1), rfl, (⟨rfl, rfl⟩), Wm.go hP hK hD ht hW⟩, hS.F ht⟩) hS.2.2 dX5_same_67
theorem lk_X5_same_13 : Cond.fieldLink RX5 13 "ArrayClaimsModel" "sort" "[I" ∈ wsX5_same := by decide +kernel
def rX5_same_sort : Room := { frames := 1, cells := 0, slots := 0, locals := 21 }
set_option maxHeartbeats 4000000 in
set_option maxRecDepth 100000 in
theorem c_X5_same_sort (l : Launch) (D : va_G) (cI cZ : ClassId) (A : Nat → Prop) (ad : Nat → Nat) (τ : Nat → Nat → Nat) (t1 u1 : Nat) (hI : IM τ) (ht : t1 < τ 0 1) (hu : u1 < τ 0 1) (hsu : τ 2 t1 ≠ τ 2 u1) : Met l yX5_same wsX5_same rX5_same_sort (va_Pc [.ref (ad 0), .int (nI t1), .int (nI u1)] (Wm D cI cZ A ad τ)) (va_Qi (fun r u => r = nI 0 ∧ u = sU τ 0 0 2) (fun u t => Wm D cI cZ A ad u t) A) 0 0 A := by
  refine Met.ofW (cc := cX5_same) (maxL := 9) (ret := (some .int)) (by decide) rfl ?_
  intro p e s m args below meth c s₁ B hml hv
  obtain ⟨rfl, hP, hK, hD⟩ := hv
  have hx := B.exec
  have hb := B.bytes
  have hr := B.returns
  have hts := atoms_spec (ws := wsX5_same) B.pre
  have hown : s.vm.findClass RX5 = some m.cls := findClass_of_methodNamed B.named
  have hlocks := B.notSynchronized
  have hS : va_S A s.heap s.heap [] := va_S.rf
  have hl := lv_entry ([.ref (ad 0), .int (nI t1), .int (nI u1)]) (n := 9) (Nat.le_of_ble_eq_true rfl)
  rw [lg_entry_eq]
  generalize (lg_sl ([.ref (ad 0), .int (nI t1), .int (nI u1)]) ++ List.replicate (9 - (lg_sl ([.ref (ad 0), .int (nI t1), .int (nI u1)])).length) Slot.unset).toArray = ls at hl ⊢
  have hl : lv_has ls 9 [(0, .ref (ad 0)), (1, .int (nI t1)), (2, .int (nI u1))] := hl
  have hc := hI.terms
  have hs1 := hI.sorts (j := t1) (by omega)
  have hs2 := hI.sorts (j := u1) (by omega)
  have hcl := hI.claims
  have hp8 := pow8 hcl
  refine lv_aload_n hx hb dX5_same_0 rfl (lv_at hl 0 rfl) ?_
  refine lv_aload_n hx hb dX5_same_1 rfl (lv_at hl 0 rfl) ?_
  refine lv_iload_n hx hb dX5_same_2 rfl (lv_at hl 1 rfl) ?_
  refine vp_callSi (va_Run.run (va_runV (As := [.int (nI t1)]) (rest := [.ref (ad 0)]) ⟨hx, hb, hml, hown, hts⟩ (c_X5_isTerm_in l D cI cZ A ad τ t1 ht hc.2) (cwV 1 hts gX5_same_X5_isTerm rfl rfl rfl (by decide +kernel) ⟨Nat.le_of_ble_eq_true rfl, Nat.le_of_ble_eq_true rfl⟩) ⟨Wm.blind, va_recv hK hP (ci := 4) (q0 := 0) rfl rfl, fun U hU hW => ⟨rfl, Wm.go hP hK hD hU hW⟩⟩ rfl rfl hl.1 rfl (lv_room (Nat.le_of_ble_eq_true rfl)) dX5_same_3 ⟨Nat.zero_le _, Nat.zero_le _⟩)) (fun r_1 hr_1 => ?_)
  refine n_to (w := bI true) (hr_1.trans rfl) ?_
  refine q_if_eq hx hb (tgt := 17) (bI_z) dX5_same_6 (by decide) (fun c_6 => ?_) (fun c_6 => ?_)
  · cases c_6
  · refine lv_aload_n hx hb dX5_same_9 rfl (lv_at hl 0 rfl) ?_
    refine lv_iload_n hx hb dX5_same_10 rfl (lv_at hl 2 rfl) ?_
    refine vp_callSi (va_Run.run (va_runV (As := [.int (nI u1)]) (rest := [.ref (ad 0)]) ⟨hx, hb, hml, hown, hts⟩ (c_X5_isTerm_in l D cI cZ A ad τ u1 hu hc.2) (cwV 1 hts gX5_same_X5_isTerm rfl rfl rfl (by decide +kernel) ⟨Nat.le_of_ble_eq_true rfl, Nat.le_of_ble_eq_true rfl⟩) ⟨Wm.blind, va_recv hK hP (ci := 4) (q0 := 0) rfl rfl, fun U hU hW => ⟨rfl, Wm.go hP hK hD hU hW⟩⟩ rfl rfl hl.1 rfl (lv_room (Nat.le_of_ble_eq_true rfl)) dX5_same_11 ⟨Nat.zero_le _, Nat.zero_le _⟩)) (fun r_2 hr_2 => ?_)
    refine n_to (w := bI true) (hr_2.trans rfl) ?_
    refine q_if_ne hx hb (tgt := 21) (bI_z) dX5_same_14 (by decide) (fun c_14 => ?_) (fun c_14 => ?_)
    · refine lv_aload_n hx hb dX5_same_21 rfl (lv_at hl 0 rfl) ?_
      refine va_get (D := D) (ci := 4) (v := .ref (ad 2)) (C := RX5) (T := TX5) (N := 20) hx hb hts in_X5_same_X5 hown hK hP 0 rfl rfl 2 (by decide) (hts _ lk_X5_same_13) (fun _ h9 => h9) rfl dX5_same_22 ?_
      refine lv_iload_n hx hb dX5_same_25 rfl (lv_at hl 1 rfl) ?_
      refine n_ald hx hb hK hP 1 0 rfl rfl (i := t1) (by omega) (by decide) (v := nI (τ 2 t1)) rfl dX5_same_26 ?_
      refine lv_aload_n hx hb dX5_same_27 rfl (lv_at hl 0 rfl) ?_
      refine va_get (D := D) (ci := 4) (v := .ref (ad 2)) (C := RX5) (T := TX5) (N := 20) hx hb hts in_X5_same_X5 hown hK hP 0 rfl rfl 2 (by decide) (hts _ lk_X5_same_13) (fun _ h9 => h9) rfl dX5_same_28 ?_
      refine lv_iload_n hx hb dX5_same_31 rfl (lv_at hl 2 rfl) ?_
      refine n_ald hx hb hK hP 1 0 rfl rfl (i := u1) (by omega) (by decide) (v := nI (τ 2 u1)) rfl dX5_same_32 ?_
      refine q_icmp_eq hx hb (tgt := 40) (nI_eq (by omega) (by omega)) dX5_same_33 (by decide) (fun c_33 => ?_) (fun c_33 => ?_)
      · exact absurd c_33 hsu
      · refine lv_iconst (v := nI 2) hx hb dX5_same_36 (by decide) ?_
        refine lv_goto (tgt := 56) hx hb dX5_same_37 (by decide) ?_
        refine va_put (D := D) (ci := 4) (v := .int (nI 2)) (ty := .int) (C := RX5) (T := TX5) (N := 20) hx hb hts in_X5_same_X5 tyX5 tyX5_ok nmX5 hown hK hP hD hS 0 rfl rfl 0 (by decide) (hts _ lk_X5_same_67) (fun _ h9 => h9) rfl (by decide +kernel) rfl rfl (Nat.le_of_ble_eq_true rfl) dX5_same_56 (fun H locs hP hD hS => ?_)
        have hP : va_P D vwCl (WM ad cI cZ (sU τ 0 0 2)) H := hP
        have hD : va_D A (WM ad cI cZ (sU τ 0 0 2)) := hD
        refine lv_aload_n hx hb dX5_same_59 rfl (lv_at hl 0 rfl) ?_
        refine va_get (D := D) (ci := 4) (v := .int (nI 2)) (C := RX5) (T := TX5) (N := 20) hx hb hts in_X5_same_X5 hown hK hP 0 rfl rfl 0 (by decide) (hts _ lk_X5_same_67) (fun _ h9 => h9) rfl dX5_same_60 ?_
        refine q_if_le hx hb (tgt := 68) (nI_le0 (by omega)) dX5_same_63 (by decide) (fun c_63 => ?_) (fun c_63 => ?_)
        · exact absurd c_63 (by decide)
        · refine lv_iconst (v := nI 0) hx hb dX5_same_66 (by decide) ?_
          exact W.iret (v := nI 0) hx hb hr (fun t ht hW => ⟨⟨_, (sU τ 0 0 2), rfl, (⟨rfl, rfl⟩), Wm.go hP hK hD ht hW⟩, hS.F ht⟩) hS.2.2 dX5_same_67
    · cases c_14
def rX5_same_cant : Room := { frames := 1, cells := 0, slots := 0, locals := 22 }
set_option maxHeartbeats 4000000 in
set_option maxRecDepth 100000 in
theorem c_X5_same_cant (l : Launch) (D : va_G) (cI cZ : ClassId) (A : Nat → Prop) (ad : Nat → Nat) (τ : Nat → Nat → Nat) (t1 u1 : Nat) (hI : IM τ) (ht : t1 < τ 0 1) (hu : u1 < τ 0 1) (hsu : τ 2 t1 = τ 2 u1) (hch : chB τ (2 ^ (τ 0 15) - 1) = false) : Met l yX5_same wsX5_same rX5_same_cant (va_Pc [.ref (ad 0), .int (nI t1), .int (nI u1)] (Wm D cI cZ A ad τ)) (va_Qi (fun r u => r = nI 0 ∧ u = sU τ 0 0 3) (fun u t => Wm D cI cZ A ad u t) A) 0 0 A := by
  refine Met.ofW (cc := cX5_same) (maxL := 9) (ret := (some .int)) (by decide) rfl ?_
  intro p e s m args below meth c s₁ B hml hv
  obtain ⟨rfl, hP, hK, hD⟩ := hv
  have hx := B.exec
  have hb := B.bytes
  have hr := B.returns
  have hts := atoms_spec (ws := wsX5_same) B.pre
  have hown : s.vm.findClass RX5 = some m.cls := findClass_of_methodNamed B.named
  have hlocks := B.notSynchronized
  have hS : va_S A s.heap s.heap [] := va_S.rf
  have hl := lv_entry ([.ref (ad 0), .int (nI t1), .int (nI u1)]) (n := 9) (Nat.le_of_ble_eq_true rfl)
  rw [lg_entry_eq]
  generalize (lg_sl ([.ref (ad 0), .int (nI t1), .int (nI u1)]) ++ List.replicate (9 - (lg_sl ([.ref (ad 0), .int (nI t1), .int (nI u1)])).length) Slot.unset).toArray = ls at hl ⊢
  have hl : lv_has ls 9 [(0, .ref (ad 0)), (1, .int (nI t1)), (2, .int (nI u1))] := hl
  have hc := hI.terms
  have hs1 := hI.sorts (j := t1) (by omega)
  have hs2 := hI.sorts (j := u1) (by omega)
  have hcl := hI.claims
  have hp8 := pow8 hcl
  refine lv_aload_n hx hb dX5_same_0 rfl (lv_at hl 0 rfl) ?_
  refine lv_aload_n hx hb dX5_same_1 rfl (lv_at hl 0 rfl) ?_
  refine lv_iload_n hx hb dX5_same_2 rfl (lv_at hl 1 rfl) ?_
  refine vp_callSi (va_Run.run (va_runV (As := [.int (nI t1)]) (rest := [.ref (ad 0)]) ⟨hx, hb, hml, hown, hts⟩ (c_X5_isTerm_in l D cI cZ A ad τ t1 ht hc.2) (cwV 1 hts gX5_same_X5_isTerm rfl rfl rfl (by decide +kernel) ⟨Nat.le_of_ble_eq_true rfl, Nat.le_of_ble_eq_true rfl⟩) ⟨Wm.blind, va_recv hK hP (ci := 4) (q0 := 0) rfl rfl, fun U hU hW => ⟨rfl, Wm.go hP hK hD hU hW⟩⟩ rfl rfl hl.1 rfl (lv_room (Nat.le_of_ble_eq_true rfl)) dX5_same_3 ⟨Nat.zero_le _, Nat.zero_le _⟩)) (fun r_1 hr_1 => ?_)
  refine n_to (w := bI true) (hr_1.trans rfl) ?_
  refine q_if_eq hx hb (tgt := 17) (bI_z) dX5_same_6 (by decide) (fun c_6 => ?_) (fun c_6 => ?_)
  · cases c_6
  · refine lv_aload_n hx hb dX5_same_9 rfl (lv_at hl 0 rfl) ?_
    refine lv_iload_n hx hb dX5_same_10 rfl (lv_at hl 2 rfl) ?_
    refine vp_callSi (va_Run.run (va_runV (As := [.int (nI u1)]) (rest := [.ref (ad 0)]) ⟨hx, hb, hml, hown, hts⟩ (c_X5_isTerm_in l D cI cZ A ad τ u1 hu hc.2) (cwV 1 hts gX5_same_X5_isTerm rfl rfl rfl (by decide +kernel) ⟨Nat.le_of_ble_eq_true rfl, Nat.le_of_ble_eq_true rfl⟩) ⟨Wm.blind, va_recv hK hP (ci := 4) (q0 := 0) rfl rfl, fun U hU hW => ⟨rfl, Wm.go hP hK hD hU hW⟩⟩ rfl rfl hl.1 rfl (lv_room (Nat.le_of_ble_eq_true rfl)) dX5_same_11 ⟨Nat.zero_le _, Nat.zero_le _⟩)) (fun r_2 hr_2 => ?_)
    refine n_to (w := bI true) (hr_2.trans rfl) ?_
    refine q_if_ne hx hb (tgt := 21) (bI_z) dX5_same_14 (by decide) (fun c_14 => ?_) (fun c_14 => ?_)
    · refine lv_aload_n hx hb dX5_same_21 rfl (lv_at hl 0 rfl) ?_
      refine va_get (D := D) (ci := 4) (v := .ref (ad 2)) (C := RX5) (T := TX5) (N := 20) hx hb hts in_X5_same_X5 hown hK hP 0 rfl rfl 2 (by decide) (hts _ lk_X5_same_13) (fun _ h9 => h9) rfl dX5_same_22 ?_
      refine lv_iload_n hx hb dX5_same_25 rfl (lv_at hl 1 rfl) ?_
      refine n_ald hx hb hK hP 1 0 rfl rfl (i := t1) (by omega) (by decide) (v := nI (τ 2 t1)) rfl dX5_same_26 ?_
      refine lv_aload_n hx hb dX5_same_27 rfl (lv_at hl 0 rfl) ?_
      refine va_get (D := D) (ci := 4) (v := .ref (ad 2)) (C := RX5) (T := TX5) (N := 20) hx hb hts in_X5_same_X5 hown hK hP 0 rfl rfl 2 (by decide) (hts _ lk_X5_same_13) (fun _ h9 => h9) rfl dX5_same_28 ?_
      refine lv_iload_n hx hb dX5_same_31 rfl (lv_at hl 2 rfl) ?_
      refine n_ald hx hb hK hP 1 0 rfl rfl (i := u1) (by omega) (by decide) (v := nI (τ 2 u1)) rfl dX5_same_32 ?_
      refine q_icmp_eq hx hb (tgt := 40) (nI_eq (by omega) (by omega)) dX5_same_33 (by decide) (fun c_33 => ?_) (fun c_33 => ?_)
      · refine lv_aload_n hx hb dX5_same_40 rfl (lv_at hl 0 rfl) ?_
        refine lv_aload_n hx hb dX5_same_41 rfl (lv_at hl 0 rfl) ?_
        refine vp_callSi (va_Run.run (va_runV (As := []) (rest := [.ref (ad 0), .ref (ad 0)]) ⟨hx, hb, hml, hown, hts⟩ (c_X5_all l D cI cZ A ad τ hcl) (cwV 0 hts gX5_same_X5_all rfl rfl rfl (by decide +kernel) ⟨Nat.le_of_ble_eq_true rfl, Nat.le_of_ble_eq_true rfl⟩) ⟨Wm.blind, va_recv hK hP (ci := 4) (q0 := 0) rfl rfl, fun U hU hW => ⟨rfl, Wm.go hP hK hD hU hW⟩⟩ rfl rfl hl.1 rfl (lv_room (Nat.le_of_ble_eq_true rfl)) dX5_same_42 ⟨Nat.zero_le _, Nat.zero_le _⟩)) (fun r_3 hr_3 => ?_)
        refine n_to (w := nI (2 ^ (τ 0 15) - 1)) (hr_3.trans rfl) ?_
        refine vp_callSi (va_Run.run (va_runV (As := [.int (nI (2 ^ (τ 0 15) - 1))]) (rest := [.ref (ad 0)]) ⟨hx, hb, hml, hown, hts⟩ (c_X5_canHold l D cI cZ A ad τ (2 ^ (τ 0 15) - 1) hI (by omega)) (cwV 1 hts gX5_same_X5_canHold rfl rfl rfl (by decide +kernel) ⟨Nat.le_of_ble_eq_true rfl, Nat.le_of_ble_eq_true rfl⟩) ⟨Wm.blind, va_recv hK hP (ci := 4) (q0 := 0) rfl rfl, fun U hU hW => ⟨rfl, Wm.go hP hK hD hU hW⟩⟩ rfl rfl hl.1 rfl (lv_room (Nat.le_of_ble_eq_true rfl)) dX5_same_45 ⟨Nat.zero_le _, Nat.zero_le _⟩)) (fun r_4 hr_4 => ?_)
        refine n_to (w := bI (chB τ (2 ^ (τ 0 15) - 1))) (hr_4.trans rfl) ?_
        refine q_if_ne hx hb (tgt := 55) (bI_z) dX5_same_48 (by decide) (fun c_48 => ?_) (fun c_48 => ?_)
        · exact absurd hch c_48
        · refine lv_iconst (v := nI 3) hx hb dX5_same_51 (by decide) ?_
          refine lv_goto (tgt := 56) hx hb dX5_same_52 (by decide) ?_
          refine va_put (D := D) (ci := 4) (v := .int (nI 3)) (ty := .int) (C := RX5) (T := TX5) (N := 20) hx hb hts in_X5_same_X5 tyX5 tyX5_ok nmX5 hown hK hP hD hS 0 rfl rfl 0 (by decide) (hts _ lk_X5_same_67) (fun _ h9 => h9) rfl (by decide +kernel) rfl rfl (Nat.le_of_ble_eq_true rfl) dX5_same_56 (fun H locs hP hD hS => ?_)
          have hP : va_P D vwCl (WM ad cI cZ (sU τ 0 0 3)) H := hP
          have hD : va_D A (WM ad cI cZ (sU τ 0 0 3)) := hD
          refine lv_aload_n hx hb dX5_same_59 rfl (lv_at hl 0 rfl) ?_
          refine va_get (D := D) (ci := 4) (v := .int (nI 3)) (C := RX5) (T := TX5) (N := 20) hx hb hts in_X5_same_X5 hown hK hP 0 rfl rfl 0 (by decide) (hts _ lk_X5_same_67) (fun _ h9 => h9) rfl dX5_same_60 ?_
          refine q_if_le hx hb (tgt := 68) (nI_le0 (by omega)) dX5_same_63 (by decide) (fun c_63 => ?_) (fun c_63 => ?_)
          · exact absurd c_63 (by decide)
          · refine lv_iconst (v := nI 0) hx hb dX5_same_66 (by decide) ?_
            exact W.iret (v := nI 0) hx hb hr (fun t ht hW => ⟨⟨_, (sU τ 0 0 3), rfl, (⟨rfl, rfl⟩), Wm.go hP hK hD ht hW⟩, hS.F ht⟩) hS.2.2 dX5_same_67
      · exact absurd hsu c_33
    · cases c_14
theorem lk_X5_same_50 : Cond.fieldLink RX5 50 "ArrayClaimsModel" "from" "[I" ∈ wsX5_same := by decide +kernel
theorem lk_X5_same_47 : Cond.fieldLink RX5 47 "ArrayClaimsModel" "holds" "[I" ∈ wsX5_same := by decide +kernel
def rX5_same_ok : Room := { frames := 3, cells := 0, slots := 0, locals := 75 }
set_option maxHeartbeats 4000000 in
set_option maxRecDepth 100000 in
theorem c_X5_same_ok (l : Launch) (D : va_G) (cI cZ : ClassId) (A : Nat → Prop) (ad : Nat → Nat) (τ : Nat → Nat → Nat) (t1 u1 : Nat) (hI : IM τ) (ht : t1 < τ 0 1) (hu : u1 < τ 0 1) (hsu : τ 2 t1 = τ 2 u1) (hch : chB τ (2 ^ (τ 0 15) - 1) = true) : Met l yX5_same wsX5_same rX5_same_ok (va_Pc [.ref (ad 0), .int (nI t1), .int (nI u1)] (Wm D cI cZ A ad τ)) (va_Qi (fun r u => ((r = nI 1 ∧ ∀ p r, InR p r → smY τ t1 u1 p r) ∨ (r = nI 2 ∧ (¬ ∀ p r, InR p r → smY τ t1 u1 p r) ∧ ∃ p r, InR p r ∧ smX τ t1 u1 p r) ∨ (r = nI 0 ∧ (¬ ∀ p r, InR p r → smY τ t1 u1 p r) ∧ ¬ ∃ p r, InR p r ∧ smX τ t1 u1 p r)) ∧ u = sU τ 0 0 0) (fun u t => Wm D cI cZ A ad u t) A) 0 0 A := by
  refine Met.ofW (cc := cX5_same) (maxL := 9) (ret := (some .int)) (by decide) rfl ?_
  intro p e s m args below meth c s₁ B hml hv
  obtain ⟨rfl, hP, hK, hD⟩ := hv
  have hx := B.exec
  have hb := B.bytes
  have hr := B.returns
  have hts := atoms_spec (ws := wsX5_same) B.pre
  have hown : s.vm.findClass RX5 = some m.cls := findClass_of_methodNamed B.named
  have hlocks := B.notSynchronized
  have hS : va_S A s.heap s.heap [] := va_S.rf
  have hl := lv_entry ([.ref (ad 0), .int (nI t1), .int (nI u1)]) (n := 9) (Nat.le_of_ble_eq_true rfl)
  rw [lg_entry_eq]
  generalize (lg_sl ([.ref (ad 0), .int (nI t1), .int (nI u1)]) ++ List.replicate (9 - (lg_sl ([.ref (ad 0), .int (nI t1), .int (nI u1)])).length) Slot.unset).toArray = ls at hl ⊢
  have hl : lv_has ls 9 [(0, .ref (ad 0)), (1, .int (nI t1)), (2, .int (nI u1))] := hl
  have hc := hI.terms
  have hs1 := hI.sorts (j := t1) (by omega)
  have hs2 := hI.sorts (j := u1) (by omega)
  have hcl := hI.claims
  have hp8 := pow8 hcl
  refine lv_aload_n hx hb dX5_same_0 rfl (lv_at hl 0 rfl) ?_
  refine lv_aload_n hx hb dX5_same_1 rfl (lv_at hl 0 rfl) ?_
  refine lv_iload_n hx hb dX5_same_2 rfl (lv_at hl 1 rfl) ?_
  refine vp_callSi (va_Run.run (va_runV (As := [.int (nI t1)]) (rest := [.ref (ad 0)]) ⟨hx, hb, hml, hown, hts⟩ (c_X5_isTerm_in l D cI cZ A ad τ t1 ht hc.2) (cwV 1 hts gX5_same_X5_isTerm rfl rfl rfl (by decide +kernel) ⟨Nat.le_of_ble_eq_true rfl, Nat.le_of_ble_eq_true rfl⟩) ⟨Wm.blind, va_recv hK hP (ci := 4) (q0 := 0) rfl rfl, fun U hU hW => ⟨rfl, Wm.go hP hK hD hU hW⟩⟩ rfl rfl hl.1 rfl (lv_room (Nat.le_of_ble_eq_true rfl)) dX5_same_3 ⟨Nat.zero_le _, Nat.zero_le _⟩)) (fun r_1 hr_1 => ?_)
  refine n_to (w := bI true) (hr_1.trans rfl) ?_
  refine q_if_eq hx hb (tgt := 17) (bI_z) dX5_same_6 (by decide) (fun c_6 => ?_) (fun c_6 => ?_)
  · cases c_6
  · refine lv_aload_n hx hb dX5_same_9 rfl (lv_at hl 0 rfl) ?_
    refine lv_iload_n hx hb dX5_same_10 rfl (lv_at hl 2 rfl) ?_
    refine vp_callSi (va_Run.run (va_runV (As := [.int (nI u1)]) (rest := [.ref (ad 0)]) ⟨hx, hb, hml, hown, hts⟩ (c_X5_isTerm_in l D cI cZ A ad τ u1 hu hc.2) (cwV 1 hts gX5_same_X5_isTerm rfl rfl rfl (by decide +kernel) ⟨Nat.le_of_ble_eq_true rfl, Nat.le_of_ble_eq_true rfl⟩) ⟨Wm.blind, va_recv hK hP (ci := 4) (q0 := 0) rfl rfl, fun U hU hW => ⟨rfl, Wm.go hP hK hD hU hW⟩⟩ rfl rfl hl.1 rfl (lv_room (Nat.le_of_ble_eq_true rfl)) dX5_same_11 ⟨Nat.zero_le _, Nat.zero_le _⟩)) (fun r_2 hr_2 => ?_)
    refine n_to (w := bI true) (hr_2.trans rfl) ?_
    refine q_if_ne hx hb (tgt := 21) (bI_z) dX5_same_14 (by decide) (fun c_14 => ?_) (fun c_14 => ?_)
    · refine lv_aload_n hx hb dX5_same_21 rfl (lv_at hl 0 rfl) ?_
      refine va_get (D := D) (ci := 4) (v := .ref (ad 2)) (C := RX5) (T := TX5) (N := 20) hx hb hts in_X5_same_X5 hown hK hP 0 rfl rfl 2 (by decide) (hts _ lk_X5_same_13) (fun _ h9 => h9) rfl dX5_same_22 ?_
      refine lv_iload_n hx hb dX5_same_25 rfl (lv_at hl 1 rfl) ?_
      refine n_ald hx hb hK hP 1 0 rfl rfl (i := t1) (by omega) (by decide) (v := nI (τ 2 t1)) rfl dX5_same_26 ?_
      refine lv_aload_n hx hb dX5_same_27 rfl (lv_at hl 0 rfl) ?_
      refine va_get (D := D) (ci := 4) (v := .ref (ad 2)) (C := RX5) (T := TX5) (N := 20) hx hb hts in_X5_same_X5 hown hK hP 0 rfl rfl 2 (by decide) (hts _ lk_X5_same_13) (fun _ h9 => h9) rfl dX5_same_28 ?_
      refine lv_iload_n hx hb dX5_same_31 rfl (lv_at hl 2 rfl) ?_
      refine n_ald hx hb hK hP 1 0 rfl rfl (i := u1) (by omega) (by decide) (v := nI (τ 2 u1)) rfl dX5_same_32 ?_
      refine q_icmp_eq hx hb (tgt := 40) (nI_eq (by omega) (by omega)) dX5_same_33 (by decide) (fun c_33 => ?_) (fun c_33 => ?_)
      · refine lv_aload_n hx hb dX5_same_40 rfl (lv_at hl 0 rfl) ?_
        refine lv_aload_n hx hb dX5_same_41 rfl (lv_at hl 0 rfl) ?_
        refine vp_callSi (va_Run.run (va_runV (As := []) (rest := [.ref (ad 0), .ref (ad 0)]) ⟨hx, hb, hml, hown, hts⟩ (c_X5_all l D cI cZ A ad τ hcl) (cwV 0 hts gX5_same_X5_all rfl rfl rfl (by decide +kernel) ⟨Nat.le_of_ble_eq_true rfl, Nat.le_of_ble_eq_true rfl⟩) ⟨Wm.blind, va_recv hK hP (ci := 4) (q0 := 0) rfl rfl, fun U hU hW => ⟨rfl, Wm.go hP hK hD hU hW⟩⟩ rfl rfl hl.1 rfl (lv_room (Nat.le_of_ble_eq_true rfl)) dX5_same_42 ⟨Nat.zero_le _, Nat.zero_le _⟩)) (fun r_3 hr_3 => ?_)
        refine n_to (w := nI (2 ^ (τ 0 15) - 1)) (hr_3.trans rfl) ?_
        refine vp_callSi (va_Run.run (va_runV (As := [.int (nI (2 ^ (τ 0 15) - 1))]) (rest := [.ref (ad 0)]) ⟨hx, hb, hml, hown, hts⟩ (c_X5_canHold l D cI cZ A ad τ (2 ^ (τ 0 15) - 1) hI (by omega)) (cwV 1 hts gX5_same_X5_canHold rfl rfl rfl (by decide +kernel) ⟨Nat.le_of_ble_eq_true rfl, Nat.le_of_ble_eq_true rfl⟩) ⟨Wm.blind, va_recv hK hP (ci := 4) (q0 := 0) rfl rfl, fun U hU hW => ⟨rfl, Wm.go hP hK hD hU hW⟩⟩ rfl rfl hl.1 rfl (lv_room (Nat.le_of_ble_eq_true rfl)) dX5_same_45 ⟨Nat.zero_le _, Nat.zero_le _⟩)) (fun r_4 hr_4 => ?_)
        refine n_to (w := bI (chB τ (2 ^ (τ 0 15) - 1))) (hr_4.trans rfl) ?_
        refine q_if_ne hx hb (tgt := 55) (bI_z) dX5_same_48 (by decide) (fun c_48 => ?_) (fun c_48 => ?_)
        · refine lv_iconst (v := nI 0) hx hb dX5_same_55 (by decide) ?_
          refine va_put (D := D) (ci := 4) (v := .int (nI 0)) (ty := .int) (C := RX5) (T := TX5) (N := 20) hx hb hts in_X5_same_X5 tyX5 tyX5_ok nmX5 hown hK hP hD hS 0 rfl rfl 0 (by decide) (hts _ lk_X5_same_67) (fun _ h9 => h9) rfl (by decide +kernel) rfl rfl (Nat.le_of_ble_eq_true rfl) dX5_same_56 (fun H locs hP hD hS => ?_)
          have hP : va_P D vwCl (WM ad cI cZ (sU τ 0 0 0)) H := hP
          have hD : va_D A (WM ad cI cZ (sU τ 0 0 0)) := hD
          refine lv_aload_n hx hb dX5_same_59 rfl (lv_at hl 0 rfl) ?_
          refine va_get (D := D) (ci := 4) (v := .int (nI 0)) (C := RX5) (T := TX5) (N := 20) hx hb hts in_X5_same_X5 hown hK hP 0 rfl rfl 0 (by decide) (hts _ lk_X5_same_67) (fun _ h9 => h9) rfl dX5_same_60 ?_
          refine q_if_le hx hb (tgt := 68) (nI_le0 (by omega)) dX5_same_63 (by decide) (fun c_63 => ?_) (fun c_63 => ?_)
          · refine lv_iconst (v := nI 0) hx hb dX5_same_68 (by decide) ?_
            refine lv_istore_n (lv' := [(3, .int (nI 0)), (0, .ref (ad 0)), (1, .int (nI t1)), (2, .int (nI u1))]) hx hb dX5_same_69 rfl hl (by decide) rfl (fun ls hl => ?_)
            refine lv_iconst (v := nI 1) hx hb dX5_same_70 (by decide) ?_
            refine lv_istore (lv' := [(4, .int (nI 1)), (3, .int (nI 0)), (0, .ref (ad 0)), (1, .int (nI t1)), (2, .int (nI u1))]) hx hb dX5_same_71 hl (by decide) rfl (fun ls hl => ?_)
            refine lv_aload_n hx hb dX5_same_73 rfl (lv_at hl 2 rfl) ?_
            refine vp_callSi (va_Run.run (va_runV (As := []) (rest := []) ⟨hx, hb, hml, hown, hts⟩ (c_X5_all l D cI cZ A ad (sU τ 0 0 0) hcl) (cwV 0 hts gX5_same_X5_all rfl rfl rfl (by decide +kernel) ⟨Nat.le_of_ble_eq_true rfl, Nat.le_of_ble_eq_true rfl⟩) ⟨Wm.blind, va_recv hK hP (ci := 4) (q0 := 0) rfl rfl, fun U hU hW => ⟨rfl, Wm.go hP hK hD hU hW⟩⟩ rfl rfl hl.1 rfl (lv_room (Nat.le_of_ble_eq_true rfl)) dX5_same_74 ⟨Nat.zero_le _, Nat.zero_le _⟩)) (fun r_5 hr_5 => ?_)
            refine n_to (w := nI (2 ^ (τ 0 15) - 1)) (hr_5.trans rfl) ?_
            refine lv_istore (lv' := [(5, .int (nI (2 ^ (τ 0 15) - 1))), (4, .int (nI 1)), (3, .int (nI 0)), (0, .ref (ad 0)), (1, .int (nI t1)), (2, .int (nI u1))]) hx hb dX5_same_77 hl (by decide) rfl (fun ls hl => ?_)
            refine lv_iconst (v := nI 0) hx hb dX5_same_79 (by decide) ?_
            refine lv_istore (lv' := [(6, .int (nI 0)), (5, .int (nI (2 ^ (τ 0 15) - 1))), (4, .int (nI 1)), (3, .int (nI 0)), (0, .ref (ad 0)), (1, .int (nI t1)), (2, .int (nI u1))]) hx hb dX5_same_80 hl (by decide) rfl (fun ls hl => ?_)
            have lp82 : ∀ (n : Nat) (p1 : Nat) (so : Bool) (ev : Bool) (ls : Array Slot), (p1 + n = 5) → (so = true ↔ ∃ p r, Vis p1 0 p r ∧ smX τ t1 u1 p r) → (ev = true ↔ ∀ p r, Vis p1 0 p r → smY τ t1 u1 p r) → lv_has ls 9 [(6, .int (nI p1)), (3, .int (bI so)), (4, .int (bI ev)), (5, .int (nI (2 ^ (τ 0 15) - 1))), (0, .ref (ad 0)), (1, .int (nI t1)), (2, .int (nI u1))] → W p l e rX5_same_ok s m (([.ref (ad 0), .int (nI t1), .int (nI u1)] : List Value).toArray) below meth c H locs 0 0 (MQ below (va_Qi (fun r u => ((r = nI 1 ∧ ∀ p r, InR p r → smY τ t1 u1 p r) ∨ (r = nI 2 ∧ (¬ ∀ p r, InR p r → smY τ t1 u1 p r) ∧ ∃ p r, InR p r ∧ smX τ t1 u1 p r) ∨ (r = nI 0 ∧ (¬ ∀ p r, InR p r → smY τ t1 u1 p r) ∧ ¬ ∃ p r, InR p r ∧ smX τ t1 u1 p r)) ∧ u = sU τ 0 0 0) (fun u t => Wm D cI cZ A ad u t) A) (([.ref (ad 0), .int (nI t1), .int (nI u1)] : List Value).toArray) s 0 0 A) (F0 m 82 ls []) := by
              intro n
              induction n with
              | zero =>
                intro p1 so ev ls hF1 hso hev hl
                obtain rfl : p1 = 5 := by omega
                simp only [vis_5] at hso hev
                refine lv_iload hx hb dX5_same_82 (lv_at hl 0 rfl) ?_
                refine lv_iconst (v := nI 5) hx hb dX5_same_84 (by decide) ?_
                refine n_icmp_ge hx hb (tgt := 182) (by omega) (by omega) dX5_same_85 (by decide) (fun c_85 => ?_) (fun c_85 => ?_)
                · refine lv_iload hx hb dX5_same_182 (lv_at hl 2 rfl) ?_
                  refine q_if_eq hx hb (tgt := 191) (bI_z) dX5_same_184 (by decide) (fun c_184 => ?_) (fun c_184 => ?_)
                  · refine lv_iload_n hx hb dX5_same_191 rfl (lv_at hl 1 rfl) ?_
                    refine q_if_eq hx hb (tgt := 199) (bI_z) dX5_same_192 (by decide) (fun c_192 => ?_) (fun c_192 => ?_)
                    · refine lv_iconst (v := nI 0) hx hb dX5_same_199 (by decide) ?_
                      exact W.iret (v := nI 0) hx hb hr (fun t ht hW => ⟨⟨_, (sU τ 0 0 0), rfl, (⟨by first | exact Or.inl ⟨rfl, fun p r q => hev.mp (ts_nf c_184) p r q⟩ | exact Or.inr (Or.inl ⟨rfl, fun q => ts_ff c_184 (hev.mpr (fun p r z => q p r z)), hso.mp (ts_nf c_192)⟩) | exact Or.inr (Or.inr ⟨rfl, fun q => ts_ff c_184 (hev.mpr (fun p r z => q p r z)), fun q => ts_ff c_192 (hso.mpr q)⟩), rfl⟩), Wm.go hP hK hD ht hW⟩, hS.F ht⟩) hS.2.2 dX5_same_200
                    · refine lv_iconst (v := nI 2) hx hb dX5_same_195 (by decide) ?_
                      refine lv_goto (tgt := 200) hx hb dX5_same_196 (by decide) ?_
                      exact W.iret (v := nI 2) hx hb hr (fun t ht hW => ⟨⟨_, (sU τ 0 0 0), rfl, (⟨by first | exact Or.inl ⟨rfl, fun p r q => hev.mp (ts_nf c_184) p r q⟩ | exact Or.inr (Or.inl ⟨rfl, fun q => ts_ff c_184 (hev.mpr (fun p r z => q p r z)), hso.mp (ts_nf c_192)⟩) | exact Or.inr (Or.inr ⟨rfl, fun q => ts_ff c_184 (hev.mpr (fun p r z => q p r z)), fun q => ts_ff c_192 (hso.mpr q)⟩), rfl⟩), Wm.go hP hK hD ht hW⟩, hS.F ht⟩) hS.2.2 dX5_same_200
                  · refine lv_iconst (v := nI 1) hx hb dX5_same_187 (by decide) ?_
                    refine lv_goto (tgt := 200) hx hb dX5_same_188 (by decide) ?_
                    exact W.iret (v := nI 1) hx hb hr (fun t ht hW => ⟨⟨_, (sU τ 0 0 0), rfl, (⟨by first | exact Or.inl ⟨rfl, fun p r q => hev.mp (ts_nf c_184) p r q⟩ | exact Or.inr (Or.inl ⟨rfl, fun q => ts_ff c_184 (hev.mpr (fun p r z => q p r z)), hso.mp (ts_nf c_192)⟩) | exact Or.inr (Or.inr ⟨rfl, fun q => ts_ff c_184 (hev.mpr (fun p r z => q p r z)), fun q => ts_ff c_192 (hso.mpr q)⟩), rfl⟩), Wm.go hP hK hD ht hW⟩, hS.F ht⟩) hS.2.2 dX5_same_200
                · omega
              | succ n ih82 =>
                intro p1 so ev ls hF1 hso hev hl
                have hfr0 : τ 14 p1 = frT p1 := hI.from (by omega)
                have hfr1 : τ 14 (p1 + 1) = frT (p1 + 1) := hI.from (by omega)
                have htb := tab_ok p1 (by omega)
                refine lv_iload hx hb dX5_same_82 (lv_at hl 0 rfl) ?_
                refine lv_iconst (v := nI 5) hx hb dX5_same_84 (by decide) ?_
                refine n_icmp_ge hx hb (tgt := 182) (by omega) (by omega) dX5_same_85 (by decide) (fun c_85 => ?_) (fun c_85 => ?_)
                · omega
                · refine lv_aload_n hx hb dX5_same_88 rfl (lv_at hl 4 rfl) ?_
                  refine va_get (D := D) (ci := 4) (v := .ref (ad 14)) (C := RX5) (T := TX5) (N := 20) hx hb hts in_X5_same_X5 hown hK hP 0 rfl rfl 14 (by decide) (hts _ lk_X5_same_50) (fun _ h9 => h9) rfl dX5_same_89 ?_
                  refine lv_iload hx hb dX5_same_92 (lv_at hl 0 rfl) ?_
                  refine n_ald hx hb hK hP 13 0 rfl rfl (i := p1) (by omega) (by decide) (v := nI (τ 14 p1)) rfl dX5_same_94 ?_
                  refine n_to (w := nI (frT p1)) (by rw [hfr0]) ?_
                  refine lv_istore (lv' := [(7, .int (nI (frT p1))), (6, .int (nI p1)), (3, .int (bI so)), (4, .int (bI ev)), (5, .int (nI (2 ^ (τ 0 15) - 1))), (0, .ref (ad 0)), (1, .int (nI t1)), (2, .int (nI u1))]) hx hb dX5_same_95 hl (by decide) rfl (fun ls hl => ?_)
                  have lp97 : ∀ (n : Nat) (r1 : Nat) (so : Bool) (ev : Bool) (ls : Array Slot), (r1 + n = frT (p1 + 1) ∧ frT p1 ≤ r1) → (so = true ↔ ∃ p r, Vis p1 r1 p r ∧ smX τ t1 u1 p r) → (ev = true ↔ ∀ p r, Vis p1 r1 p r → smY τ t1 u1 p r) → lv_has ls 9 [(7, .int (nI r1)), (3, .int (bI so)), (4, .int (bI ev)), (6, .int (nI p1)), (5, .int (nI (2 ^ (τ 0 15) - 1))), (0, .ref (ad 0)), (1, .int (nI t1)), (2, .int (nI u1))] → W p l e rX5_same_ok s m (([.ref (ad 0), .int (nI t1), .int (nI u1)] : List Value).toArray) below meth c H locs 0 0 (MQ below (va_Qi (fun r u => ((r = nI 1 ∧ ∀ p r, InR p r → smY τ t1 u1 p r) ∨ (r = nI 2 ∧ (¬ ∀ p r, InR p r → smY τ t1 u1 p r) ∧ ∃ p r, InR p r ∧ smX τ t1 u1 p r) ∨ (r = nI 0 ∧ (¬ ∀ p r, InR p r → smY τ t1 u1 p r) ∧ ¬ ∃ p r, InR p r ∧ smX τ t1 u1 p r)) ∧ u = sU τ 0 0 0) (fun u t => Wm D cI cZ A ad u t) A) (([.ref (ad 0), .int (nI t1), .int (nI u1)] : List Value).toArray) s 0 0 A) (F0 m 97 ls []) := by
                    intro n
                    induction n with
                    | zero =>
                      intro r1 so ev ls hF2 hso hev hl
                      refine lv_iload hx hb dX5_same_97 (lv_at hl 0 rfl) ?_
                      refine lv_aload_n hx hb dX5_same_99 rfl (lv_at hl 5 rfl) ?_
                      refine va_get (D := D) (ci := 4) (v := .ref (ad 14)) (C := RX5) (T := TX5) (N := 20) hx hb hts in_X5_same_X5 hown hK hP 0 rfl rfl 14 (by decide) (hts _ lk_X5_same_50) (fun _ h9 => h9) rfl dX5_same_100 ?_
                      refine lv_iload hx hb dX5_same_103 (lv_at hl 3 rfl) ?_
                      refine lv_iconst (v := nI 1) hx hb dX5_same_105 (by decide) ?_
                      refine n_add hx hb dX5_same_106 ?_
                      refine n_ald hx hb hK hP 13 0 rfl rfl (i := p1 + 1) (by omega) (by decide) (v := nI (τ 14 (p1 + 1))) rfl dX5_same_107 ?_
                      refine n_to (w := nI (frT (p1 + 1))) (by rw [hfr1]) ?_
                      refine n_icmp_ge hx hb (tgt := 176) (by omega) (by omega) dX5_same_108 (by decide) (fun c_108 => ?_) (fun c_108 => ?_)
                      · refine lv_iinc (v := nI (p1 + 1)) (lv' := [(6, .int (nI (p1 + 1))), (7, .int (nI r1)), (3, .int (bI so)), (4, .int (bI ev)), (5, .int (nI (2 ^ (τ 0 15) - 1))), (0, .ref (ad 0)), (1, .int (nI t1)), (2, .int (nI u1))]) hx hb dX5_same_176 hl (k := 3) rfl (nI_add _ _) (by decide) rfl (fun ls hl => ?_)
                        refine lv_goto (tgt := 82) hx hb dX5_same_179 (by decide) ?_
                        exact ih82 (p1 + 1) so ev  _  (by omega) (so_out (by omega) hso) (ev_out (by omega) hev) (lv_sub hl [0, 2, 3, 4, 5, 6, 7] rfl)
                      · omega
                    | succ n ih97 =>
                      intro r1 so ev ls hF2 hso hev hl
                      refine lv_iload hx hb dX5_same_97 (lv_at hl 0 rfl) ?_
                      refine lv_aload_n hx hb dX5_same_99 rfl (lv_at hl 5 rfl) ?_
                      refine va_get (D := D) (ci := 4) (v := .ref (ad 14)) (C := RX5) (T := TX5) (N := 20) hx hb hts in_X5_same_X5 hown hK hP 0 rfl rfl 14 (by decide) (hts _ lk_X5_same_50) (fun _ h9 => h9) rfl dX5_same_100 ?_
                      refine lv_iload hx hb dX5_same_103 (lv_at hl 3 rfl) ?_
                      refine lv_iconst (v := nI 1) hx hb dX5_same_105 (by decide) ?_
                      refine n_add hx hb dX5_same_106 ?_
                      refine n_ald hx hb hK hP 13 0 rfl rfl (i := p1 + 1) (by omega) (by decide) (v := nI (τ 14 (p1 + 1))) rfl dX5_same_107 ?_
                      refine n_to (w := nI (frT (p1 + 1))) (by rw [hfr1]) ?_
                      refine n_icmp_ge hx hb (tgt := 176) (by omega) (by omega) dX5_same_108 (by decide) (fun c_108 => ?_) (fun c_108 => ?_)
                      · omega
                      · refine lv_aload_n hx hb dX5_same_111 rfl (lv_at hl 5 rfl) ?_
                        refine va_get (D := D) (ci := 4) (v := .ref (ad 13)) (C := RX5) (T := TX5) (N := 20) hx hb hts in_X5_same_X5 hown hK hP 0 rfl rfl 13 (by decide) (hts _ lk_X5_same_47) (fun _ h9 => h9) rfl dX5_same_112 ?_
                        refine lv_iload hx hb dX5_same_115 (lv_at hl 0 rfl) ?_
                        refine n_ald hx hb hK hP 12 0 rfl rfl (i := r1) (by omega) (by decide) (v := nI (τ 13 r1)) rfl dX5_same_117 ?_
                        refine lv_iload hx hb dX5_same_118 (lv_at hl 4 rfl) ?_
                        refine lv_iand hx hb dX5_same_120 ?_
                        refine n_to (w := nI (τ 13 r1 &&& (2 ^ (τ 0 15) - 1))) (nx_and _ _) ?_
                        refine lv_iload hx hb dX5_same_121 (lv_at hl 4 rfl) ?_
                        refine q_icmp_ne hx hb (tgt := 170) (nI_eq (by have := and_lt (b := 2 ^ (τ 0 15) - 1) (hI.holds (j := r1) (by omega)); omega) (by omega)) dX5_same_123 (by decide) (fun c_123 => ?_) (fun c_123 => ?_)
                        · refine lv_iinc (v := nI (r1 + 1)) (lv' := [(7, .int (nI (r1 + 1))), (3, .int (bI so)), (4, .int (bI ev)), (6, .int (nI p1)), (5, .int (nI (2 ^ (τ 0 15) - 1))), (0, .ref (ad 0)), (1, .int (nI t1)), (2, .int (nI u1))]) hx hb dX5_same_170 hl (k := 0) rfl (nI_add _ _) (by decide) rfl (fun ls hl => ?_)
                          refine lv_goto (tgt := 97) hx hb dX5_same_173 (by decide) ?_
                          exact ih97 (r1 + 1) so ev  _  (by omega) (so_add (by omega) hF2.2 (by omega) hso ⟨fun q => Or.inl q, fun q => q.elim id (fun z => absurd z.1 c_123)⟩) (ev_add (by omega) hF2.2 (by omega) hev ⟨fun q => ⟨q, fun z => absurd z c_123⟩, fun q => q.1⟩) (lv_sub hl [0, 1, 2, 3, 4, 5, 6, 7] rfl)
                        · refine lv_aload_n hx hb dX5_same_126 rfl (lv_at hl 5 rfl) ?_
                          refine lv_iload_n hx hb dX5_same_127 rfl (lv_at hl 6 rfl) ?_
                          refine lv_iload_n hx hb dX5_same_128 rfl (lv_at hl 7 rfl) ?_
                          refine lv_iload hx hb dX5_same_129 (lv_at hl 3 rfl) ?_
                          refine lv_iload hx hb dX5_same_131 (lv_at hl 0 rfl) ?_
                          refine vp_callSi (va_Run.run (va_runV (As := [.int (nI t1), .int (nI u1), .int (nI p1), .int (nI r1)]) (rest := []) ⟨hx, hb, hml, hown, hts⟩ (c_X5_sameIn l D cI cZ A ad (sU τ 0 0 0) t1 u1 p1 r1 (hI.thr 0) (by omega) (by omega) (by omega) hF2.2 (by omega) hsu.symm) (cwV 4 hts gX5_same_X5_sameIn rfl rfl rfl (by decide +kernel) ⟨Nat.le_of_ble_eq_true rfl, Nat.le_of_ble_eq_true rfl⟩) ⟨Wm.blind, va_recv hK hP (ci := 4) (q0 := 0) rfl rfl, fun U hU hW => ⟨rfl, Wm.go hP hK hD hU hW⟩⟩ rfl rfl hl.1 rfl (lv_room (Nat.le_of_ble_eq_true rfl)) dX5_same_133 ⟨Nat.zero_le _, Nat.zero_le _⟩)) (fun r_6 hr_6 => ?_)
                          refine n_to (w := bI (siB τ t1 u1 p1 r1)) (hr_6.trans (congrArg bI (siB_thr ..))) ?_
                          refine lv_istore (lv' := [(8, .int (bI (siB τ t1 u1 p1 r1))), (7, .int (nI r1)), (3, .int (bI so)), (4, .int (bI ev)), (6, .int (nI p1)), (5, .int (nI (2 ^ (τ 0 15) - 1))), (0, .ref (ad 0)), (1, .int (nI t1)), (2, .int (nI u1))]) hx hb dX5_same_136 hl (by decide) rfl (fun ls hl => ?_)
                          refine lv_iload_n hx hb dX5_same_138 rfl (lv_at hl 2 rfl) ?_
                          refine q_if_ne hx hb (tgt := 147) (bI_z) dX5_same_139 (by decide) (fun c_139 => ?_) (fun c_139 => ?_)
                          · refine lv_iconst (v := nI 1) hx hb dX5_same_147 (by decide) ?_
                            refine lv_goto (tgt := 152) hx hb dX5_same_148 (by decide) ?_
                            refine lv_istore_n (lv' := [(3, .int (nI 1)), (8, .int (bI (siB τ t1 u1 p1 r1))), (7, .int (nI r1)), (4, .int (bI ev)), (6, .int (nI p1)), (5, .int (nI (2 ^ (τ 0 15) - 1))), (0, .ref (ad 0)), (1, .int (nI t1)), (2, .int (nI u1))]) hx hb dX5_same_152 rfl hl (by decide) rfl (fun ls hl => ?_)
                            refine lv_iload hx hb dX5_same_153 (lv_at hl 3 rfl) ?_
                            refine q_if_eq hx hb (tgt := 167) (bI_z) dX5_same_155 (by decide) (fun c_155 => ?_) (fun c_155 => ?_)
                            · refine lv_iconst (v := nI 0) hx hb dX5_same_167 (by decide) ?_
                              refine lv_istore (lv' := [(4, .int (nI 0)), (3, .int (nI 1)), (8, .int (bI (siB τ t1 u1 p1 r1))), (7, .int (nI r1)), (6, .int (nI p1)), (5, .int (nI (2 ^ (τ 0 15) - 1))), (0, .ref (ad 0)), (1, .int (nI t1)), (2, .int (nI u1))]) hx hb dX5_same_168 hl (by decide) rfl (fun ls hl => ?_)
                              refine lv_iinc (v := nI (r1 + 1)) (lv' := [(7, .int (nI (r1 + 1))), (4, .int (nI 0)), (3, .int (nI 1)), (8, .int (bI (siB τ t1 u1 p1 r1))), (6, .int (nI p1)), (5, .int (nI (2 ^ (τ 0 15) - 1))), (0, .ref (ad 0)), (1, .int (nI t1)), (2, .int (nI u1))]) hx hb dX5_same_170 hl (k := 3) rfl (nI_add _ _) (by decide) rfl (fun ls hl => ?_)
                              refine lv_goto (tgt := 97) hx hb dX5_same_173 (by decide) ?_
                              exact ih97 (r1 + 1) true false  _  (by omega) (so_add (by omega) hF2.2 (by omega) hso (by unfold smX HS SetA; simp_all)) (ev_add (by omega) hF2.2 (by omega) hev (by unfold smY HS SetA; simp_all)) (lv_sub hl [0, 2, 1, 4, 5, 6, 7, 8] rfl)
                            · refine lv_iload hx hb dX5_same_158 (lv_at hl 1 rfl) ?_
                              refine q_if_eq hx hb (tgt := 167) (bI_z) dX5_same_160 (by decide) (fun c_160 => ?_) (fun c_160 => ?_)
                              · refine lv_iconst (v := nI 0) hx hb dX5_same_167 (by decide) ?_
                                refine lv_istore (lv' := [(4, .int (nI 0)), (3, .int (nI 1)), (8, .int (bI (siB τ t1 u1 p1 r1))), (7, .int (nI r1)), (6, .int (nI p1)), (5, .int (nI (2 ^ (τ 0 15) - 1))), (0, .ref (ad 0)), (1, .int (nI t1)), (2, .int (nI u1))]) hx hb dX5_same_168 hl (by decide) rfl (fun ls hl => ?_)
                                refine lv_iinc (v := nI (r1 + 1)) (lv' := [(7, .int (nI (r1 + 1))), (4, .int (nI 0)), (3, .int (nI 1)), (8, .int (bI (siB τ t1 u1 p1 r1))), (6, .int (nI p1)), (5, .int (nI (2 ^ (τ 0 15) - 1))), (0, .ref (ad 0)), (1, .int (nI t1)), (2, .int (nI u1))]) hx hb dX5_same_170 hl (k := 3) rfl (nI_add _ _) (by decide) rfl (fun ls hl => ?_)
                                refine lv_goto (tgt := 97) hx hb dX5_same_173 (by decide) ?_
                                exact ih97 (r1 + 1) true false  _  (by omega) (so_add (by omega) hF2.2 (by omega) hso (by unfold smX HS SetA; simp_all)) (ev_add (by omega) hF2.2 (by omega) hev (by unfold smY HS SetA; simp_all)) (lv_sub hl [0, 2, 1, 4, 5, 6, 7, 8] rfl)
                              · refine lv_iconst (v := nI 1) hx hb dX5_same_163 (by decide) ?_
                                refine lv_goto (tgt := 168) hx hb dX5_same_164 (by decide) ?_
                                refine lv_istore (lv' := [(4, .int (nI 1)), (3, .int (nI 1)), (8, .int (bI (siB τ t1 u1 p1 r1))), (7, .int (nI r1)), (6, .int (nI p1)), (5, .int (nI (2 ^ (τ 0 15) - 1))), (0, .ref (ad 0)), (1, .int (nI t1)), (2, .int (nI u1))]) hx hb dX5_same_168 hl (by decide) rfl (fun ls hl => ?_)
                                refine lv_iinc (v := nI (r1 + 1)) (lv' := [(7, .int (nI (r1 + 1))), (4, .int (nI 1)), (3, .int (nI 1)), (8, .int (bI (siB τ t1 u1 p1 r1))), (6, .int (nI p1)), (5, .int (nI (2 ^ (τ 0 15) - 1))), (0, .ref (ad 0)), (1, .int (nI t1)), (2, .int (nI u1))]) hx hb dX5_same_170 hl (k := 3) rfl (nI_add _ _) (by decide) rfl (fun ls hl => ?_)
                                refine lv_goto (tgt := 97) hx hb dX5_same_173 (by decide) ?_
                                exact ih97 (r1 + 1) true true  _  (by omega) (so_add (by omega) hF2.2 (by omega) hso (by unfold smX HS SetA; simp_all)) (ev_add (by omega) hF2.2 (by omega) hev (by unfold smY HS SetA; simp_all)) (lv_sub hl [0, 2, 1, 4, 5, 6, 7, 8] rfl)
                          · refine lv_iload hx hb dX5_same_142 (lv_at hl 0 rfl) ?_
                            refine q_if_eq hx hb (tgt := 151) (bI_z) dX5_same_144 (by decide) (fun c_144 => ?_) (fun c_144 => ?_)
                            · refine lv_iconst (v := nI 0) hx hb dX5_same_151 (by decide) ?_
                              refine lv_istore_n (lv' := [(3, .int (nI 0)), (8, .int (bI (siB τ t1 u1 p1 r1))), (7, .int (nI r1)), (4, .int (bI ev)), (6, .int (nI p1)), (5, .int (nI (2 ^ (τ 0 15) - 1))), (0, .ref (ad 0)), (1, .int (nI t1)), (2, .int (nI u1))]) hx hb dX5_same_152 rfl hl (by decide) rfl (fun ls hl => ?_)
                              refine lv_iload hx hb dX5_same_153 (lv_at hl 3 rfl) ?_
                              refine q_if_eq hx hb (tgt := 167) (bI_z) dX5_same_155 (by decide) (fun c_155 => ?_) (fun c_155 => ?_)
                              · refine lv_iconst (v := nI 0) hx hb dX5_same_167 (by decide) ?_
                                refine lv_istore (lv' := [(4, .int (nI 0)), (3, .int (nI 0)), (8, .int (bI (siB τ t1 u1 p1 r1))), (7, .int (nI r1)), (6, .int (nI p1)), (5, .int (nI (2 ^ (τ 0 15) - 1))), (0, .ref (ad 0)), (1, .int (nI t1)), (2, .int (nI u1))]) hx hb dX5_same_168 hl (by decide) rfl (fun ls hl => ?_)
                                refine lv_iinc (v := nI (r1 + 1)) (lv' := [(7, .int (nI (r1 + 1))), (4, .int (nI 0)), (3, .int (nI 0)), (8, .int (bI (siB τ t1 u1 p1 r1))), (6, .int (nI p1)), (5, .int (nI (2 ^ (τ 0 15) - 1))), (0, .ref (ad 0)), (1, .int (nI t1)), (2, .int (nI u1))]) hx hb dX5_same_170 hl (k := 3) rfl (nI_add _ _) (by decide) rfl (fun ls hl => ?_)
                                refine lv_goto (tgt := 97) hx hb dX5_same_173 (by decide) ?_
                                exact ih97 (r1 + 1) false false  _  (by omega) (so_add (by omega) hF2.2 (by omega) hso (by unfold smX HS SetA; simp_all)) (ev_add (by omega) hF2.2 (by omega) hev (by unfold smY HS SetA; simp_all)) (lv_sub hl [0, 2, 1, 4, 5, 6, 7, 8] rfl)
                              · refine lv_iload hx hb dX5_same_158 (lv_at hl 1 rfl) ?_
                                refine q_if_eq hx hb (tgt := 167) (bI_z) dX5_same_160 (by decide) (fun c_160 => ?_) (fun c_160 => ?_)
                                · refine lv_iconst (v := nI 0) hx hb dX5_same_167 (by decide) ?_
                                  refine lv_istore (lv' := [(4, .int (nI 0)), (3, .int (nI 0)), (8, .int (bI (siB τ t1 u1 p1 r1))), (7, .int (nI r1)), (6, .int (nI p1)), (5, .int (nI (2 ^ (τ 0 15) - 1))), (0, .ref (ad 0)), (1, .int (nI t1)), (2, .int (nI u1))]) hx hb dX5_same_168 hl (by decide) rfl (fun ls hl => ?_)
                                  refine lv_iinc (v := nI (r1 + 1)) (lv' := [(7, .int (nI (r1 + 1))), (4, .int (nI 0)), (3, .int (nI 0)), (8, .int (bI (siB τ t1 u1 p1 r1))), (6, .int (nI p1)), (5, .int (nI (2 ^ (τ 0 15) - 1))), (0, .ref (ad 0)), (1, .int (nI t1)), (2, .int (nI u1))]) hx hb dX5_same_170 hl (k := 3) rfl (nI_add _ _) (by decide) rfl (fun ls hl => ?_)
                                  refine lv_goto (tgt := 97) hx hb dX5_same_173 (by decide) ?_
                                  exact ih97 (r1 + 1) false false  _  (by omega) (so_add (by omega) hF2.2 (by omega) hso (by unfold smX HS SetA; simp_all)) (ev_add (by omega) hF2.2 (by omega) hev (by unfold smY HS SetA; simp_all)) (lv_sub hl [0, 2, 1, 4, 5, 6, 7, 8] rfl)
                                · refine lv_iconst (v := nI 1) hx hb dX5_same_163 (by decide) ?_
                                  refine lv_goto (tgt := 168) hx hb dX5_same_164 (by decide) ?_
                                  refine lv_istore (lv' := [(4, .int (nI 1)), (3, .int (nI 0)), (8, .int (bI (siB τ t1 u1 p1 r1))), (7, .int (nI r1)), (6, .int (nI p1)), (5, .int (nI (2 ^ (τ 0 15) - 1))), (0, .ref (ad 0)), (1, .int (nI t1)), (2, .int (nI u1))]) hx hb dX5_same_168 hl (by decide) rfl (fun ls hl => ?_)
                                  refine lv_iinc (v := nI (r1 + 1)) (lv' := [(7, .int (nI (r1 + 1))), (4, .int (nI 1)), (3, .int (nI 0)), (8, .int (bI (siB τ t1 u1 p1 r1))), (6, .int (nI p1)), (5, .int (nI (2 ^ (τ 0 15) - 1))), (0, .ref (ad 0)), (1, .int (nI t1)), (2, .int (nI u1))]) hx hb dX5_same_170 hl (k := 3) rfl (nI_add _ _) (by decide) rfl (fun ls hl => ?_)
                                  refine lv_goto (tgt := 97) hx hb dX5_same_173 (by decide) ?_
                                  exact ih97 (r1 + 1) false true  _  (by omega) (so_add (by omega) hF2.2 (by omega) hso (by unfold smX HS SetA; simp_all)) (ev_add (by omega) hF2.2 (by omega) hev (by unfold smY HS SetA; simp_all)) (lv_sub hl [0, 2, 1, 4, 5, 6, 7, 8] rfl)
                            · refine lv_iconst (v := nI 1) hx hb dX5_same_147 (by decide) ?_
                              refine lv_goto (tgt := 152) hx hb dX5_same_148 (by decide) ?_
                              refine lv_istore_n (lv' := [(3, .int (nI 1)), (8, .int (bI (siB τ t1 u1 p1 r1))), (7, .int (nI r1)), (4, .int (bI ev)), (6, .int (nI p1)), (5, .int (nI (2 ^ (τ 0 15) - 1))), (0, .ref (ad 0)), (1, .int (nI t1)), (2, .int (nI u1))]) hx hb dX5_same_152 rfl hl (by decide) rfl (fun ls hl => ?_)
                              refine lv_iload hx hb dX5_same_153 (lv_at hl 3 rfl) ?_
                              refine q_if_eq hx hb (tgt := 167) (bI_z) dX5_same_155 (by decide) (fun c_155 => ?_) (fun c_155 => ?_)
                              · refine lv_iconst (v := nI 0) hx hb dX5_same_167 (by decide) ?_
                                refine lv_istore (lv' := [(4, .int (nI 0)), (3, .int (nI 1)), (8, .int (bI (siB τ t1 u1 p1 r1))), (7, .int (nI r1)), (6, .int (nI p1)), (5, .int (nI (2 ^ (τ 0 15) - 1))), (0, .ref (ad 0)), (1, .int (nI t1)), (2, .int (nI u1))]) hx hb dX5_same_168 hl (by decide) rfl (fun ls hl => ?_)
                                refine lv_iinc (v := nI (r1 + 1)) (lv' := [(7, .int (nI (r1 + 1))), (4, .int (nI 0)), (3, .int (nI 1)), (8, .int (bI (siB τ t1 u1 p1 r1))), (6, .int (nI p1)), (5, .int (nI (2 ^ (τ 0 15) - 1))), (0, .ref (ad 0)), (1, .int (nI t1)), (2, .int (nI u1))]) hx hb dX5_same_170 hl (k := 3) rfl (nI_add _ _) (by decide) rfl (fun ls hl => ?_)
                                refine lv_goto (tgt := 97) hx hb dX5_same_173 (by decide) ?_
                                exact ih97 (r1 + 1) true false  _  (by omega) (so_add (by omega) hF2.2 (by omega) hso (by unfold smX HS SetA; simp_all)) (ev_add (by omega) hF2.2 (by omega) hev (by unfold smY HS SetA; simp_all)) (lv_sub hl [0, 2, 1, 4, 5, 6, 7, 8] rfl)
                              · refine lv_iload hx hb dX5_same_158 (lv_at hl 1 rfl) ?_
                                refine q_if_eq hx hb (tgt := 167) (bI_z) dX5_same_160 (by decide) (fun c_160 => ?_) (fun c_160 => ?_)
                                · refine lv_iconst (v := nI 0) hx hb dX5_same_167 (by decide) ?_
                                  refine lv_istore (lv' := [(4, .int (nI 0)), (3, .int (nI 1)), (8, .int (bI (siB τ t1 u1 p1 r1))), (7, .int (nI r1)), (6, .int (nI p1)), (5, .int (nI (2 ^ (τ 0 15) - 1))), (0, .ref (ad 0)), (1, .int (nI t1)), (2, .int (nI u1))]) hx hb dX5_same_168 hl (by decide) rfl (fun ls hl => ?_)
                                  refine lv_iinc (v := nI (r1 + 1)) (lv' := [(7, .int (nI (r1 + 1))), (4, .int (nI 0)), (3, .int (nI 1)), (8, .int (bI (siB τ t1 u1 p1 r1))), (6, .int (nI p1)), (5, .int (nI (2 ^ (τ 0 15) - 1))), (0, .ref (ad 0)), (1, .int (nI t1)), (2, .int (nI u1))]) hx hb dX5_same_170 hl (k := 3) rfl (nI_add _ _) (by decide) rfl (fun ls hl => ?_)
                                  refine lv_goto (tgt := 97) hx hb dX5_same_173 (by decide) ?_
                                  exact ih97 (r1 + 1) true false  _  (by omega) (so_add (by omega) hF2.2 (by omega) hso (by unfold smX HS SetA; simp_all)) (ev_add (by omega) hF2.2 (by omega) hev (by unfold smY HS SetA; simp_all)) (lv_sub hl [0, 2, 1, 4, 5, 6, 7, 8] rfl)
                                · refine lv_iconst (v := nI 1) hx hb dX5_same_163 (by decide) ?_
                                  refine lv_goto (tgt := 168) hx hb dX5_same_164 (by decide) ?_
                                  refine lv_istore (lv' := [(4, .int (nI 1)), (3, .int (nI 1)), (8, .int (bI (siB τ t1 u1 p1 r1))), (7, .int (nI r1)), (6, .int (nI p1)), (5, .int (nI (2 ^ (τ 0 15) - 1))), (0, .ref (ad 0)), (1, .int (nI t1)), (2, .int (nI u1))]) hx hb dX5_same_168 hl (by decide) rfl (fun ls hl => ?_)
                                  refine lv_iinc (v := nI (r1 + 1)) (lv' := [(7, .int (nI (r1 + 1))), (4, .int (nI 1)), (3, .int (nI 1)), (8, .int (bI (siB τ t1 u1 p1 r1))), (6, .int (nI p1)), (5, .int (nI (2 ^ (τ 0 15) - 1))), (0, .ref (ad 0)), (1, .int (nI t1)), (2, .int (nI u1))]) hx hb dX5_same_170 hl (k := 3) rfl (nI_add _ _) (by decide) rfl (fun ls hl => ?_)
                                  refine lv_goto (tgt := 97) hx hb dX5_same_173 (by decide) ?_
                                  exact ih97 (r1 + 1) true true  _  (by omega) (so_add (by omega) hF2.2 (by omega) hso (by unfold smX HS SetA; simp_all)) (ev_add (by omega) hF2.2 (by omega) hev (by unfold smY HS SetA; simp_all)) (lv_sub hl [0, 2, 1, 4, 5, 6, 7, 8] rfl)
                  exact lp97 (frT (p1 + 1) - frT p1) (frT p1) so ev  _ (by omega) (so_in hso) (ev_in hev) (lv_sub hl [0, 2, 3, 1, 4, 5, 6, 7] rfl)
            exact lp82 5 0 false true  _ (by omega) (⟨fun q => (by cases q), fun ⟨p, r, q, _⟩ => absurd q (vis_0 (r1 := 0))⟩) (⟨fun _ p r q => absurd q (vis_0 (r1 := 0)), fun _ => rfl⟩) (lv_sub hl [0, 3, 2, 1, 4, 5, 6] rfl)
          · exact absurd c_63 (by decide)
        · rw [hch] at c_48; cases c_48
      · exact absurd hsu c_33
    · cases c_14
