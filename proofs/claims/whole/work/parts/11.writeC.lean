/-! THE CLASS's writers, as functions of its state's numbers -/
theorem sU_at (σ : Nat → Nat → Nat) (k i v j : Nat) : sU σ k i v k j = if j = i then v else σ k j := by rw [sU_same, va_up_app]
def addSF (σ : Nat → Nat → Nat) (v : Nat) : Nat → Nat → Nat := sU (sU (sU σ 12 (σ 0 4 * 3) v) 13 (σ 0 4) 1) 0 4 (σ 0 4 + 1)
def addAL (σ : Nat → Nat → Nat) (o : Nat) : Nat → Nat → (Nat → Nat → Nat) → (Nat → Nat → Nat)
  | 0, _, s => s
  | n + 1, k, s => addAL σ o n (k + 1) (sU s 12 (s 0 4 * 3 + k) (s 10 (o + k)))
def addAF (σ : Nat → Nat → Nat) (o z : Nat) : Nat → Nat → Nat := sU (sU (addAL σ o z 0 σ) 13 ((addAL σ o z 0 σ) 0 4) z) 0 4 ((addAL σ o z 0 σ) 0 4 + 1)
def addML (σ : Nat → Nat → Nat) (o : Nat) : Nat → Nat → (Nat → Nat → Nat) → (Nat → Nat → Nat)
  | 0, _, s => s
  | n + 1, k, s => addML σ o n (k + 1) (sU s 10 (s 0 2 * 3 + k) (s 3 (o + k)))
def addMF (σ : Nat → Nat → Nat) (o z : Nat) : Nat → Nat → Nat := sU (sU (addML σ o z 0 σ) 11 ((addML σ o z 0 σ) 0 2) z) 0 2 ((addML σ o z 0 σ) 0 2 + 1)
def addTF (σ : Nat → Nat → Nat) (q a i x : Nat) : Nat → Nat → Nat := sU (sU (sU (sU (sU σ 6 (σ 0 1) q) 7 (σ 0 1) a) 8 (σ 0 1) i) 9 (σ 0 1) x) 0 1 (σ 0 1 + 1)
theorem in_X0_cutTo_X0 : ∀ w ∈ wsX00, w ∈ wsX0_cutTo := by decide +kernel
theorem lk_X0_cutTo_18 : Cond.fieldLink RX0 18 "ArrayClaims$ClaimList" "count" "I" ∈ wsX0_cutTo := by decide +kernel
def rX0_cutTo_asked : Room := { frames := 0, cells := 0, slots := 0, locals := 0 }
set_option maxHeartbeats 4000000 in
set_option maxRecDepth 100000 in
theorem c_X0_cutTo_asked (l : Launch) (D : va_G) (cI : ClassId) (A : Nat → Prop) (ad : Nat → Nat) (σ : Nat → Nat → Nat) (k : Nat) (hI : IC σ) (hk : k ≤ 100) : Met l yX0_cutTo wsX0_cutTo rX0_cutTo_asked (va_Pc [.ref (ad 4), .int (nI k)] (Wc D cI A ad σ)) (va_Qv (fun u => u = if k < σ 0 4 then sU σ 0 4 k else σ) (fun u t => Wc D cI A ad u t) A) 0 0 A := by
  refine Met.ofW (cc := cX0_cutTo) (maxL := 2) (ret := none) (by decide) rfl ?_
  intro p e s m args below meth c s₁ B hml hv
  obtain ⟨rfl, hP, hK, hD, hN, hZ⟩ := hv
  have hx := B.exec
  have hb := B.bytes
  have hr := B.returns
  have hts := atoms_spec (ws := wsX0_cutTo) B.pre
  have hown : s.vm.findClass RX0 = some m.cls := findClass_of_methodNamed B.named
  have hlocks := B.notSynchronized
  have hS : va_S A s.heap s.heap [] := va_S.rf
  have hl := lv_entry ([.ref (ad 4), .int (nI k)]) (n := 2) (Nat.le_of_ble_eq_true rfl)
  rw [lg_entry_eq]
  generalize (lg_sl ([.ref (ad 4), .int (nI k)]) ++ List.replicate (2 - (lg_sl ([.ref (ad 4), .int (nI k)])).length) Slot.unset).toArray = ls at hl ⊢
  have hl : lv_has ls 2 [(0, .ref (ad 4)), (1, .int (nI k))] := hl
  have hcA := hI.asked
  have hcM := hI.claims
  refine lv_iload_n hx hb dX0_cutTo_0 rfl (lv_at hl 1 rfl) ?_
  refine lv_if_lt hx hb (tgt := 17) dX0_cutTo_1 (by decide) (fun c_1 => ?_) (fun c_1 => ?_)
  · exact absurd c_1 (nI_pos (by omega))
  · refine lv_iload_n hx hb dX0_cutTo_4 rfl (lv_at hl 1 rfl) ?_
    refine lv_aload_n hx hb dX0_cutTo_5 rfl (lv_at hl 0 rfl) ?_
    refine va_get (D := D) (ci := 0) (v := .int (nI (σ 0 4))) (C := RX0) (T := TX0) (N := 3) hx hb hts in_X0_cutTo_X0 hown hK hP 4 rfl rfl 2 (by decide) (hts _ lk_X0_cutTo_18) (fun _ h9 => h9) rfl dX0_cutTo_6 ?_
    refine n_icmp_ge hx hb (tgt := 17) (by omega) (by omega) dX0_cutTo_9 (by decide) (fun c_9 => ?_) (fun c_9 => ?_)
    · exact W.vret hx hb hr (fun t ht hW => ⟨⟨_, rfl, (by first | (rw [if_pos c_9]; done) | (rw [if_neg (by omega)])), Wc.go hP hK hD hN hZ hS ht hW⟩, hS.F ht⟩) hS.2.2 dX0_cutTo_17
    · refine lv_aload_n hx hb dX0_cutTo_12 rfl (lv_at hl 0 rfl) ?_
      refine lv_iload_n hx hb dX0_cutTo_13 rfl (lv_at hl 1 rfl) ?_
      refine va_put (D := D) (ci := 0) (v := .int (nI k)) (ty := .int) (C := RX0) (T := TX0) (N := 3) hx hb hts in_X0_cutTo_X0 tyX0 tyX0_ok nmX0 hown hK hP hD hS 4 rfl rfl 2 (by decide) (hts _ lk_X0_cutTo_18) (fun _ h9 => h9) rfl (by decide +kernel) rfl rfl (Nat.le_of_ble_eq_true rfl) dX0_cutTo_14 (fun H locs hP hD hS => ?_)
      have hP : va_P D vwCl (WC ad cI (sU σ 0 4 k)) H := hP
      have hD : va_D A (WC ad cI (sU σ 0 4 k)) := hD
      exact W.vret hx hb hr (fun t ht hW => ⟨⟨_, rfl, (by first | (rw [if_pos c_9]; done) | (rw [if_neg (by omega)])), Wc.go hP hK hD hN hZ hS ht hW⟩, hS.F ht⟩) hS.2.2 dX0_cutTo_17
def rX0_cutTo_made : Room := { frames := 0, cells := 0, slots := 0, locals := 0 }
set_option maxHeartbeats 4000000 in
set_option maxRecDepth 100000 in
theorem c_X0_cutTo_made (l : Launch) (D : va_G) (cI : ClassId) (A : Nat → Prop) (ad : Nat → Nat) (σ : Nat → Nat → Nat) (k : Nat) (hI : IC σ) (hk : k ≤ 100) : Met l yX0_cutTo wsX0_cutTo rX0_cutTo_made (va_Pc [.ref (ad 2), .int (nI k)] (Wc D cI A ad σ)) (va_Qv (fun u => u = if k < σ 0 2 then sU σ 0 2 k else σ) (fun u t => Wc D cI A ad u t) A) 0 0 A := by
  refine Met.ofW (cc := cX0_cutTo) (maxL := 2) (ret := none) (by decide) rfl ?_
  intro p e s m args below meth c s₁ B hml hv
  obtain ⟨rfl, hP, hK, hD, hN, hZ⟩ := hv
  have hx := B.exec
  have hb := B.bytes
  have hr := B.returns
  have hts := atoms_spec (ws := wsX0_cutTo) B.pre
  have hown : s.vm.findClass RX0 = some m.cls := findClass_of_methodNamed B.named
  have hlocks := B.notSynchronized
  have hS : va_S A s.heap s.heap [] := va_S.rf
  have hl := lv_entry ([.ref (ad 2), .int (nI k)]) (n := 2) (Nat.le_of_ble_eq_true rfl)
  rw [lg_entry_eq]
  generalize (lg_sl ([.ref (ad 2), .int (nI k)]) ++ List.replicate (2 - (lg_sl ([.ref (ad 2), .int (nI k)])).length) Slot.unset).toArray = ls at hl ⊢
  have hl : lv_has ls 2 [(0, .ref (ad 2)), (1, .int (nI k))] := hl
  have hcA := hI.asked
  have hcM := hI.claims
  refine lv_iload_n hx hb dX0_cutTo_0 rfl (lv_at hl 1 rfl) ?_
  refine lv_if_lt hx hb (tgt := 17) dX0_cutTo_1 (by decide) (fun c_1 => ?_) (fun c_1 => ?_)
  · exact absurd c_1 (nI_pos (by omega))
  · refine lv_iload_n hx hb dX0_cutTo_4 rfl (lv_at hl 1 rfl) ?_
    refine lv_aload_n hx hb dX0_cutTo_5 rfl (lv_at hl 0 rfl) ?_
    refine va_get (D := D) (ci := 0) (v := .int (nI (σ 0 2))) (C := RX0) (T := TX0) (N := 3) hx hb hts in_X0_cutTo_X0 hown hK hP 2 rfl rfl 2 (by decide) (hts _ lk_X0_cutTo_18) (fun _ h9 => h9) rfl dX0_cutTo_6 ?_
    refine n_icmp_ge hx hb (tgt := 17) (by omega) (by omega) dX0_cutTo_9 (by decide) (fun c_9 => ?_) (fun c_9 => ?_)
    · exact W.vret hx hb hr (fun t ht hW => ⟨⟨_, rfl, (by first | (rw [if_pos c_9]; done) | (rw [if_neg (by omega)])), Wc.go hP hK hD hN hZ hS ht hW⟩, hS.F ht⟩) hS.2.2 dX0_cutTo_17
    · refine lv_aload_n hx hb dX0_cutTo_12 rfl (lv_at hl 0 rfl) ?_
      refine lv_iload_n hx hb dX0_cutTo_13 rfl (lv_at hl 1 rfl) ?_
      refine va_put (D := D) (ci := 0) (v := .int (nI k)) (ty := .int) (C := RX0) (T := TX0) (N := 3) hx hb hts in_X0_cutTo_X0 tyX0 tyX0_ok nmX0 hown hK hP hD hS 2 rfl rfl 2 (by decide) (hts _ lk_X0_cutTo_18) (fun _ h9 => h9) rfl (by decide +kernel) rfl rfl (Nat.le_of_ble_eq_true rfl) dX0_cutTo_14 (fun H locs hP hD hS => ?_)
      have hP : va_P D vwCl (WC ad cI (sU σ 0 2 k)) H := hP
      have hD : va_D A (WC ad cI (sU σ 0 2 k)) := hD
      exact W.vret hx hb hr (fun t ht hW => ⟨⟨_, rfl, (by first | (rw [if_pos c_9]; done) | (rw [if_neg (by omega)])), Wc.go hP hK hD hN hZ hS ht hW⟩, hS.F ht⟩) hS.2.2 dX0_cutTo_17
theorem in_X0_addSingle_X0 : ∀ w ∈ wsX00, w ∈ wsX0_addSingle := by decide +kernel
theorem lk_X0_addSingle_18 : Cond.fieldLink RX0 18 "ArrayClaims$ClaimList" "count" "I" ∈ wsX0_addSingle := by decide +kernel
theorem lk_X0_addSingle_15 : Cond.fieldLink RX0 15 "ArrayClaims$ClaimList" "sizes" "[I" ∈ wsX0_addSingle := by decide +kernel
theorem lk_X0_addSingle_9 : Cond.fieldLink RX0 9 "ArrayClaims$ClaimList" "literals" "[I" ∈ wsX0_addSingle := by decide +kernel
def rX0_addSingle : Room := { frames := 0, cells := 0, slots := 0, locals := 0 }
set_option maxHeartbeats 4000000 in
set_option maxRecDepth 100000 in
theorem c_X0_addSingle (l : Launch) (D : va_G) (cI : ClassId) (A : Nat → Prop) (ad : Nat → Nat) (σ : Nat → Nat → Nat) (v : Nat) (hI : IC σ) (hc : σ 0 4 < 11) : Met l yX0_addSingle wsX0_addSingle rX0_addSingle (va_Pc [.ref (ad 4), .int (nI v)] (Wc D cI A ad σ)) (va_Qv (fun u => u = addSF σ v) (fun u t => Wc D cI A ad u t) A) 0 0 A := by
  refine Met.ofW (cc := cX0_addSingle) (maxL := 2) (ret := none) (by decide) rfl ?_
  intro p e s m args below meth c s₁ B hml hv
  obtain ⟨rfl, hP, hK, hD, hN, hZ⟩ := hv
  have hx := B.exec
  have hb := B.bytes
  have hr := B.returns
  have hts := atoms_spec (ws := wsX0_addSingle) B.pre
  have hown : s.vm.findClass RX0 = some m.cls := findClass_of_methodNamed B.named
  have hlocks := B.notSynchronized
  have hS : va_S A s.heap s.heap [] := va_S.rf
  have hl := lv_entry ([.ref (ad 4), .int (nI v)]) (n := 2) (Nat.le_of_ble_eq_true rfl)
  rw [lg_entry_eq]
  generalize (lg_sl ([.ref (ad 4), .int (nI v)]) ++ List.replicate (2 - (lg_sl ([.ref (ad 4), .int (nI v)])).length) Slot.unset).toArray = ls at hl ⊢
  have hl : lv_has ls 2 [(0, .ref (ad 4)), (1, .int (nI v))] := hl
  refine lv_aload_n hx hb dX0_addSingle_0 rfl (lv_at hl 0 rfl) ?_
  refine va_get (D := D) (ci := 0) (v := .int (nI (σ 0 4))) (C := RX0) (T := TX0) (N := 3) hx hb hts in_X0_addSingle_X0 hown hK hP 4 rfl rfl 2 (by decide) (hts _ lk_X0_addSingle_18) (fun _ h9 => h9) rfl dX0_addSingle_1 ?_
  refine lv_aload_n hx hb dX0_addSingle_4 rfl (lv_at hl 0 rfl) ?_
  refine va_get (D := D) (ci := 0) (v := .ref (ad 13)) (C := RX0) (T := TX0) (N := 3) hx hb hts in_X0_addSingle_X0 hown hK hP 4 rfl rfl 1 (by decide) (hts _ lk_X0_addSingle_15) (fun _ h9 => h9) rfl dX0_addSingle_5 ?_
  refine va_alen (v := nI 11) hx hb hK hP 13 0 rfl rfl rfl dX0_addSingle_8 ?_
  refine n_icmp_lt hx hb (tgt := 13) (by omega) (by omega) dX0_addSingle_9 (by decide) (fun c_9 => ?_) (fun c_9 => ?_)
  · refine lv_aload_n hx hb dX0_addSingle_13 rfl (lv_at hl 0 rfl) ?_
    refine va_get (D := D) (ci := 0) (v := .ref (ad 12)) (C := RX0) (T := TX0) (N := 3) hx hb hts in_X0_addSingle_X0 hown hK hP 4 rfl rfl 0 (by decide) (hts _ lk_X0_addSingle_9) (fun _ h9 => h9) rfl dX0_addSingle_14 ?_
    refine lv_aload_n hx hb dX0_addSingle_17 rfl (lv_at hl 0 rfl) ?_
    refine va_get (D := D) (ci := 0) (v := .int (nI (σ 0 4))) (C := RX0) (T := TX0) (N := 3) hx hb hts in_X0_addSingle_X0 hown hK hP 4 rfl rfl 2 (by decide) (hts _ lk_X0_addSingle_18) (fun _ h9 => h9) rfl dX0_addSingle_18 ?_
    refine lv_iconst (v := nI 3) hx hb dX0_addSingle_21 (by decide) ?_
    refine n_mul hx hb dX0_addSingle_22 ?_
    refine lv_iload_n hx hb dX0_addSingle_23 rfl (lv_at hl 1 rfl) ?_
    refine n_ast (ws' := WC ad cI (sU σ 12 ((σ 0 4) * 3) v)) hx hb hK hP hD hS 12 0 rfl rfl (i := (σ 0 4) * 3) (by omega) (by decide) (WCs12 ..) dX0_addSingle_24 (fun H locs hP hD hS => ?_)
    refine lv_aload_n hx hb dX0_addSingle_25 rfl (lv_at hl 0 rfl) ?_
    refine va_get (D := D) (ci := 0) (v := .ref (ad 13)) (C := RX0) (T := TX0) (N := 3) hx hb hts in_X0_addSingle_X0 hown hK hP 4 rfl rfl 1 (by decide) (hts _ lk_X0_addSingle_15) (fun _ h9 => h9) rfl dX0_addSingle_26 ?_
    refine lv_aload_n hx hb dX0_addSingle_29 rfl (lv_at hl 0 rfl) ?_
    refine va_get (D := D) (ci := 0) (v := .int (nI (σ 0 4))) (C := RX0) (T := TX0) (N := 3) hx hb hts in_X0_addSingle_X0 hown hK hP 4 rfl rfl 2 (by decide) (hts _ lk_X0_addSingle_18) (fun _ h9 => h9) rfl dX0_addSingle_30 ?_
    refine lv_iconst (v := nI 1) hx hb dX0_addSingle_33 (by decide) ?_
    refine n_ast (ws' := WC ad cI (sU (sU σ 12 ((σ 0 4) * 3) v) 13 (σ 0 4) 1)) hx hb hK hP hD hS 13 0 rfl rfl (i := σ 0 4) (by omega) (by decide) (WCs13 ..) dX0_addSingle_34 (fun H locs hP hD hS => ?_)
    refine lv_aload_n hx hb dX0_addSingle_35 rfl (lv_at hl 0 rfl) ?_
    refine lv_dup hx hb dX0_addSingle_36 rfl ?_
    refine va_get (D := D) (ci := 0) (v := .int (nI (σ 0 4))) (C := RX0) (T := TX0) (N := 3) hx hb hts in_X0_addSingle_X0 hown hK hP 4 rfl rfl 2 (by decide) (hts _ lk_X0_addSingle_18) (fun _ h9 => h9) rfl dX0_addSingle_37 ?_
    refine lv_iconst (v := nI 1) hx hb dX0_addSingle_40 (by decide) ?_
    refine n_add hx hb dX0_addSingle_41 ?_
    refine va_put (D := D) (ci := 0) (v := .int (nI ((σ 0 4) + 1))) (ty := .int) (C := RX0) (T := TX0) (N := 3) hx hb hts in_X0_addSingle_X0 tyX0 tyX0_ok nmX0 hown hK hP hD hS 4 rfl rfl 2 (by decide) (hts _ lk_X0_addSingle_18) (fun _ h9 => h9) rfl (by decide +kernel) rfl rfl (Nat.le_of_ble_eq_true rfl) dX0_addSingle_42 (fun H locs hP hD hS => ?_)
    have hP : va_P D vwCl (WC ad cI (sU (sU (sU σ 12 ((σ 0 4) * 3) v) 13 (σ 0 4) 1) 0 4 ((σ 0 4) + 1))) H := hP
    have hD : va_D A (WC ad cI (sU (sU (sU σ 12 ((σ 0 4) * 3) v) 13 (σ 0 4) 1) 0 4 ((σ 0 4) + 1))) := hD
    exact W.vret hx hb hr (fun t ht hW => ⟨⟨_, rfl, (rfl), Wc.go hP hK hD hN hZ hS ht hW⟩, hS.F ht⟩) hS.2.2 dX0_addSingle_45
  · omega
theorem in_X0_add_X0 : ∀ w ∈ wsX00, w ∈ wsX0_add := by decide +kernel
theorem lk_X0_add_18 : Cond.fieldLink RX0 18 "ArrayClaims$ClaimList" "count" "I" ∈ wsX0_add := by decide +kernel
theorem lk_X0_add_15 : Cond.fieldLink RX0 15 "ArrayClaims$ClaimList" "sizes" "[I" ∈ wsX0_add := by decide +kernel
theorem lk_X0_add_9 : Cond.fieldLink RX0 9 "ArrayClaims$ClaimList" "literals" "[I" ∈ wsX0_add := by decide +kernel
def rX0_add_asked : Room := { frames := 0, cells := 0, slots := 0, locals := 0 }
set_option maxHeartbeats 4000000 in
set_option maxRecDepth 100000 in
theorem c_X0_add_asked (l : Launch) (D : va_G) (cI : ClassId) (A : Nat → Prop) (ad : Nat → Nat) (σ : Nat → Nat → Nat) (o z : Nat) (hI : IC σ) (hc : σ 0 4 < 11) (hz : z ≤ 3) (ho : o + z ≤ 24) : Met l yX0_add wsX0_add rX0_add_asked (va_Pc [.ref (ad 4), .ref (ad 10), .int (nI o), .int (nI z)] (Wc D cI A ad σ)) (va_Qv (fun u => u = addAF σ o z) (fun u t => Wc D cI A ad u t) A) 0 0 A := by
  refine Met.ofW (cc := cX0_add) (maxL := 5) (ret := none) (by decide) rfl ?_
  intro p e s m args below meth c s₁ B hml hv
  obtain ⟨rfl, hP, hK, hD, hN, hZ⟩ := hv
  have hx := B.exec
  have hb := B.bytes
  have hr := B.returns
  have hts := atoms_spec (ws := wsX0_add) B.pre
  have hown : s.vm.findClass RX0 = some m.cls := findClass_of_methodNamed B.named
  have hlocks := B.notSynchronized
  have hS : va_S A s.heap s.heap [] := va_S.rf
  have hl := lv_entry ([.ref (ad 4), .ref (ad 10), .int (nI o), .int (nI z)]) (n := 5) (Nat.le_of_ble_eq_true rfl)
  rw [lg_entry_eq]
  generalize (lg_sl ([.ref (ad 4), .ref (ad 10), .int (nI o), .int (nI z)]) ++ List.replicate (5 - (lg_sl ([.ref (ad 4), .ref (ad 10), .int (nI o), .int (nI z)])).length) Slot.unset).toArray = ls at hl ⊢
  have hl : lv_has ls 5 [(0, .ref (ad 4)), (1, .ref (ad 10)), (2, .int (nI o)), (3, .int (nI z))] := hl
  refine lv_aload_n hx hb dX0_add_0 rfl (lv_at hl 0 rfl) ?_
  refine va_get (D := D) (ci := 0) (v := .int (nI (σ 0 4))) (C := RX0) (T := TX0) (N := 3) hx hb hts in_X0_add_X0 hown hK hP 4 rfl rfl 2 (by decide) (hts _ lk_X0_add_18) (fun _ h9 => h9) rfl dX0_add_1 ?_
  refine lv_aload_n hx hb dX0_add_4 rfl (lv_at hl 0 rfl) ?_
  refine va_get (D := D) (ci := 0) (v := .ref (ad 13)) (C := RX0) (T := TX0) (N := 3) hx hb hts in_X0_add_X0 hown hK hP 4 rfl rfl 1 (by decide) (hts _ lk_X0_add_15) (fun _ h9 => h9) rfl dX0_add_5 ?_
  refine va_alen (v := nI 11) hx hb hK hP 13 0 rfl rfl rfl dX0_add_8 ?_
  refine n_icmp_ge hx hb (tgt := 17) (by omega) (by omega) dX0_add_9 (by decide) (fun c_9 => ?_) (fun c_9 => ?_)
  · omega
  · refine lv_iload_n hx hb dX0_add_12 rfl (lv_at hl 3 rfl) ?_
    refine lv_iconst (v := nI 3) hx hb dX0_add_13 (by decide) ?_
    refine n_icmp_le hx hb (tgt := 18) (by omega) (by omega) dX0_add_14 (by decide) (fun c_14 => ?_) (fun c_14 => ?_)
    · refine lv_iconst (v := nI 0) hx hb dX0_add_18 (by decide) ?_
      refine lv_istore (lv' := [(4, .int (nI 0)), (0, .ref (ad 4)), (1, .ref (ad 10)), (2, .int (nI o)), (3, .int (nI z))]) hx hb dX0_add_19 hl (by decide) rfl (fun ls hl => ?_)
      have lp21 : ∀ (n : Nat) (k : Nat) (σ_1 : Nat → Nat → Nat) (H : Heap) (locs : List Loc) (ls : Array Slot), (k + n = z) → (addAL σ o z 0 σ = addAL σ o n k σ_1) → (∀ r, r ≠ 12 → σ_1 r = σ r) → va_P D vwCl (WC ad cI σ_1) H → va_D A (WC ad cI σ_1) → va_S A s.heap H locs → lv_has ls 5 [(4, .int (nI k)), (0, .ref (ad 4)), (1, .ref (ad 10)), (2, .int (nI o)), (3, .int (nI z))] → W p l e rX0_add_asked s m (([.ref (ad 4), .ref (ad 10), .int (nI o), .int (nI z)] : List Value).toArray) below meth c H locs 0 0 (MQ below (va_Qv (fun u => u = addAF σ o z) (fun u t => Wc D cI A ad u t) A) (([.ref (ad 4), .ref (ad 10), .int (nI o), .int (nI z)] : List Value).toArray) s 0 0 A) (F0 m 21 ls []) := by
        intro n
        induction n with
        | zero =>
          intro k σ_1 H locs ls hF1 hF hO hP hD hS hl
          have hs4 : σ_1 0 4 = σ 0 4 := by rw [hO 0 (by decide)]
          refine lv_iload hx hb dX0_add_21 (lv_at hl 0 rfl) ?_
          refine lv_iload_n hx hb dX0_add_23 rfl (lv_at hl 4 rfl) ?_
          refine n_icmp_ge hx hb (tgt := 53) (by omega) (by omega) dX0_add_24 (by decide) (fun c_24 => ?_) (fun c_24 => ?_)
          · refine lv_aload_n hx hb dX0_add_53 rfl (lv_at hl 1 rfl) ?_
            refine va_get (D := D) (ci := 0) (v := .ref (ad 13)) (C := RX0) (T := TX0) (N := 3) hx hb hts in_X0_add_X0 hown hK hP 4 rfl rfl 1 (by decide) (hts _ lk_X0_add_15) (fun _ h9 => h9) rfl dX0_add_54 ?_
            refine lv_aload_n hx hb dX0_add_57 rfl (lv_at hl 1 rfl) ?_
            refine va_get (D := D) (ci := 0) (v := .int (nI (σ_1 0 4))) (C := RX0) (T := TX0) (N := 3) hx hb hts in_X0_add_X0 hown hK hP 4 rfl rfl 2 (by decide) (hts _ lk_X0_add_18) (fun _ h9 => h9) rfl dX0_add_58 ?_
            refine lv_iload_n hx hb dX0_add_61 rfl (lv_at hl 4 rfl) ?_
            refine n_ast (ws' := WC ad cI (sU σ_1 13 (σ_1 0 4) z)) hx hb hK hP hD hS 13 0 rfl rfl (i := σ_1 0 4) (by omega) (by decide) (WCs13 ..) dX0_add_62 (fun H locs hP hD hS => ?_)
            refine lv_aload_n hx hb dX0_add_63 rfl (lv_at hl 1 rfl) ?_
            refine lv_dup hx hb dX0_add_64 rfl ?_
            refine va_get (D := D) (ci := 0) (v := .int (nI (σ_1 0 4))) (C := RX0) (T := TX0) (N := 3) hx hb hts in_X0_add_X0 hown hK hP 4 rfl rfl 2 (by decide) (hts _ lk_X0_add_18) (fun _ h9 => h9) rfl dX0_add_65 ?_
            refine lv_iconst (v := nI 1) hx hb dX0_add_68 (by decide) ?_
            refine n_add hx hb dX0_add_69 ?_
            refine va_put (D := D) (ci := 0) (v := .int (nI ((σ_1 0 4) + 1))) (ty := .int) (C := RX0) (T := TX0) (N := 3) hx hb hts in_X0_add_X0 tyX0 tyX0_ok nmX0 hown hK hP hD hS 4 rfl rfl 2 (by decide) (hts _ lk_X0_add_18) (fun _ h9 => h9) rfl (by decide +kernel) rfl rfl (Nat.le_of_ble_eq_true rfl) dX0_add_70 (fun H locs hP hD hS => ?_)
            have hP : va_P D vwCl (WC ad cI (sU (sU σ_1 13 (σ_1 0 4) z) 0 4 ((σ_1 0 4) + 1))) H := hP
            have hD : va_D A (WC ad cI (sU (sU σ_1 13 (σ_1 0 4) z) 0 4 ((σ_1 0 4) + 1))) := hD
            exact W.vret hx hb hr (fun t ht hW => ⟨⟨_, rfl, (by unfold addAF; rw [hF]; rfl), Wc.go hP hK hD hN hZ hS ht hW⟩, hS.F ht⟩) hS.2.2 dX0_add_73
          · omega
        | succ n ih21 =>
          intro k σ_1 H locs ls hF1 hF hO hP hD hS hl
          have hs4 : σ_1 0 4 = σ 0 4 := by rw [hO 0 (by decide)]
          refine lv_iload hx hb dX0_add_21 (lv_at hl 0 rfl) ?_
          refine lv_iload_n hx hb dX0_add_23 rfl (lv_at hl 4 rfl) ?_
          refine n_icmp_ge hx hb (tgt := 53) (by omega) (by omega) dX0_add_24 (by decide) (fun c_24 => ?_) (fun c_24 => ?_)
          · omega
          · refine lv_aload_n hx hb dX0_add_27 rfl (lv_at hl 1 rfl) ?_
            refine va_get (D := D) (ci := 0) (v := .ref (ad 12)) (C := RX0) (T := TX0) (N := 3) hx hb hts in_X0_add_X0 hown hK hP 4 rfl rfl 0 (by decide) (hts _ lk_X0_add_9) (fun _ h9 => h9) rfl dX0_add_28 ?_
            refine lv_aload_n hx hb dX0_add_31 rfl (lv_at hl 1 rfl) ?_
            refine va_get (D := D) (ci := 0) (v := .int (nI (σ_1 0 4))) (C := RX0) (T := TX0) (N := 3) hx hb hts in_X0_add_X0 hown hK hP 4 rfl rfl 2 (by decide) (hts _ lk_X0_add_18) (fun _ h9 => h9) rfl dX0_add_32 ?_
            refine lv_iconst (v := nI 3) hx hb dX0_add_35 (by decide) ?_
            refine n_mul hx hb dX0_add_36 ?_
            refine lv_iload hx hb dX0_add_37 (lv_at hl 0 rfl) ?_
            refine n_add hx hb dX0_add_39 ?_
            refine lv_aload_n hx hb dX0_add_40 rfl (lv_at hl 2 rfl) ?_
            refine lv_iload_n hx hb dX0_add_41 rfl (lv_at hl 3 rfl) ?_
            refine lv_iload hx hb dX0_add_42 (lv_at hl 0 rfl) ?_
            refine n_add hx hb dX0_add_44 ?_
            refine n_ald hx hb hK hP 10 0 rfl rfl (i := o + k) (by omega) (by decide) (v := nI (σ_1 10 (o + k))) rfl dX0_add_45 ?_
            refine n_ast (ws' := WC ad cI (sU σ_1 12 (((σ_1 0 4) * 3) + k) (σ_1 10 (o + k)))) hx hb hK hP hD hS 12 0 rfl rfl (i := ((σ_1 0 4) * 3) + k) (by omega) (by decide) (WCs12 ..) dX0_add_46 (fun H locs hP hD hS => ?_)
            refine lv_iinc (v := nI (k + 1)) (lv' := [(4, .int (nI (k + 1))), (0, .ref (ad 4)), (1, .ref (ad 10)), (2, .int (nI o)), (3, .int (nI z))]) hx hb dX0_add_47 hl (k := 0) rfl (nI_add _ _) (by decide) rfl (fun ls hl => ?_)
            refine lv_goto (tgt := 21) hx hb dX0_add_50 (by decide) ?_
            exact ih21 (k + 1)  _ _ _ _  (by omega) (by rw [hF]; rfl) (fun r hr => by rw [sU_ne _ _ _ hr]; exact hO r hr) hP hD hS (lv_sub hl [0, 1, 2, 3, 4] rfl)
      exact lp21 z 0  _ _ _ _ (by omega) (rfl) (fun _ _ => rfl) hP hD hS (lv_sub hl [0, 1, 2, 3, 4] rfl)
    · omega
def rX0_add_made : Room := { frames := 0, cells := 0, slots := 0, locals := 0 }
set_option maxHeartbeats 4000000 in
set_option maxRecDepth 100000 in
theorem c_X0_add_made (l : Launch) (D : va_G) (cI : ClassId) (A : Nat → Prop) (ad : Nat → Nat) (σ : Nat → Nat → Nat) (o z : Nat) (hI : IC σ) (hc : σ 0 2 < 8) (hz : z ≤ 3) (ho : o + z ≤ 3) : Met l yX0_add wsX0_add rX0_add_made (va_Pc [.ref (ad 2), .ref (ad 3), .int (nI o), .int (nI z)] (Wc D cI A ad σ)) (va_Qv (fun u => u = addMF σ o z) (fun u t => Wc D cI A ad u t) A) 0 0 A := by
  refine Met.ofW (cc := cX0_add) (maxL := 5) (ret := none) (by decide) rfl ?_
  intro p e s m args below meth c s₁ B hml hv
  obtain ⟨rfl, hP, hK, hD, hN, hZ⟩ := hv
  have hx := B.exec
  have hb := B.bytes
  have hr := B.returns
  have hts := atoms_spec (ws := wsX0_add) B.pre
  have hown : s.vm.findClass RX0 = some m.cls := findClass_of_methodNamed B.named
  have hlocks := B.notSynchronized
  have hS : va_S A s.heap s.heap [] := va_S.rf
  have hl := lv_entry ([.ref (ad 2), .ref (ad 3), .int (nI o), .int (nI z)]) (n := 5) (Nat.le_of_ble_eq_true rfl)
  rw [lg_entry_eq]
  generalize (lg_sl ([.ref (ad 2), .ref (ad 3), .int (nI o), .int (nI z)]) ++ List.replicate (5 - (lg_sl ([.ref (ad 2), .ref (ad 3), .int (nI o), .int (nI z)])).length) Slot.unset).toArray = ls at hl ⊢
  have hl : lv_has ls 5 [(0, .ref (ad 2)), (1, .ref (ad 3)), (2, .int (nI o)), (3, .int (nI z))] := hl
  refine lv_aload_n hx hb dX0_add_0 rfl (lv_at hl 0 rfl) ?_
  refine va_get (D := D) (ci := 0) (v := .int (nI (σ 0 2))) (C := RX0) (T := TX0) (N := 3) hx hb hts in_X0_add_X0 hown hK hP 2 rfl rfl 2 (by decide) (hts _ lk_X0_add_18) (fun _ h9 => h9) rfl dX0_add_1 ?_
  refine lv_aload_n hx hb dX0_add_4 rfl (lv_at hl 0 rfl) ?_
  refine va_get (D := D) (ci := 0) (v := .ref (ad 11)) (C := RX0) (T := TX0) (N := 3) hx hb hts in_X0_add_X0 hown hK hP 2 rfl rfl 1 (by decide) (hts _ lk_X0_add_15) (fun _ h9 => h9) rfl dX0_add_5 ?_
  refine va_alen (v := nI 8) hx hb hK hP 11 0 rfl rfl rfl dX0_add_8 ?_
  refine n_icmp_ge hx hb (tgt := 17) (by omega) (by omega) dX0_add_9 (by decide) (fun c_9 => ?_) (fun c_9 => ?_)
  · omega
  · refine lv_iload_n hx hb dX0_add_12 rfl (lv_at hl 3 rfl) ?_
    refine lv_iconst (v := nI 3) hx hb dX0_add_13 (by decide) ?_
    refine n_icmp_le hx hb (tgt := 18) (by omega) (by omega) dX0_add_14 (by decide) (fun c_14 => ?_) (fun c_14 => ?_)
    · refine lv_iconst (v := nI 0) hx hb dX0_add_18 (by decide) ?_
      refine lv_istore (lv' := [(4, .int (nI 0)), (0, .ref (ad 2)), (1, .ref (ad 3)), (2, .int (nI o)), (3, .int (nI z))]) hx hb dX0_add_19 hl (by decide) rfl (fun ls hl => ?_)
      have lp21 : ∀ (n : Nat) (k : Nat) (σ_1 : Nat → Nat → Nat) (H : Heap) (locs : List Loc) (ls : Array Slot), (k + n = z) → (addML σ o z 0 σ = addML σ o n k σ_1) → (∀ r, r ≠ 10 → σ_1 r = σ r) → va_P D vwCl (WC ad cI σ_1) H → va_D A (WC ad cI σ_1) → va_S A s.heap H locs → lv_has ls 5 [(4, .int (nI k)), (0, .ref (ad 2)), (1, .ref (ad 3)), (2, .int (nI o)), (3, .int (nI z))] → W p l e rX0_add_made s m (([.ref (ad 2), .ref (ad 3), .int (nI o), .int (nI z)] : List Value).toArray) below meth c H locs 0 0 (MQ below (va_Qv (fun u => u = addMF σ o z) (fun u t => Wc D cI A ad u t) A) (([.ref (ad 2), .ref (ad 3), .int (nI o), .int (nI z)] : List Value).toArray) s 0 0 A) (F0 m 21 ls []) := by
        intro n
        induction n with
        | zero =>
          intro k σ_1 H locs ls hF1 hF hO hP hD hS hl
          have hs4 : σ_1 0 2 = σ 0 2 := by rw [hO 0 (by decide)]
          refine lv_iload hx hb dX0_add_21 (lv_at hl 0 rfl) ?_
          refine lv_iload_n hx hb dX0_add_23 rfl (lv_at hl 4 rfl) ?_
          refine n_icmp_ge hx hb (tgt := 53) (by omega) (by omega) dX0_add_24 (by decide) (fun c_24 => ?_) (fun c_24 => ?_)
          · refine lv_aload_n hx hb dX0_add_53 rfl (lv_at hl 1 rfl) ?_
            refine va_get (D := D) (ci := 0) (v := .ref (ad 11)) (C := RX0) (T := TX0) (N := 3) hx hb hts in_X0_add_X0 hown hK hP 2 rfl rfl 1 (by decide) (hts _ lk_X0_add_15) (fun _ h9 => h9) rfl dX0_add_54 ?_
            refine lv_aload_n hx hb dX0_add_57 rfl (lv_at hl 1 rfl) ?_
            refine va_get (D := D) (ci := 0) (v := .int (nI (σ_1 0 2))) (C := RX0) (T := TX0) (N := 3) hx hb hts in_X0_add_X0 hown hK hP 2 rfl rfl 2 (by decide) (hts _ lk_X0_add_18) (fun _ h9 => h9) rfl dX0_add_58 ?_
            refine lv_iload_n hx hb dX0_add_61 rfl (lv_at hl 4 rfl) ?_
            refine n_ast (ws' := WC ad cI (sU σ_1 11 (σ_1 0 2) z)) hx hb hK hP hD hS 11 0 rfl rfl (i := σ_1 0 2) (by omega) (by decide) (WCs11 ..) dX0_add_62 (fun H locs hP hD hS => ?_)
            refine lv_aload_n hx hb dX0_add_63 rfl (lv_at hl 1 rfl) ?_
            refine lv_dup hx hb dX0_add_64 rfl ?_
            refine va_get (D := D) (ci := 0) (v := .int (nI (σ_1 0 2))) (C := RX0) (T := TX0) (N := 3) hx hb hts in_X0_add_X0 hown hK hP 2 rfl rfl 2 (by decide) (hts _ lk_X0_add_18) (fun _ h9 => h9) rfl dX0_add_65 ?_
            refine lv_iconst (v := nI 1) hx hb dX0_add_68 (by decide) ?_
            refine n_add hx hb dX0_add_69 ?_
            refine va_put (D := D) (ci := 0) (v := .int (nI ((σ_1 0 2) + 1))) (ty := .int) (C := RX0) (T := TX0) (N := 3) hx hb hts in_X0_add_X0 tyX0 tyX0_ok nmX0 hown hK hP hD hS 2 rfl rfl 2 (by decide) (hts _ lk_X0_add_18) (fun _ h9 => h9) rfl (by decide +kernel) rfl rfl (Nat.le_of_ble_eq_true rfl) dX0_add_70 (fun H locs hP hD hS => ?_)
            have hP : va_P D vwCl (WC ad cI (sU (sU σ_1 11 (σ_1 0 2) z) 0 2 ((σ_1 0 2) + 1))) H := hP
            have hD : va_D A (WC ad cI (sU (sU σ_1 11 (σ_1 0 2) z) 0 2 ((σ_1 0 2) + 1))) := hD
            exact W.vret hx hb hr (fun t ht hW => ⟨⟨_, rfl, (by unfold addMF; rw [hF]; rfl), Wc.go hP hK hD hN hZ hS ht hW⟩, hS.F ht⟩) hS.2.2 dX0_add_73
          · omega
        | succ n ih21 =>
          intro k σ_1 H locs ls hF1 hF hO hP hD hS hl
          have hs4 : σ_1 0 2 = σ 0 2 := by rw [hO 0 (by decide)]
          refine lv_iload hx hb dX0_add_21 (lv_at hl 0 rfl) ?_
          refine lv_iload_n hx hb dX0_add_23 rfl (lv_at hl 4 rfl) ?_
          refine n_icmp_ge hx hb (tgt := 53) (by omega) (by omega) dX0_add_24 (by decide) (fun c_24 => ?_) (fun c_24 => ?_)
          · omega
          · refine lv_aload_n hx hb dX0_add_27 rfl (lv_at hl 1 rfl) ?_
            refine va_get (D := D) (ci := 0) (v := .ref (ad 10)) (C := RX0) (T := TX0) (N := 3) hx hb hts in_X0_add_X0 hown hK hP 2 rfl rfl 0 (by decide) (hts _ lk_X0_add_9) (fun _ h9 => h9) rfl dX0_add_28 ?_
            refine lv_aload_n hx hb dX0_add_31 rfl (lv_at hl 1 rfl) ?_
            refine va_get (D := D) (ci := 0) (v := .int (nI (σ_1 0 2))) (C := RX0) (T := TX0) (N := 3) hx hb hts in_X0_add_X0 hown hK hP 2 rfl rfl 2 (by decide) (hts _ lk_X0_add_18) (fun _ h9 => h9) rfl dX0_add_32 ?_
            refine lv_iconst (v := nI 3) hx hb dX0_add_35 (by decide) ?_
            refine n_mul hx hb dX0_add_36 ?_
            refine lv_iload hx hb dX0_add_37 (lv_at hl 0 rfl) ?_
            refine n_add hx hb dX0_add_39 ?_
            refine lv_aload_n hx hb dX0_add_40 rfl (lv_at hl 2 rfl) ?_
            refine lv_iload_n hx hb dX0_add_41 rfl (lv_at hl 3 rfl) ?_
            refine lv_iload hx hb dX0_add_42 (lv_at hl 0 rfl) ?_
            refine n_add hx hb dX0_add_44 ?_
            refine n_ald hx hb hK hP 3 0 rfl rfl (i := o + k) (by omega) (by decide) (v := nI (σ_1 3 (o + k))) rfl dX0_add_45 ?_
            refine n_ast (ws' := WC ad cI (sU σ_1 10 (((σ_1 0 2) * 3) + k) (σ_1 3 (o + k)))) hx hb hK hP hD hS 10 0 rfl rfl (i := ((σ_1 0 2) * 3) + k) (by omega) (by decide) (WCs10 ..) dX0_add_46 (fun H locs hP hD hS => ?_)
            refine lv_iinc (v := nI (k + 1)) (lv' := [(4, .int (nI (k + 1))), (0, .ref (ad 2)), (1, .ref (ad 3)), (2, .int (nI o)), (3, .int (nI z))]) hx hb dX0_add_47 hl (k := 0) rfl (nI_add _ _) (by decide) rfl (fun ls hl => ?_)
            refine lv_goto (tgt := 21) hx hb dX0_add_50 (by decide) ?_
            exact ih21 (k + 1)  _ _ _ _  (by omega) (by rw [hF]; rfl) (fun r hr => by rw [sU_ne _ _ _ hr]; exact hO r hr) hP hD hS (lv_sub hl [0, 1, 2, 3, 4] rfl)
      exact lp21 z 0  _ _ _ _ (by omega) (rfl) (fun _ _ => rfl) hP hD hS (lv_sub hl [0, 1, 2, 3, 4] rfl)
    · omega
theorem in_X0_addFrom_X0 : ∀ w ∈ wsX00, w ∈ wsX0_addFrom := by decide +kernel
theorem lk_X0_addFrom_9 : Cond.fieldLink RX0 9 "ArrayClaims$ClaimList" "literals" "[I" ∈ wsX0_addFrom := by decide +kernel
theorem lk_X0_addFrom_15 : Cond.fieldLink RX0 15 "ArrayClaims$ClaimList" "sizes" "[I" ∈ wsX0_addFrom := by decide +kernel
def rX0_addFrom : Room := { frames := 1, cells := 0, slots := 0, locals := 24 }
set_option maxHeartbeats 4000000 in
set_option maxRecDepth 100000 in
theorem c_X0_addFrom (l : Launch) (D : va_G) (cI : ClassId) (A : Nat → Prop) (ad : Nat → Nat) (σ : Nat → Nat → Nat) (k : Nat) (hI : IC σ) (hc : σ 0 4 < 11) (hk : k < 8) : Met l yX0_addFrom wsX0_addFrom rX0_addFrom (va_Pc [.ref (ad 4), .ref (ad 2), .int (nI k)] (Wc D cI A ad σ)) (va_Qv (fun u => u = addAF σ (k * 3) (σ 11 k)) (fun u t => Wc D cI A ad u t) A) 0 0 A := by
  refine Met.ofW (cc := cX0_addFrom) (maxL := 3) (ret := none) (by decide) rfl ?_
  intro p e s m args below meth c s₁ B hml hv
  obtain ⟨rfl, hP, hK, hD, hN, hZ⟩ := hv
  have hx := B.exec
  have hb := B.bytes
  have hr := B.returns
  have hts := atoms_spec (ws := wsX0_addFrom) B.pre
  have hown : s.vm.findClass RX0 = some m.cls := findClass_of_methodNamed B.named
  have hlocks := B.notSynchronized
  have hS : va_S A s.heap s.heap [] := va_S.rf
  have hl := lv_entry ([.ref (ad 4), .ref (ad 2), .int (nI k)]) (n := 3) (Nat.le_of_ble_eq_true rfl)
  rw [lg_entry_eq]
  generalize (lg_sl ([.ref (ad 4), .ref (ad 2), .int (nI k)]) ++ List.replicate (3 - (lg_sl ([.ref (ad 4), .ref (ad 2), .int (nI k)])).length) Slot.unset).toArray = ls at hl ⊢
  have hl : lv_has ls 3 [(0, .ref (ad 4)), (1, .ref (ad 2)), (2, .int (nI k))] := hl
  have hz := hI.msize hk
  refine lv_aload_n hx hb dX0_addFrom_0 rfl (lv_at hl 0 rfl) ?_
  refine lv_aload_n hx hb dX0_addFrom_1 rfl (lv_at hl 1 rfl) ?_
  refine va_get (D := D) (ci := 0) (v := .ref (ad 10)) (C := RX0) (T := TX0) (N := 3) hx hb hts in_X0_addFrom_X0 hown hK hP 2 rfl rfl 0 (by decide) (hts _ lk_X0_addFrom_9) (fun _ h9 => h9) rfl dX0_addFrom_2 ?_
  refine lv_iload_n hx hb dX0_addFrom_5 rfl (lv_at hl 2 rfl) ?_
  refine lv_iconst (v := nI 3) hx hb dX0_addFrom_6 (by decide) ?_
  refine n_mul hx hb dX0_addFrom_7 ?_
  refine lv_aload_n hx hb dX0_addFrom_8 rfl (lv_at hl 1 rfl) ?_
  refine va_get (D := D) (ci := 0) (v := .ref (ad 11)) (C := RX0) (T := TX0) (N := 3) hx hb hts in_X0_addFrom_X0 hown hK hP 2 rfl rfl 1 (by decide) (hts _ lk_X0_addFrom_15) (fun _ h9 => h9) rfl dX0_addFrom_9 ?_
  refine lv_iload_n hx hb dX0_addFrom_12 rfl (lv_at hl 2 rfl) ?_
  refine n_ald hx hb hK hP 11 0 rfl rfl (i := k) (by omega) (by decide) (v := nI (σ 11 k)) rfl dX0_addFrom_13 ?_
  refine va_callv (va_runV (As := [.ref (ad 10), .int (nI (k * 3)), .int (nI (σ 11 k))]) (rest := []) ⟨hx, hb, hml, hown, hts⟩ (c_X0_add_asked l D cI A ad σ (k * 3) (σ 11 k) hI hc hz (by omega)) (cwV 3 hts gX0_addFrom_X0_add rfl rfl rfl (by decide +kernel) ⟨Nat.le_of_ble_eq_true rfl, Nat.le_of_ble_eq_true rfl⟩) ⟨Wc.blind, va_recv hK hP (ci := 0) (q0 := 4) rfl rfl, fun U hU hW => ⟨rfl, Wc.go hP hK hD hN hZ hS hU hW⟩⟩ rfl rfl hl.1 rfl (lv_room (Nat.le_of_ble_eq_true rfl)) dX0_addFrom_14 ⟨Nat.zero_le _, Nat.zero_le _⟩) hS (fun q _ h => h) (fun q h => h) (fun σ_1 t H1 locs ht hvm hwσ_1 hB hz1 hk1 hS => ?_)
  obtain ⟨hP, -, hD, -⟩ := hB
  rw [ht] at hP
  generalize H1 = H at hP hS ⊢
  have eσ_1 : σ_1 = addAF σ (k * 3) (σ 11 k) := hwσ_1
  exact W.vret hx hb hr (fun t ht hW => ⟨⟨_, rfl, (eσ_1), Wc.go hP hK hD hN hZ hS ht hW⟩, hS.F ht⟩) hS.2.2 dX0_addFrom_17
theorem in_X3_add_X3 : ∀ w ∈ wsX30, w ∈ wsX3_add := by decide +kernel
theorem lk_X3_add_24 : Cond.fieldLink RX3 24 "ArrayClaims$TermTable" "count" "I" ∈ wsX3_add := by decide +kernel
theorem lk_X3_add_9 : Cond.fieldLink RX3 9 "ArrayClaims$TermTable" "sorts" "[I" ∈ wsX3_add := by decide +kernel
theorem lk_X3_add_15 : Cond.fieldLink RX3 15 "ArrayClaims$TermTable" "arrays" "[I" ∈ wsX3_add := by decide +kernel
theorem lk_X3_add_18 : Cond.fieldLink RX3 18 "ArrayClaims$TermTable" "indices" "[I" ∈ wsX3_add := by decide +kernel
theorem lk_X3_add_21 : Cond.fieldLink RX3 21 "ArrayClaims$TermTable" "elements" "[I" ∈ wsX3_add := by decide +kernel
def rX3_add : Room := { frames := 0, cells := 0, slots := 0, locals := 0 }
set_option maxHeartbeats 4000000 in
set_option maxRecDepth 100000 in
theorem c_X3_add (l : Launch) (D : va_G) (cI : ClassId) (A : Nat → Prop) (ad : Nat → Nat) (σ : Nat → Nat → Nat) (q a i x : Nat) (hI : IC σ) (hc : σ 0 1 < 24) : Met l yX3_add wsX3_add rX3_add (va_Pc [.ref (ad 1), .int (nI q), .int (mI a), .int (mI i), .int (mI x)] (Wc D cI A ad σ)) (va_Qi (fun r u => r = nI (σ 0 1) ∧ u = addTF σ q a i x) (fun u t => Wc D cI A ad u t) A) 0 0 A := by
  refine Met.ofW (cc := cX3_add) (maxL := 5) (ret := (some .int)) (by decide) rfl ?_
  intro p e s m args below meth c s₁ B hml hv
  obtain ⟨rfl, hP, hK, hD, hN, hZ⟩ := hv
  have hx := B.exec
  have hb := B.bytes
  have hr := B.returns
  have hts := atoms_spec (ws := wsX3_add) B.pre
  have hown : s.vm.findClass RX3 = some m.cls := findClass_of_methodNamed B.named
  have hlocks := B.notSynchronized
  have hS : va_S A s.heap s.heap [] := va_S.rf
  have hl := lv_entry ([.ref (ad 1), .int (nI q), .int (mI a), .int (mI i), .int (mI x)]) (n := 5) (Nat.le_of_ble_eq_true rfl)
  rw [lg_entry_eq]
  generalize (lg_sl ([.ref (ad 1), .int (nI q), .int (mI a), .int (mI i), .int (mI x)]) ++ List.replicate (5 - (lg_sl ([.ref (ad 1), .int (nI q), .int (mI a), .int (mI i), .int (mI x)])).length) Slot.unset).toArray = ls at hl ⊢
  have hl : lv_has ls 5 [(0, .ref (ad 1)), (1, .int (nI q)), (2, .int (mI a)), (3, .int (mI i)), (4, .int (mI x))] := hl
  refine lv_aload_n hx hb dX3_add_0 rfl (lv_at hl 0 rfl) ?_
  refine va_get (D := D) (ci := 2) (v := .int (nI (σ 0 1))) (C := RX3) (T := TX3) (N := 5) hx hb hts in_X3_add_X3 hown hK hP 1 rfl rfl 4 (by decide) (hts _ lk_X3_add_24) (fun _ h9 => h9) rfl dX3_add_1 ?_
  refine lv_bipush (v := nI 24) hx hb dX3_add_4 (by decide) ?_
  refine n_icmp_lt hx hb (tgt := 11) (by omega) (by omega) dX3_add_6 (by decide) (fun c_6 => ?_) (fun c_6 => ?_)
  · refine lv_aload_n hx hb dX3_add_11 rfl (lv_at hl 0 rfl) ?_
    refine va_get (D := D) (ci := 2) (v := .ref (ad 6)) (C := RX3) (T := TX3) (N := 5) hx hb hts in_X3_add_X3 hown hK hP 1 rfl rfl 0 (by decide) (hts _ lk_X3_add_9) (fun _ h9 => h9) rfl dX3_add_12 ?_
    refine lv_aload_n hx hb dX3_add_15 rfl (lv_at hl 0 rfl) ?_
    refine va_get (D := D) (ci := 2) (v := .int (nI (σ 0 1))) (C := RX3) (T := TX3) (N := 5) hx hb hts in_X3_add_X3 hown hK hP 1 rfl rfl 4 (by decide) (hts _ lk_X3_add_24) (fun _ h9 => h9) rfl dX3_add_16 ?_
    refine lv_iload_n hx hb dX3_add_19 rfl (lv_at hl 1 rfl) ?_
    refine n_ast (ws' := WC ad cI (sU σ 6 (σ 0 1) q)) hx hb hK hP hD hS 6 0 rfl rfl (i := σ 0 1) (by omega) (by decide) (WCs6 ..) dX3_add_20 (fun H locs hP hD hS => ?_)
    refine lv_aload_n hx hb dX3_add_21 rfl (lv_at hl 0 rfl) ?_
    refine va_get (D := D) (ci := 2) (v := .ref (ad 7)) (C := RX3) (T := TX3) (N := 5) hx hb hts in_X3_add_X3 hown hK hP 1 rfl rfl 1 (by decide) (hts _ lk_X3_add_15) (fun _ h9 => h9) rfl dX3_add_22 ?_
    refine lv_aload_n hx hb dX3_add_25 rfl (lv_at hl 0 rfl) ?_
    refine va_get (D := D) (ci := 2) (v := .int (nI (σ 0 1))) (C := RX3) (T := TX3) (N := 5) hx hb hts in_X3_add_X3 hown hK hP 1 rfl rfl 4 (by decide) (hts _ lk_X3_add_24) (fun _ h9 => h9) rfl dX3_add_26 ?_
    refine lv_iload_n hx hb dX3_add_29 rfl (lv_at hl 2 rfl) ?_
    refine n_ast (ws' := WC ad cI (sU (sU σ 6 (σ 0 1) q) 7 (σ 0 1) a)) hx hb hK hP hD hS 7 0 rfl rfl (i := σ 0 1) (by omega) (by decide) (WCs7 ..) dX3_add_30 (fun H locs hP hD hS => ?_)
    refine lv_aload_n hx hb dX3_add_31 rfl (lv_at hl 0 rfl) ?_
    refine va_get (D := D) (ci := 2) (v := .ref (ad 8)) (C := RX3) (T := TX3) (N := 5) hx hb hts in_X3_add_X3 hown hK hP 1 rfl rfl 2 (by decide) (hts _ lk_X3_add_18) (fun _ h9 => h9) rfl dX3_add_32 ?_
    refine lv_aload_n hx hb dX3_add_35 rfl (lv_at hl 0 rfl) ?_
    refine va_get (D := D) (ci := 2) (v := .int (nI (σ 0 1))) (C := RX3) (T := TX3) (N := 5) hx hb hts in_X3_add_X3 hown hK hP 1 rfl rfl 4 (by decide) (hts _ lk_X3_add_24) (fun _ h9 => h9) rfl dX3_add_36 ?_
    refine lv_iload_n hx hb dX3_add_39 rfl (lv_at hl 3 rfl) ?_
    refine n_ast (ws' := WC ad cI (sU (sU (sU σ 6 (σ 0 1) q) 7 (σ 0 1) a) 8 (σ 0 1) i)) hx hb hK hP hD hS 8 0 rfl rfl (i := σ 0 1) (by omega) (by decide) (WCs8 ..) dX3_add_40 (fun H locs hP hD hS => ?_)
    refine lv_aload_n hx hb dX3_add_41 rfl (lv_at hl 0 rfl) ?_
    refine va_get (D := D) (ci := 2) (v := .ref (ad 9)) (C := RX3) (T := TX3) (N := 5) hx hb hts in_X3_add_X3 hown hK hP 1 rfl rfl 3 (by decide) (hts _ lk_X3_add_21) (fun _ h9 => h9) rfl dX3_add_42 ?_
    refine lv_aload_n hx hb dX3_add_45 rfl (lv_at hl 0 rfl) ?_
    refine va_get (D := D) (ci := 2) (v := .int (nI (σ 0 1))) (C := RX3) (T := TX3) (N := 5) hx hb hts in_X3_add_X3 hown hK hP 1 rfl rfl 4 (by decide) (hts _ lk_X3_add_24) (fun _ h9 => h9) rfl dX3_add_46 ?_
    refine lv_iload hx hb dX3_add_49 (lv_at hl 4 rfl) ?_
    refine n_ast (ws' := WC ad cI (sU (sU (sU (sU σ 6 (σ 0 1) q) 7 (σ 0 1) a) 8 (σ 0 1) i) 9 (σ 0 1) x)) hx hb hK hP hD hS 9 0 rfl rfl (i := σ 0 1) (by omega) (by decide) (WCs9 ..) dX3_add_51 (fun H locs hP hD hS => ?_)
    refine lv_aload_n hx hb dX3_add_52 rfl (lv_at hl 0 rfl) ?_
    refine lv_dup hx hb dX3_add_53 rfl ?_
    refine va_get (D := D) (ci := 2) (v := .int (nI (σ 0 1))) (C := RX3) (T := TX3) (N := 5) hx hb hts in_X3_add_X3 hown hK hP 1 rfl rfl 4 (by decide) (hts _ lk_X3_add_24) (fun _ h9 => h9) rfl dX3_add_54 ?_
    refine lv_iconst (v := nI 1) hx hb dX3_add_57 (by decide) ?_
    refine n_add hx hb dX3_add_58 ?_
    refine va_put (D := D) (ci := 2) (v := .int (nI ((σ 0 1) + 1))) (ty := .int) (C := RX3) (T := TX3) (N := 5) hx hb hts in_X3_add_X3 tyX3 tyX3_ok nmX3 hown hK hP hD hS 1 rfl rfl 4 (by decide) (hts _ lk_X3_add_24) (fun _ h9 => h9) rfl (by decide +kernel) rfl rfl (Nat.le_of_ble_eq_true rfl) dX3_add_59 (fun H locs hP hD hS => ?_)
    have hP : va_P D vwCl (WC ad cI (sU (sU (sU (sU (sU σ 6 (σ 0 1) q) 7 (σ 0 1) a) 8 (σ 0 1) i) 9 (σ 0 1) x) 0 1 ((σ 0 1) + 1))) H := hP
    have hD : va_D A (WC ad cI (sU (sU (sU (sU (sU σ 6 (σ 0 1) q) 7 (σ 0 1) a) 8 (σ 0 1) i) 9 (σ 0 1) x) 0 1 ((σ 0 1) + 1))) := hD
    refine lv_aload_n hx hb dX3_add_62 rfl (lv_at hl 0 rfl) ?_
    refine va_get (D := D) (ci := 2) (v := .int (nI ((σ 0 1) + 1))) (C := RX3) (T := TX3) (N := 5) hx hb hts in_X3_add_X3 hown hK hP 1 rfl rfl 4 (by decide) (hts _ lk_X3_add_24) (fun _ h9 => h9) rfl dX3_add_63 ?_
    refine lv_iconst (v := nI 1) hx hb dX3_add_66 (by decide) ?_
    refine n_sub hx hb (by omega) dX3_add_67 ?_
    exact W.iret (v := nI (((σ 0 1) + 1) - 1)) hx hb hr (fun t ht hW => ⟨⟨_, (sU (sU (sU (sU (sU σ 6 (σ 0 1) q) 7 (σ 0 1) a) 8 (σ 0 1) i) 9 (σ 0 1) x) 0 1 ((σ 0 1) + 1)), rfl, (⟨by rw [Nat.add_sub_cancel], rfl⟩), Wc.go hP hK hD hN hZ hS ht hW⟩, hS.F ht⟩) hS.2.2 dX3_add_68
  · omega
