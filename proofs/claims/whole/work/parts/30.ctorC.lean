/-! CONSTRUCTORS -/
theorem z_nm : (fun j => nI ((fun _ => 0) j) : Nat → Int32) = fun j => mI ((fun _ => 1) j) := by
  funext j; exact (mI_succ 0).symm
section BWC
variable {p : Program} {l : Launch} {e : Env} {R : Room} {s : State} {m : MethodId} {args : Array Value} {below : List Frame} {meth : Method} {c : Code} {H : Heap} {locs : List Loc} {cells slots : Nat} {Q : State → Prop} {cc : ByteArray} {pc : Nat} {ls : Array Slot} {rest : List Value}
/-- a new row of ints, its class being the one that is known already -/
theorem n_newa {D : va_G} {cl : List vw_C} {ws : va_W} {tys : List (ClassId × FieldType)} {A : Nat → Prop} {H0 : Heap} {cI : ClassId} (hx : p.tables.exec = Jvm.exec) (hb : c.code = cc) (harr : (Cond.arrayClass .int).before args s = true) (hK : va_K D cl tys s) (t0 : Nat) (ht : tys[t0]? = some (cI, .int)) (hP : va_P D cl ws H) (hD : va_D A ws) (hS : va_S A H0 H locs) (hA : ∀ q, H0.size ≤ q → A q) {N : Nat} (hN : N < 2 ^ 31) (hbytes : N * componentBytes .int ≤ 536870912) (hcells : cells + 1 ≤ R.cells) (hslots : slots + N ≤ R.slots) (hdg : decode cc pc = .ok (.newarray .int, 2))
    (k : ∀ (q : Nat) (H1 : Heap), va_P D cl (ws ++ [(q, .inl (cI, N, .inl (fun j => nI ((fun _ => 0) j))))]) H1 → va_D A (ws ++ [(q, .inl (cI, N, .inl (fun j => nI ((fun _ => 0) j))))]) → va_S A H0 H1 locs → W p l e R s m args below meth c H1 locs (cells + 1) (slots + N) Q (F0 m (pc + 2) ls (.ref q :: rest))) : W p l e R s m args below meth c H locs cells slots Q (F0 m pc ls (.int (nI N) :: rest)) := by
  refine va_newa hx hb (atype := .int) (ty := .int) harr rfl hK hP hD hS hA (a0 := (N, .inl (fun _ => nI 0))) (fun cA => rfl) (nI_pos hN) (nI_clamp hN) hbytes hcells hslots hdg (fun q cA H1 hK1 hP1 hD1 hS1 => ?_)
  have h1 := (hK1.2 tys.length (cA, .int) (by simp)).2
  have h2 := (hK.2 t0 _ ht).2
  have e : cA = cI := Option.some.inj (h1.symm.trans h2)
  subst e
  exact k q H1 hP1 hD1 hS1
end BWC
theorem mm_X0_init_oi : Cond.methodLink RX0 3 objectInit ∈ wsX0_init := by decide +kernel
theorem mm_X0_init_om : Cond.instanceMethod objectInit ∈ wsX0_init := by decide +kernel
theorem mm_X0_init_arr : Cond.arrayClass .int ∈ wsX0_init := by decide +kernel
theorem mm_X0_init_f9 : Cond.fieldLink RX0 9 "ArrayClaims$ClaimList" "literals" "[I" ∈ wsX0_init := by decide +kernel
theorem in_X0_init_X0 : ∀ w ∈ wsX00, w ∈ wsX0_init := by decide +kernel
theorem mm_X0_init_f15 : Cond.fieldLink RX0 15 "ArrayClaims$ClaimList" "sizes" "[I" ∈ wsX0_init := by decide +kernel
theorem mm_X0_init_f18 : Cond.fieldLink RX0 18 "ArrayClaims$ClaimList" "count" "I" ∈ wsX0_init := by decide +kernel
def rX0_init_made : Room := { frames := 1, cells := 2, slots := 32, locals := 12 }
set_option maxHeartbeats 4000000 in
set_option maxRecDepth 100000 in
theorem c_X0_init_made (l : Launch) (D : va_G) (cI : ClassId) (h0 sz : Nat)  : Met l yX0_init wsX0_init rX0_init_made (va_Pc [.ref h0, .int (nI 8)] (fun U => U.heap.size = sz ∧ va_P D vwCl [(h0, .inr (0, [.null, .null, .int (nI 0)]))] U.heap ∧ va_K D vwCl [(cI, .int)] U ∧ va_D (fun _ => True) [(h0, .inr (0, [.null, .null, .int (nI 0)]))])) (va_Qv (fun u : Nat × Nat => True) (fun u t => va_P D vwCl [(h0, .inr (0, [.ref u.1, .ref u.2, .int (nI 0)])), (u.1, .inl (cI, 24, .inl (fun j => nI ((fun _ => 0) j)))), (u.2, .inl (cI, 8, .inl (fun j => nI ((fun _ => 0) j))))] t.heap ∧ va_D (va_A [(h0, .inr (0, [.null, .null, .int (nI 0)]))] sz) [(h0, .inr (0, [.ref u.1, .ref u.2, .int (nI 0)])), (u.1, .inl (cI, 24, .inl (fun j => nI ((fun _ => 0) j)))), (u.2, .inl (cI, 8, .inl (fun j => nI ((fun _ => 0) j))))]) (va_A [(h0, .inr (0, [.null, .null, .int (nI 0)]))] sz)) 2 32 (va_A [(h0, .inr (0, [.null, .null, .int (nI 0)]))] sz) := by
  refine Met.ofW (cc := cX0_init) (maxL := 2) (ret := none) (by decide) rfl ?_
  intro p e s m args below meth c s₁ B hml hv
  obtain ⟨rfl, hsz, hP, hK, hD0⟩ := hv
  have hx := B.exec
  have hb := B.bytes
  have hr := B.returns
  have hts := atoms_spec (ws := wsX0_init) B.pre
  have hown : s.vm.findClass RX0 = some m.cls := findClass_of_methodNamed B.named
  have hlocks := B.notSynchronized
  have hin : meth.name = "<init>" := (name_of_methodNamed B.named B.method).1
  subst hsz
  have hD := hD0.self (sz := s.heap.size)
  generalize hAe : va_A [(h0, .inr (0, [.null, .null, .int (nI 0)]))] s.heap.size = A at hD ⊢
  have hA : ∀ q : Nat, s.heap.size ≤ q → A q := fun q h => by rw [← hAe]; exact Or.inr h
  have hS : va_S A s.heap s.heap [] := va_S.rf
  have hl := lv_entry ([.ref h0, .int (nI 8)]) (n := 2) (Nat.le_of_ble_eq_true rfl)
  rw [lg_entry_eq]
  generalize (lg_sl ([.ref h0, .int (nI 8)]) ++ List.replicate (2 - (lg_sl ([.ref h0, .int (nI 8)])).length) Slot.unset).toArray = ls at hl ⊢
  have hl : lv_has ls 2 [(0, .ref h0), (1, .int (nI 8))] := hl
  refine lv_aload_n hx hb dX0_init_0 rfl (lv_at hl 0 rfl) ?_
  refine W.objInit hx hb hown (hts _ mm_X0_init_oi) (hts _ mm_X0_init_om) (hts _ (List.mem_of_getElem? (i := 3) rfl)) rfl (by rw [hml]; exact hl.1) rfl dX0_init_1 (Nat.le_of_ble_eq_true rfl) (Nat.le_of_ble_eq_true rfl) ?_
  refine W.eq (g2 := F0 m 4 ls []) rfl ?_
  refine lv_aload_n hx hb dX0_init_4 rfl (lv_at hl 0 rfl) ?_
  refine lv_iload_n hx hb dX0_init_5 rfl (lv_at hl 1 rfl) ?_
  refine lv_iconst (v := nI 3) hx hb dX0_init_6 (by decide) ?_
  refine n_mul hx hb dX0_init_7 ?_
  refine n_newa hx hb (hts _ mm_X0_init_arr) hK 0 rfl hP hD hS hA (N := 24) (by decide) (by decide) (by decide) (by decide) dX0_init_8 (fun q1 H hP hD hS => ?_)
  have hP : va_P D vwCl [(h0, .inr (0, [.null, .null, .int (nI 0)])), (q1, .inl (cI, 24, .inl (fun j => nI ((fun _ => 0) j))))] H := hP
  have hD : va_D A [(h0, .inr (0, [.null, .null, .int (nI 0)])), (q1, .inl (cI, 24, .inl (fun j => nI ((fun _ => 0) j))))] := hD
  refine va_putF (D := D) (ci := 0) (v := .ref q1) (ty := .array .int) (C := RX0) (T := TX0) (N := 3) hx hb hts in_X0_init_X0 tyX0 tyX0_ok nmX0 hown hK hP hD hS 0 rfl rfl 0 (by decide) (hts _ mm_X0_init_f9) (fun _ h9 => h9) rfl hin rfl (by decide +kernel) rfl rfl (Nat.le_of_ble_eq_true rfl) dX0_init_10 (fun H locs hP hD hS => ?_)
  have hP : va_P D vwCl [(h0, .inr (0, [.ref q1, .null, .int (nI 0)])), (q1, .inl (cI, 24, .inl (fun j => nI ((fun _ => 0) j))))] H := hP
  have hD : va_D A [(h0, .inr (0, [.ref q1, .null, .int (nI 0)])), (q1, .inl (cI, 24, .inl (fun j => nI ((fun _ => 0) j))))] := hD
  refine lv_aload_n hx hb dX0_init_13 rfl (lv_at hl 0 rfl) ?_
  refine lv_iload_n hx hb dX0_init_14 rfl (lv_at hl 1 rfl) ?_
  refine n_newa hx hb (hts _ mm_X0_init_arr) hK 0 rfl hP hD hS hA (N := 8) (by decide) (by decide) (by decide) (by decide) dX0_init_15 (fun q2 H hP hD hS => ?_)
  have hP : va_P D vwCl [(h0, .inr (0, [.ref q1, .null, .int (nI 0)])), (q1, .inl (cI, 24, .inl (fun j => nI ((fun _ => 0) j)))), (q2, .inl (cI, 8, .inl (fun j => nI ((fun _ => 0) j))))] H := hP
  have hD : va_D A [(h0, .inr (0, [.ref q1, .null, .int (nI 0)])), (q1, .inl (cI, 24, .inl (fun j => nI ((fun _ => 0) j)))), (q2, .inl (cI, 8, .inl (fun j => nI ((fun _ => 0) j))))] := hD
  refine va_putF (D := D) (ci := 0) (v := .ref q2) (ty := .array .int) (C := RX0) (T := TX0) (N := 3) hx hb hts in_X0_init_X0 tyX0 tyX0_ok nmX0 hown hK hP hD hS 0 rfl rfl 1 (by decide) (hts _ mm_X0_init_f15) (fun _ h9 => h9) rfl hin rfl (by decide +kernel) rfl rfl (Nat.le_of_ble_eq_true rfl) dX0_init_17 (fun H locs hP hD hS => ?_)
  have hP : va_P D vwCl [(h0, .inr (0, [.ref q1, .ref q2, .int (nI 0)])), (q1, .inl (cI, 24, .inl (fun j => nI ((fun _ => 0) j)))), (q2, .inl (cI, 8, .inl (fun j => nI ((fun _ => 0) j))))] H := hP
  have hD : va_D A [(h0, .inr (0, [.ref q1, .ref q2, .int (nI 0)])), (q1, .inl (cI, 24, .inl (fun j => nI ((fun _ => 0) j)))), (q2, .inl (cI, 8, .inl (fun j => nI ((fun _ => 0) j))))] := hD
  refine lv_aload_n hx hb dX0_init_20 rfl (lv_at hl 0 rfl) ?_
  refine lv_iconst (v := nI 0) hx hb dX0_init_21 (by decide) ?_
  refine va_put (D := D) (ci := 0) (v := .int (nI 0)) (ty := .int) (C := RX0) (T := TX0) (N := 3) hx hb hts in_X0_init_X0 tyX0 tyX0_ok nmX0 hown hK hP hD hS 0 rfl rfl 2 (by decide) (hts _ mm_X0_init_f18) (fun _ h9 => h9) rfl (by decide +kernel) rfl rfl (Nat.le_of_ble_eq_true rfl) dX0_init_22 (fun H locs hP hD hS => ?_)
  have hP : va_P D vwCl [(h0, .inr (0, [.ref q1, .ref q2, .int (nI 0)])), (q1, .inl (cI, 24, .inl (fun j => nI ((fun _ => 0) j)))), (q2, .inl (cI, 8, .inl (fun j => nI ((fun _ => 0) j))))] H := hP
  have hD : va_D A [(h0, .inr (0, [.ref q1, .ref q2, .int (nI 0)])), (q1, .inl (cI, 24, .inl (fun j => nI ((fun _ => 0) j)))), (q2, .inl (cI, 8, .inl (fun j => nI ((fun _ => 0) j))))] := hD
  exact W.vret hx hb hr (fun t ht hW => ⟨⟨(q1, q2), rfl, trivial, by rw [ht]; exact hP, hD⟩, hS.F ht⟩) hS.2.2 dX0_init_25
def rX0_init_asked : Room := { frames := 1, cells := 2, slots := 44, locals := 12 }
set_option maxHeartbeats 4000000 in
set_option maxRecDepth 100000 in
theorem c_X0_init_asked (l : Launch) (D : va_G) (cI : ClassId) (h0 sz : Nat)  : Met l yX0_init wsX0_init rX0_init_asked (va_Pc [.ref h0, .int (nI 11)] (fun U => U.heap.size = sz ∧ va_P D vwCl [(h0, .inr (0, [.null, .null, .int (nI 0)]))] U.heap ∧ va_K D vwCl [(cI, .int)] U ∧ va_D (fun _ => True) [(h0, .inr (0, [.null, .null, .int (nI 0)]))])) (va_Qv (fun u : Nat × Nat => True) (fun u t => va_P D vwCl [(h0, .inr (0, [.ref u.1, .ref u.2, .int (nI 0)])), (u.1, .inl (cI, 33, .inl (fun j => nI ((fun _ => 0) j)))), (u.2, .inl (cI, 11, .inl (fun j => nI ((fun _ => 0) j))))] t.heap ∧ va_D (va_A [(h0, .inr (0, [.null, .null, .int (nI 0)]))] sz) [(h0, .inr (0, [.ref u.1, .ref u.2, .int (nI 0)])), (u.1, .inl (cI, 33, .inl (fun j => nI ((fun _ => 0) j)))), (u.2, .inl (cI, 11, .inl (fun j => nI ((fun _ => 0) j))))]) (va_A [(h0, .inr (0, [.null, .null, .int (nI 0)]))] sz)) 2 44 (va_A [(h0, .inr (0, [.null, .null, .int (nI 0)]))] sz) := by
  refine Met.ofW (cc := cX0_init) (maxL := 2) (ret := none) (by decide) rfl ?_
  intro p e s m args below meth c s₁ B hml hv
  obtain ⟨rfl, hsz, hP, hK, hD0⟩ := hv
  have hx := B.exec
  have hb := B.bytes
  have hr := B.returns
  have hts := atoms_spec (ws := wsX0_init) B.pre
  have hown : s.vm.findClass RX0 = some m.cls := findClass_of_methodNamed B.named
  have hlocks := B.notSynchronized
  have hin : meth.name = "<init>" := (name_of_methodNamed B.named B.method).1
  subst hsz
  have hD := hD0.self (sz := s.heap.size)
  generalize hAe : va_A [(h0, .inr (0, [.null, .null, .int (nI 0)]))] s.heap.size = A at hD ⊢
  have hA : ∀ q : Nat, s.heap.size ≤ q → A q := fun q h => by rw [← hAe]; exact Or.inr h
  have hS : va_S A s.heap s.heap [] := va_S.rf
  have hl := lv_entry ([.ref h0, .int (nI 11)]) (n := 2) (Nat.le_of_ble_eq_true rfl)
  rw [lg_entry_eq]
  generalize (lg_sl ([.ref h0, .int (nI 11)]) ++ List.replicate (2 - (lg_sl ([.ref h0, .int (nI 11)])).length) Slot.unset).toArray = ls at hl ⊢
  have hl : lv_has ls 2 [(0, .ref h0), (1, .int (nI 11))] := hl
  refine lv_aload_n hx hb dX0_init_0 rfl (lv_at hl 0 rfl) ?_
  refine W.objInit hx hb hown (hts _ mm_X0_init_oi) (hts _ mm_X0_init_om) (hts _ (List.mem_of_getElem? (i := 3) rfl)) rfl (by rw [hml]; exact hl.1) rfl dX0_init_1 (Nat.le_of_ble_eq_true rfl) (Nat.le_of_ble_eq_true rfl) ?_
  refine W.eq (g2 := F0 m 4 ls []) rfl ?_
  refine lv_aload_n hx hb dX0_init_4 rfl (lv_at hl 0 rfl) ?_
  refine lv_iload_n hx hb dX0_init_5 rfl (lv_at hl 1 rfl) ?_
  refine lv_iconst (v := nI 3) hx hb dX0_init_6 (by decide) ?_
  refine n_mul hx hb dX0_init_7 ?_
  refine n_newa hx hb (hts _ mm_X0_init_arr) hK 0 rfl hP hD hS hA (N := 33) (by decide) (by decide) (by decide) (by decide) dX0_init_8 (fun q1 H hP hD hS => ?_)
  have hP : va_P D vwCl [(h0, .inr (0, [.null, .null, .int (nI 0)])), (q1, .inl (cI, 33, .inl (fun j => nI ((fun _ => 0) j))))] H := hP
  have hD : va_D A [(h0, .inr (0, [.null, .null, .int (nI 0)])), (q1, .inl (cI, 33, .inl (fun j => nI ((fun _ => 0) j))))] := hD
  refine va_putF (D := D) (ci := 0) (v := .ref q1) (ty := .array .int) (C := RX0) (T := TX0) (N := 3) hx hb hts in_X0_init_X0 tyX0 tyX0_ok nmX0 hown hK hP hD hS 0 rfl rfl 0 (by decide) (hts _ mm_X0_init_f9) (fun _ h9 => h9) rfl hin rfl (by decide +kernel) rfl rfl (Nat.le_of_ble_eq_true rfl) dX0_init_10 (fun H locs hP hD hS => ?_)
  have hP : va_P D vwCl [(h0, .inr (0, [.ref q1, .null, .int (nI 0)])), (q1, .inl (cI, 33, .inl (fun j => nI ((fun _ => 0) j))))] H := hP
  have hD : va_D A [(h0, .inr (0, [.ref q1, .null, .int (nI 0)])), (q1, .inl (cI, 33, .inl (fun j => nI ((fun _ => 0) j))))] := hD
  refine lv_aload_n hx hb dX0_init_13 rfl (lv_at hl 0 rfl) ?_
  refine lv_iload_n hx hb dX0_init_14 rfl (lv_at hl 1 rfl) ?_
  refine n_newa hx hb (hts _ mm_X0_init_arr) hK 0 rfl hP hD hS hA (N := 11) (by decide) (by decide) (by decide) (by decide) dX0_init_15 (fun q2 H hP hD hS => ?_)
  have hP : va_P D vwCl [(h0, .inr (0, [.ref q1, .null, .int (nI 0)])), (q1, .inl (cI, 33, .inl (fun j => nI ((fun _ => 0) j)))), (q2, .inl (cI, 11, .inl (fun j => nI ((fun _ => 0) j))))] H := hP
  have hD : va_D A [(h0, .inr (0, [.ref q1, .null, .int (nI 0)])), (q1, .inl (cI, 33, .inl (fun j => nI ((fun _ => 0) j)))), (q2, .inl (cI, 11, .inl (fun j => nI ((fun _ => 0) j))))] := hD
  refine va_putF (D := D) (ci := 0) (v := .ref q2) (ty := .array .int) (C := RX0) (T := TX0) (N := 3) hx hb hts in_X0_init_X0 tyX0 tyX0_ok nmX0 hown hK hP hD hS 0 rfl rfl 1 (by decide) (hts _ mm_X0_init_f15) (fun _ h9 => h9) rfl hin rfl (by decide +kernel) rfl rfl (Nat.le_of_ble_eq_true rfl) dX0_init_17 (fun H locs hP hD hS => ?_)
  have hP : va_P D vwCl [(h0, .inr (0, [.ref q1, .ref q2, .int (nI 0)])), (q1, .inl (cI, 33, .inl (fun j => nI ((fun _ => 0) j)))), (q2, .inl (cI, 11, .inl (fun j => nI ((fun _ => 0) j))))] H := hP
  have hD : va_D A [(h0, .inr (0, [.ref q1, .ref q2, .int (nI 0)])), (q1, .inl (cI, 33, .inl (fun j => nI ((fun _ => 0) j)))), (q2, .inl (cI, 11, .inl (fun j => nI ((fun _ => 0) j))))] := hD
  refine lv_aload_n hx hb dX0_init_20 rfl (lv_at hl 0 rfl) ?_
  refine lv_iconst (v := nI 0) hx hb dX0_init_21 (by decide) ?_
  refine va_put (D := D) (ci := 0) (v := .int (nI 0)) (ty := .int) (C := RX0) (T := TX0) (N := 3) hx hb hts in_X0_init_X0 tyX0 tyX0_ok nmX0 hown hK hP hD hS 0 rfl rfl 2 (by decide) (hts _ mm_X0_init_f18) (fun _ h9 => h9) rfl (by decide +kernel) rfl rfl (Nat.le_of_ble_eq_true rfl) dX0_init_22 (fun H locs hP hD hS => ?_)
  have hP : va_P D vwCl [(h0, .inr (0, [.ref q1, .ref q2, .int (nI 0)])), (q1, .inl (cI, 33, .inl (fun j => nI ((fun _ => 0) j)))), (q2, .inl (cI, 11, .inl (fun j => nI ((fun _ => 0) j))))] H := hP
  have hD : va_D A [(h0, .inr (0, [.ref q1, .ref q2, .int (nI 0)])), (q1, .inl (cI, 33, .inl (fun j => nI ((fun _ => 0) j)))), (q2, .inl (cI, 11, .inl (fun j => nI ((fun _ => 0) j))))] := hD
  exact W.vret hx hb hr (fun t ht hW => ⟨⟨(q1, q2), rfl, trivial, by rw [ht]; exact hP, hD⟩, hS.F ht⟩) hS.2.2 dX0_init_25
theorem mm_X2_init_oi : Cond.methodLink RX2 5 objectInit ∈ wsX2_init := by decide +kernel
theorem mm_X2_init_om : Cond.instanceMethod objectInit ∈ wsX2_init := by decide +kernel
theorem mm_X2_init_arr : Cond.arrayClass .int ∈ wsX2_init := by decide +kernel
theorem mm_X2_init_f11 : Cond.fieldLink RX2 11 "ArrayClaims$ReadingSearch" "parts" "[I" ∈ wsX2_init := by decide +kernel
theorem in_X2_init_X2 : ∀ w ∈ wsX20, w ∈ wsX2_init := by decide +kernel
theorem mm_X2_init_f15 : Cond.fieldLink RX2 15 "ArrayClaims$ReadingSearch" "chosen" "[I" ∈ wsX2_init := by decide +kernel
def rX2_init : Room := { frames := 1, cells := 2, slots := 106, locals := 12 }
set_option maxHeartbeats 4000000 in
set_option maxRecDepth 100000 in
theorem c_X2_init (l : Launch) (D : va_G) (cI : ClassId) (h0 sz : Nat)  : Met l yX2_init wsX2_init rX2_init (va_Pc [.ref h0] (fun U => U.heap.size = sz ∧ va_P D vwCl [(h0, .inr (1, [.null, .null]))] U.heap ∧ va_K D vwCl [(cI, .int)] U ∧ va_D (fun _ => True) [(h0, .inr (1, [.null, .null]))])) (va_Qv (fun u : Nat × Nat => True) (fun u t => va_P D vwCl [(h0, .inr (1, [.ref u.1, .ref u.2])), (u.1, .inl (cI, 96, .inl (fun j => nI ((fun _ => 0) j)))), (u.2, .inl (cI, 10, .inl (fun j => nI ((fun _ => 0) j))))] t.heap ∧ va_D (va_A [(h0, .inr (1, [.null, .null]))] sz) [(h0, .inr (1, [.ref u.1, .ref u.2])), (u.1, .inl (cI, 96, .inl (fun j => nI ((fun _ => 0) j)))), (u.2, .inl (cI, 10, .inl (fun j => nI ((fun _ => 0) j))))]) (va_A [(h0, .inr (1, [.null, .null]))] sz)) 2 106 (va_A [(h0, .inr (1, [.null, .null]))] sz) := by
  refine Met.ofW (cc := cX2_init) (maxL := 1) (ret := none) (by decide) rfl ?_
  intro p e s m args below meth c s₁ B hml hv
  obtain ⟨rfl, hsz, hP, hK, hD0⟩ := hv
  have hx := B.exec
  have hb := B.bytes
  have hr := B.returns
  have hts := atoms_spec (ws := wsX2_init) B.pre
  have hown : s.vm.findClass RX2 = some m.cls := findClass_of_methodNamed B.named
  have hlocks := B.notSynchronized
  have hin : meth.name = "<init>" := (name_of_methodNamed B.named B.method).1
  subst hsz
  have hD := hD0.self (sz := s.heap.size)
  generalize hAe : va_A [(h0, .inr (1, [.null, .null]))] s.heap.size = A at hD ⊢
  have hA : ∀ q : Nat, s.heap.size ≤ q → A q := fun q h => by rw [← hAe]; exact Or.inr h
  have hS : va_S A s.heap s.heap [] := va_S.rf
  have hl := lv_entry ([.ref h0]) (n := 1) (Nat.le_of_ble_eq_true rfl)
  rw [lg_entry_eq]
  generalize (lg_sl ([.ref h0]) ++ List.replicate (1 - (lg_sl ([.ref h0])).length) Slot.unset).toArray = ls at hl ⊢
  have hl : lv_has ls 1 [(0, .ref h0)] := hl
  refine lv_aload_n hx hb dX2_init_0 rfl (lv_at hl 0 rfl) ?_
  refine W.objInit hx hb hown (hts _ mm_X2_init_oi) (hts _ mm_X2_init_om) (hts _ (List.mem_of_getElem? (i := 3) rfl)) rfl (by rw [hml]; exact hl.1) rfl dX2_init_1 (Nat.le_of_ble_eq_true rfl) (Nat.le_of_ble_eq_true rfl) ?_
  refine W.eq (g2 := F0 m 4 ls []) rfl ?_
  refine lv_aload_n hx hb dX2_init_4 rfl (lv_at hl 0 rfl) ?_
  refine lv_bipush (v := nI 96) hx hb dX2_init_5 (by decide) ?_
  refine n_newa hx hb (hts _ mm_X2_init_arr) hK 0 rfl hP hD hS hA (N := 96) (by decide) (by decide) (by decide) (by decide) dX2_init_7 (fun q1 H hP hD hS => ?_)
  have hP : va_P D vwCl [(h0, .inr (1, [.null, .null])), (q1, .inl (cI, 96, .inl (fun j => nI ((fun _ => 0) j))))] H := hP
  have hD : va_D A [(h0, .inr (1, [.null, .null])), (q1, .inl (cI, 96, .inl (fun j => nI ((fun _ => 0) j))))] := hD
  refine va_putF (D := D) (ci := 1) (v := .ref q1) (ty := .array .int) (C := RX2) (T := TX2) (N := 2) hx hb hts in_X2_init_X2 tyX2 tyX2_ok nmX2 hown hK hP hD hS 0 rfl rfl 0 (by decide) (hts _ mm_X2_init_f11) (fun _ h9 => h9) rfl hin rfl (by decide +kernel) rfl rfl (Nat.le_of_ble_eq_true rfl) dX2_init_9 (fun H locs hP hD hS => ?_)
  have hP : va_P D vwCl [(h0, .inr (1, [.ref q1, .null])), (q1, .inl (cI, 96, .inl (fun j => nI ((fun _ => 0) j))))] H := hP
  have hD : va_D A [(h0, .inr (1, [.ref q1, .null])), (q1, .inl (cI, 96, .inl (fun j => nI ((fun _ => 0) j))))] := hD
  refine lv_aload_n hx hb dX2_init_12 rfl (lv_at hl 0 rfl) ?_
  refine lv_bipush (v := nI 10) hx hb dX2_init_13 (by decide) ?_
  refine n_newa hx hb (hts _ mm_X2_init_arr) hK 0 rfl hP hD hS hA (N := 10) (by decide) (by decide) (by decide) (by decide) dX2_init_15 (fun q2 H hP hD hS => ?_)
  have hP : va_P D vwCl [(h0, .inr (1, [.ref q1, .null])), (q1, .inl (cI, 96, .inl (fun j => nI ((fun _ => 0) j)))), (q2, .inl (cI, 10, .inl (fun j => nI ((fun _ => 0) j))))] H := hP
  have hD : va_D A [(h0, .inr (1, [.ref q1, .null])), (q1, .inl (cI, 96, .inl (fun j => nI ((fun _ => 0) j)))), (q2, .inl (cI, 10, .inl (fun j => nI ((fun _ => 0) j))))] := hD
  refine va_putF (D := D) (ci := 1) (v := .ref q2) (ty := .array .int) (C := RX2) (T := TX2) (N := 2) hx hb hts in_X2_init_X2 tyX2 tyX2_ok nmX2 hown hK hP hD hS 0 rfl rfl 1 (by decide) (hts _ mm_X2_init_f15) (fun _ h9 => h9) rfl hin rfl (by decide +kernel) rfl rfl (Nat.le_of_ble_eq_true rfl) dX2_init_17 (fun H locs hP hD hS => ?_)
  have hP : va_P D vwCl [(h0, .inr (1, [.ref q1, .ref q2])), (q1, .inl (cI, 96, .inl (fun j => nI ((fun _ => 0) j)))), (q2, .inl (cI, 10, .inl (fun j => nI ((fun _ => 0) j))))] H := hP
  have hD : va_D A [(h0, .inr (1, [.ref q1, .ref q2])), (q1, .inl (cI, 96, .inl (fun j => nI ((fun _ => 0) j)))), (q2, .inl (cI, 10, .inl (fun j => nI ((fun _ => 0) j))))] := hD
  exact W.vret hx hb hr (fun t ht hW => ⟨⟨(q1, q2), rfl, trivial, by rw [ht]; exact hP, hD⟩, hS.F ht⟩) hS.2.2 dX2_init_20
theorem mm_X3_init_oi : Cond.methodLink RX3 3 objectInit ∈ wsX3_init := by decide +kernel
theorem mm_X3_init_om : Cond.instanceMethod objectInit ∈ wsX3_init := by decide +kernel
theorem mm_X3_init_arr : Cond.arrayClass .int ∈ wsX3_init := by decide +kernel
theorem mm_X3_init_f9 : Cond.fieldLink RX3 9 "ArrayClaims$TermTable" "sorts" "[I" ∈ wsX3_init := by decide +kernel
theorem in_X3_init_X3 : ∀ w ∈ wsX30, w ∈ wsX3_init := by decide +kernel
theorem mm_X3_init_f15 : Cond.fieldLink RX3 15 "ArrayClaims$TermTable" "arrays" "[I" ∈ wsX3_init := by decide +kernel
theorem mm_X3_init_f18 : Cond.fieldLink RX3 18 "ArrayClaims$TermTable" "indices" "[I" ∈ wsX3_init := by decide +kernel
theorem mm_X3_init_f21 : Cond.fieldLink RX3 21 "ArrayClaims$TermTable" "elements" "[I" ∈ wsX3_init := by decide +kernel
theorem mm_X3_init_f24 : Cond.fieldLink RX3 24 "ArrayClaims$TermTable" "count" "I" ∈ wsX3_init := by decide +kernel
def rX3_init : Room := { frames := 1, cells := 4, slots := 96, locals := 12 }
set_option maxHeartbeats 4000000 in
set_option maxRecDepth 100000 in
theorem c_X3_init (l : Launch) (D : va_G) (cI : ClassId) (h0 sz : Nat)  : Met l yX3_init wsX3_init rX3_init (va_Pc [.ref h0] (fun U => U.heap.size = sz ∧ va_P D vwCl [(h0, .inr (2, [.null, .null, .null, .null, .int (nI 0)]))] U.heap ∧ va_K D vwCl [(cI, .int)] U ∧ va_D (fun _ => True) [(h0, .inr (2, [.null, .null, .null, .null, .int (nI 0)]))])) (va_Qv (fun u : Nat × Nat × Nat × Nat => True) (fun u t => va_P D vwCl [(h0, .inr (2, [.ref u.1, .ref u.2.1, .ref u.2.2.1, .ref u.2.2.2, .int (nI 7)])), (u.1, .inl (cI, 24, .inl (fun j => nI ((va_up (va_up (va_up (va_up (va_up (va_up (va_up (fun _ => 0) 0 0) 1 0) 2 0) 3 1) 4 1) 5 2) 6 2) j)))), (u.2.1, .inl (cI, 24, .inl (fun j => mI ((va_up (va_up (va_up (va_up (va_up (va_up (va_up (fun _ => 1) 0 0) 1 0) 2 0) 3 0) 4 0) 5 0) 6 0) j)))), (u.2.2.1, .inl (cI, 24, .inl (fun j => mI ((va_up (va_up (va_up (va_up (va_up (va_up (va_up (fun _ => 1) 0 0) 1 0) 2 0) 3 0) 4 0) 5 0) 6 0) j)))), (u.2.2.2, .inl (cI, 24, .inl (fun j => mI ((va_up (va_up (va_up (va_up (va_up (va_up (va_up (fun _ => 1) 0 0) 1 0) 2 0) 3 0) 4 0) 5 0) 6 0) j))))] t.heap ∧ va_D (va_A [(h0, .inr (2, [.null, .null, .null, .null, .int (nI 0)]))] sz) [(h0, .inr (2, [.ref u.1, .ref u.2.1, .ref u.2.2.1, .ref u.2.2.2, .int (nI 7)])), (u.1, .inl (cI, 24, .inl (fun j => nI ((va_up (va_up (va_up (va_up (va_up (va_up (va_up (fun _ => 0) 0 0) 1 0) 2 0) 3 1) 4 1) 5 2) 6 2) j)))), (u.2.1, .inl (cI, 24, .inl (fun j => mI ((va_up (va_up (va_up (va_up (va_up (va_up (va_up (fun _ => 1) 0 0) 1 0) 2 0) 3 0) 4 0) 5 0) 6 0) j)))), (u.2.2.1, .inl (cI, 24, .inl (fun j => mI ((va_up (va_up (va_up (va_up (va_up (va_up (va_up (fun _ => 1) 0 0) 1 0) 2 0) 3 0) 4 0) 5 0) 6 0) j)))), (u.2.2.2, .inl (cI, 24, .inl (fun j => mI ((va_up (va_up (va_up (va_up (va_up (va_up (va_up (fun _ => 1) 0 0) 1 0) 2 0) 3 0) 4 0) 5 0) 6 0) j))))]) (va_A [(h0, .inr (2, [.null, .null, .null, .null, .int (nI 0)]))] sz)) 4 96 (va_A [(h0, .inr (2, [.null, .null, .null, .null, .int (nI 0)]))] sz) := by
  refine Met.ofW (cc := cX3_init) (maxL := 2) (ret := none) (by decide) rfl ?_
  intro p e s m args below meth c s₁ B hml hv
  obtain ⟨rfl, hsz, hP, hK, hD0⟩ := hv
  have hx := B.exec
  have hb := B.bytes
  have hr := B.returns
  have hts := atoms_spec (ws := wsX3_init) B.pre
  have hown : s.vm.findClass RX3 = some m.cls := findClass_of_methodNamed B.named
  have hlocks := B.notSynchronized
  have hin : meth.name = "<init>" := (name_of_methodNamed B.named B.method).1
  subst hsz
  have hD := hD0.self (sz := s.heap.size)
  generalize hAe : va_A [(h0, .inr (2, [.null, .null, .null, .null, .int (nI 0)]))] s.heap.size = A at hD ⊢
  have hA : ∀ q : Nat, s.heap.size ≤ q → A q := fun q h => by rw [← hAe]; exact Or.inr h
  have hS : va_S A s.heap s.heap [] := va_S.rf
  have hl := lv_entry ([.ref h0]) (n := 2) (Nat.le_of_ble_eq_true rfl)
  rw [lg_entry_eq]
  generalize (lg_sl ([.ref h0]) ++ List.replicate (2 - (lg_sl ([.ref h0])).length) Slot.unset).toArray = ls at hl ⊢
  have hl : lv_has ls 2 [(0, .ref h0)] := hl
  refine lv_aload_n hx hb dX3_init_0 rfl (lv_at hl 0 rfl) ?_
  refine W.objInit hx hb hown (hts _ mm_X3_init_oi) (hts _ mm_X3_init_om) (hts _ (List.mem_of_getElem? (i := 3) rfl)) rfl (by rw [hml]; exact hl.1) rfl dX3_init_1 (Nat.le_of_ble_eq_true rfl) (Nat.le_of_ble_eq_true rfl) ?_
  refine W.eq (g2 := F0 m 4 ls []) rfl ?_
  refine lv_aload_n hx hb dX3_init_4 rfl (lv_at hl 0 rfl) ?_
  refine lv_bipush (v := nI 24) hx hb dX3_init_5 (by decide) ?_
  refine n_newa hx hb (hts _ mm_X3_init_arr) hK 0 rfl hP hD hS hA (N := 24) (by decide) (by decide) (by decide) (by decide) dX3_init_7 (fun q1 H hP hD hS => ?_)
  have hP : va_P D vwCl [(h0, .inr (2, [.null, .null, .null, .null, .int (nI 0)])), (q1, .inl (cI, 24, .inl (fun j => nI ((fun _ => 0) j))))] H := hP
  have hD : va_D A [(h0, .inr (2, [.null, .null, .null, .null, .int (nI 0)])), (q1, .inl (cI, 24, .inl (fun j => nI ((fun _ => 0) j))))] := hD
  refine va_putF (D := D) (ci := 2) (v := .ref q1) (ty := .array .int) (C := RX3) (T := TX3) (N := 5) hx hb hts in_X3_init_X3 tyX3 tyX3_ok nmX3 hown hK hP hD hS 0 rfl rfl 0 (by decide) (hts _ mm_X3_init_f9) (fun _ h9 => h9) rfl hin rfl (by decide +kernel) rfl rfl (Nat.le_of_ble_eq_true rfl) dX3_init_9 (fun H locs hP hD hS => ?_)
  have hP : va_P D vwCl [(h0, .inr (2, [.ref q1, .null, .null, .null, .int (nI 0)])), (q1, .inl (cI, 24, .inl (fun j => nI ((fun _ => 0) j))))] H := hP
  have hD : va_D A [(h0, .inr (2, [.ref q1, .null, .null, .null, .int (nI 0)])), (q1, .inl (cI, 24, .inl (fun j => nI ((fun _ => 0) j))))] := hD
  refine lv_aload_n hx hb dX3_init_12 rfl (lv_at hl 0 rfl) ?_
  refine lv_bipush (v := nI 24) hx hb dX3_init_13 (by decide) ?_
  refine n_newa hx hb (hts _ mm_X3_init_arr) hK 0 rfl hP hD hS hA (N := 24) (by decide) (by decide) (by decide) (by decide) dX3_init_15 (fun q2 H hP hD hS => ?_)
  have hP : va_P D vwCl [(h0, .inr (2, [.ref q1, .null, .null, .null, .int (nI 0)])), (q1, .inl (cI, 24, .inl (fun j => nI ((fun _ => 0) j)))), (q2, .inl (cI, 24, .inl (fun j => nI ((fun _ => 0) j))))] H := hP
  have hD : va_D A [(h0, .inr (2, [.ref q1, .null, .null, .null, .int (nI 0)])), (q1, .inl (cI, 24, .inl (fun j => nI ((fun _ => 0) j)))), (q2, .inl (cI, 24, .inl (fun j => nI ((fun _ => 0) j))))] := hD
  refine va_putF (D := D) (ci := 2) (v := .ref q2) (ty := .array .int) (C := RX3) (T := TX3) (N := 5) hx hb hts in_X3_init_X3 tyX3 tyX3_ok nmX3 hown hK hP hD hS 0 rfl rfl 1 (by decide) (hts _ mm_X3_init_f15) (fun _ h9 => h9) rfl hin rfl (by decide +kernel) rfl rfl (Nat.le_of_ble_eq_true rfl) dX3_init_17 (fun H locs hP hD hS => ?_)
  have hP : va_P D vwCl [(h0, .inr (2, [.ref q1, .ref q2, .null, .null, .int (nI 0)])), (q1, .inl (cI, 24, .inl (fun j => nI ((fun _ => 0) j)))), (q2, .inl (cI, 24, .inl (fun j => nI ((fun _ => 0) j))))] H := hP
  have hD : va_D A [(h0, .inr (2, [.ref q1, .ref q2, .null, .null, .int (nI 0)])), (q1, .inl (cI, 24, .inl (fun j => nI ((fun _ => 0) j)))), (q2, .inl (cI, 24, .inl (fun j => nI ((fun _ => 0) j))))] := hD
  refine lv_aload_n hx hb dX3_init_20 rfl (lv_at hl 0 rfl) ?_
  refine lv_bipush (v := nI 24) hx hb dX3_init_21 (by decide) ?_
  refine n_newa hx hb (hts _ mm_X3_init_arr) hK 0 rfl hP hD hS hA (N := 24) (by decide) (by decide) (by decide) (by decide) dX3_init_23 (fun q3 H hP hD hS => ?_)
  have hP : va_P D vwCl [(h0, .inr (2, [.ref q1, .ref q2, .null, .null, .int (nI 0)])), (q1, .inl (cI, 24, .inl (fun j => nI ((fun _ => 0) j)))), (q2, .inl (cI, 24, .inl (fun j => nI ((fun _ => 0) j)))), (q3, .inl (cI, 24, .inl (fun j => nI ((fun _ => 0) j))))] H := hP
  have hD : va_D A [(h0, .inr (2, [.ref q1, .ref q2, .null, .null, .int (nI 0)])), (q1, .inl (cI, 24, .inl (fun j => nI ((fun _ => 0) j)))), (q2, .inl (cI, 24, .inl (fun j => nI ((fun _ => 0) j)))), (q3, .inl (cI, 24, .inl (fun j => nI ((fun _ => 0) j))))] := hD
  refine va_putF (D := D) (ci := 2) (v := .ref q3) (ty := .array .int) (C := RX3) (T := TX3) (N := 5) hx hb hts in_X3_init_X3 tyX3 tyX3_ok nmX3 hown hK hP hD hS 0 rfl rfl 2 (by decide) (hts _ mm_X3_init_f18) (fun _ h9 => h9) rfl hin rfl (by decide +kernel) rfl rfl (Nat.le_of_ble_eq_true rfl) dX3_init_25 (fun H locs hP hD hS => ?_)
  have hP : va_P D vwCl [(h0, .inr (2, [.ref q1, .ref q2, .ref q3, .null, .int (nI 0)])), (q1, .inl (cI, 24, .inl (fun j => nI ((fun _ => 0) j)))), (q2, .inl (cI, 24, .inl (fun j => nI ((fun _ => 0) j)))), (q3, .inl (cI, 24, .inl (fun j => nI ((fun _ => 0) j))))] H := hP
  have hD : va_D A [(h0, .inr (2, [.ref q1, .ref q2, .ref q3, .null, .int (nI 0)])), (q1, .inl (cI, 24, .inl (fun j => nI ((fun _ => 0) j)))), (q2, .inl (cI, 24, .inl (fun j => nI ((fun _ => 0) j)))), (q3, .inl (cI, 24, .inl (fun j => nI ((fun _ => 0) j))))] := hD
  refine lv_aload_n hx hb dX3_init_28 rfl (lv_at hl 0 rfl) ?_
  refine lv_bipush (v := nI 24) hx hb dX3_init_29 (by decide) ?_
  refine n_newa hx hb (hts _ mm_X3_init_arr) hK 0 rfl hP hD hS hA (N := 24) (by decide) (by decide) (by decide) (by decide) dX3_init_31 (fun q4 H hP hD hS => ?_)
  have hP : va_P D vwCl [(h0, .inr (2, [.ref q1, .ref q2, .ref q3, .null, .int (nI 0)])), (q1, .inl (cI, 24, .inl (fun j => nI ((fun _ => 0) j)))), (q2, .inl (cI, 24, .inl (fun j => nI ((fun _ => 0) j)))), (q3, .inl (cI, 24, .inl (fun j => nI ((fun _ => 0) j)))), (q4, .inl (cI, 24, .inl (fun j => nI ((fun _ => 0) j))))] H := hP
  have hD : va_D A [(h0, .inr (2, [.ref q1, .ref q2, .ref q3, .null, .int (nI 0)])), (q1, .inl (cI, 24, .inl (fun j => nI ((fun _ => 0) j)))), (q2, .inl (cI, 24, .inl (fun j => nI ((fun _ => 0) j)))), (q3, .inl (cI, 24, .inl (fun j => nI ((fun _ => 0) j)))), (q4, .inl (cI, 24, .inl (fun j => nI ((fun _ => 0) j))))] := hD
  refine va_putF (D := D) (ci := 2) (v := .ref q4) (ty := .array .int) (C := RX3) (T := TX3) (N := 5) hx hb hts in_X3_init_X3 tyX3 tyX3_ok nmX3 hown hK hP hD hS 0 rfl rfl 3 (by decide) (hts _ mm_X3_init_f21) (fun _ h9 => h9) rfl hin rfl (by decide +kernel) rfl rfl (Nat.le_of_ble_eq_true rfl) dX3_init_33 (fun H locs hP hD hS => ?_)
  have hP : va_P D vwCl [(h0, .inr (2, [.ref q1, .ref q2, .ref q3, .ref q4, .int (nI 0)])), (q1, .inl (cI, 24, .inl (fun j => nI ((fun _ => 0) j)))), (q2, .inl (cI, 24, .inl (fun j => nI ((fun _ => 0) j)))), (q3, .inl (cI, 24, .inl (fun j => nI ((fun _ => 0) j)))), (q4, .inl (cI, 24, .inl (fun j => nI ((fun _ => 0) j))))] H := hP
  have hD : va_D A [(h0, .inr (2, [.ref q1, .ref q2, .ref q3, .ref q4, .int (nI 0)])), (q1, .inl (cI, 24, .inl (fun j => nI ((fun _ => 0) j)))), (q2, .inl (cI, 24, .inl (fun j => nI ((fun _ => 0) j)))), (q3, .inl (cI, 24, .inl (fun j => nI ((fun _ => 0) j)))), (q4, .inl (cI, 24, .inl (fun j => nI ((fun _ => 0) j))))] := hD
  refine lv_iconst (v := nI 0) hx hb dX3_init_36 (by decide) ?_
  refine lv_istore_n (lv' := [(1, .int (nI 0)), (0, .ref h0)]) hx hb dX3_init_37 rfl hl (by decide) rfl (fun ls hl => ?_)
  refine lv_iload_n hx hb dX3_init_38 rfl (lv_at hl 0 rfl) ?_
  refine lv_bipush (v := nI 7) hx hb dX3_init_39 (by decide) ?_
  refine n_icmp_ge hx hb (tgt := 96) (by decide) (by decide) dX3_init_41 (by decide) (fun c9 => absurd c9 (by decide)) (fun c9 => ?_)
  refine lv_aload_n hx hb dX3_init_44 rfl (lv_at hl 1 rfl) ?_
  refine va_get (D := D) (ci := 2) (v := .ref q1) (C := RX3) (T := TX3) (N := 5) hx hb hts in_X3_init_X3 hown hK hP 0 rfl rfl 0 (by decide) (hts _ mm_X3_init_f9) (fun _ h9 => h9) rfl dX3_init_45 ?_
  refine lv_iload_n hx hb dX3_init_48 rfl (lv_at hl 0 rfl) ?_
  refine lv_iload_n hx hb dX3_init_49 rfl (lv_at hl 0 rfl) ?_
  refine lv_iconst (v := nI 3) hx hb dX3_init_50 (by decide) ?_
  refine n_icmp_ge hx hb (tgt := 58) (by decide) (by decide) dX3_init_51 (by decide) (fun c9 => absurd c9 (by decide)) (fun c9 => ?_)
  refine lv_iconst (v := nI 0) hx hb dX3_init_54 (by decide) ?_
  refine lv_goto (tgt := 68) hx hb dX3_init_55 (by decide) ?_
  refine n_ast (ws' := [(h0, .inr (2, [.ref q1, .ref q2, .ref q3, .ref q4, .int (nI 0)])), (q1, .inl (cI, 24, .inl (fun j => nI ((va_up (fun _ => 0) 0 0) j)))), (q2, .inl (cI, 24, .inl (fun j => nI ((fun _ => 0) j)))), (q3, .inl (cI, 24, .inl (fun j => nI ((fun _ => 0) j)))), (q4, .inl (cI, 24, .inl (fun j => nI ((fun _ => 0) j))))]) hx hb hK hP hD hS 1 0 rfl rfl (i := 0) (by decide) (by decide) (by rw [nI_upd]; rfl) dX3_init_68 (fun H locs hP hD hS => ?_)
  refine lv_aload_n hx hb dX3_init_69 rfl (lv_at hl 1 rfl) ?_
  refine va_get (D := D) (ci := 2) (v := .ref q2) (C := RX3) (T := TX3) (N := 5) hx hb hts in_X3_init_X3 hown hK hP 0 rfl rfl 1 (by decide) (hts _ mm_X3_init_f15) (fun _ h9 => h9) rfl dX3_init_70 ?_
  refine lv_iload_n hx hb dX3_init_73 rfl (lv_at hl 0 rfl) ?_
  refine lv_iconst (v := mI 0) hx hb dX3_init_74 (by decide) ?_
  have hP : va_P D vwCl [(h0, .inr (2, [.ref q1, .ref q2, .ref q3, .ref q4, .int (nI 0)])), (q1, .inl (cI, 24, .inl (fun j => nI ((va_up (fun _ => 0) 0 0) j)))), (q2, .inl (cI, 24, .inl (fun j => mI ((fun _ => 1) j)))), (q3, .inl (cI, 24, .inl (fun j => nI ((fun _ => 0) j)))), (q4, .inl (cI, 24, .inl (fun j => nI ((fun _ => 0) j))))] H := by rw [← z_nm]; exact hP
  have hD : va_D A [(h0, .inr (2, [.ref q1, .ref q2, .ref q3, .ref q4, .int (nI 0)])), (q1, .inl (cI, 24, .inl (fun j => nI ((va_up (fun _ => 0) 0 0) j)))), (q2, .inl (cI, 24, .inl (fun j => mI ((fun _ => 1) j)))), (q3, .inl (cI, 24, .inl (fun j => nI ((fun _ => 0) j)))), (q4, .inl (cI, 24, .inl (fun j => nI ((fun _ => 0) j))))] := by rw [← z_nm]; exact hD
  refine n_ast (ws' := [(h0, .inr (2, [.ref q1, .ref q2, .ref q3, .ref q4, .int (nI 0)])), (q1, .inl (cI, 24, .inl (fun j => nI ((va_up (fun _ => 0) 0 0) j)))), (q2, .inl (cI, 24, .inl (fun j => mI ((va_up (fun _ => 1) 0 0) j)))), (q3, .inl (cI, 24, .inl (fun j => nI ((fun _ => 0) j)))), (q4, .inl (cI, 24, .inl (fun j => nI ((fun _ => 0) j))))]) hx hb hK hP hD hS 2 0 rfl rfl (i := 0) (by decide) (by decide) (by rw [mI_upd]; rfl) dX3_init_75 (fun H locs hP hD hS => ?_)
  refine lv_aload_n hx hb dX3_init_76 rfl (lv_at hl 1 rfl) ?_
  refine va_get (D := D) (ci := 2) (v := .ref q3) (C := RX3) (T := TX3) (N := 5) hx hb hts in_X3_init_X3 hown hK hP 0 rfl rfl 2 (by decide) (hts _ mm_X3_init_f18) (fun _ h9 => h9) rfl dX3_init_77 ?_
  refine lv_iload_n hx hb dX3_init_80 rfl (lv_at hl 0 rfl) ?_
  refine lv_iconst (v := mI 0) hx hb dX3_init_81 (by decide) ?_
  have hP : va_P D vwCl [(h0, .inr (2, [.ref q1, .ref q2, .ref q3, .ref q4, .int (nI 0)])), (q1, .inl (cI, 24, .inl (fun j => nI ((va_up (fun _ => 0) 0 0) j)))), (q2, .inl (cI, 24, .inl (fun j => mI ((va_up (fun _ => 1) 0 0) j)))), (q3, .inl (cI, 24, .inl (fun j => mI ((fun _ => 1) j)))), (q4, .inl (cI, 24, .inl (fun j => nI ((fun _ => 0) j))))] H := by rw [← z_nm]; exact hP
  have hD : va_D A [(h0, .inr (2, [.ref q1, .ref q2, .ref q3, .ref q4, .int (nI 0)])), (q1, .inl (cI, 24, .inl (fun j => nI ((va_up (fun _ => 0) 0 0) j)))), (q2, .inl (cI, 24, .inl (fun j => mI ((va_up (fun _ => 1) 0 0) j)))), (q3, .inl (cI, 24, .inl (fun j => mI ((fun _ => 1) j)))), (q4, .inl (cI, 24, .inl (fun j => nI ((fun _ => 0) j))))] := by rw [← z_nm]; exact hD
  refine n_ast (ws' := [(h0, .inr (2, [.ref q1, .ref q2, .ref q3, .ref q4, .int (nI 0)])), (q1, .inl (cI, 24, .inl (fun j => nI ((va_up (fun _ => 0) 0 0) j)))), (q2, .inl (cI, 24, .inl (fun j => mI ((va_up (fun _ => 1) 0 0) j)))), (q3, .inl (cI, 24, .inl (fun j => mI ((va_up (fun _ => 1) 0 0) j)))), (q4, .inl (cI, 24, .inl (fun j => nI ((fun _ => 0) j))))]) hx hb hK hP hD hS 3 0 rfl rfl (i := 0) (by decide) (by decide) (by rw [mI_upd]; rfl) dX3_init_82 (fun H locs hP hD hS => ?_)
  refine lv_aload_n hx hb dX3_init_83 rfl (lv_at hl 1 rfl) ?_
  refine va_get (D := D) (ci := 2) (v := .ref q4) (C := RX3) (T := TX3) (N := 5) hx hb hts in_X3_init_X3 hown hK hP 0 rfl rfl 3 (by decide) (hts _ mm_X3_init_f21) (fun _ h9 => h9) rfl dX3_init_84 ?_
  refine lv_iload_n hx hb dX3_init_87 rfl (lv_at hl 0 rfl) ?_
  refine lv_iconst (v := mI 0) hx hb dX3_init_88 (by decide) ?_
  have hP : va_P D vwCl [(h0, .inr (2, [.ref q1, .ref q2, .ref q3, .ref q4, .int (nI 0)])), (q1, .inl (cI, 24, .inl (fun j => nI ((va_up (fun _ => 0) 0 0) j)))), (q2, .inl (cI, 24, .inl (fun j => mI ((va_up (fun _ => 1) 0 0) j)))), (q3, .inl (cI, 24, .inl (fun j => mI ((va_up (fun _ => 1) 0 0) j)))), (q4, .inl (cI, 24, .inl (fun j => mI ((fun _ => 1) j))))] H := by rw [← z_nm]; exact hP
  have hD : va_D A [(h0, .inr (2, [.ref q1, .ref q2, .ref q3, .ref q4, .int (nI 0)])), (q1, .inl (cI, 24, .inl (fun j => nI ((va_up (fun _ => 0) 0 0) j)))), (q2, .inl (cI, 24, .inl (fun j => mI ((va_up (fun _ => 1) 0 0) j)))), (q3, .inl (cI, 24, .inl (fun j => mI ((va_up (fun _ => 1) 0 0) j)))), (q4, .inl (cI, 24, .inl (fun j => mI ((fun _ => 1) j))))] := by rw [← z_nm]; exact hD
  refine n_ast (ws' := [(h0, .inr (2, [.ref q1, .ref q2, .ref q3, .ref q4, .int (nI 0)])), (q1, .inl (cI, 24, .inl (fun j => nI ((va_up (fun _ => 0) 0 0) j)))), (q2, .inl (cI, 24, .inl (fun j => mI ((va_up (fun _ => 1) 0 0) j)))), (q3, .inl (cI, 24, .inl (fun j => mI ((va_up (fun _ => 1) 0 0) j)))), (q4, .inl (cI, 24, .inl (fun j => mI ((va_up (fun _ => 1) 0 0) j))))]) hx hb hK hP hD hS 4 0 rfl rfl (i := 0) (by decide) (by decide) (by rw [mI_upd]; rfl) dX3_init_89 (fun H locs hP hD hS => ?_)
  refine lv_iinc (v := nI 1) (lv' := [(1, .int (nI 1)), (0, .ref h0)]) hx hb dX3_init_90 hl (k := 0) rfl (by decide +kernel) (by decide) rfl (fun ls hl => ?_)
  refine lv_goto (tgt := 38) hx hb dX3_init_93 (by decide) ?_
  refine lv_iload_n hx hb dX3_init_38 rfl (lv_at hl 0 rfl) ?_
  refine lv_bipush (v := nI 7) hx hb dX3_init_39 (by decide) ?_
  refine n_icmp_ge hx hb (tgt := 96) (by decide) (by decide) dX3_init_41 (by decide) (fun c9 => absurd c9 (by decide)) (fun c9 => ?_)
  refine lv_aload_n hx hb dX3_init_44 rfl (lv_at hl 1 rfl) ?_
  refine va_get (D := D) (ci := 2) (v := .ref q1) (C := RX3) (T := TX3) (N := 5) hx hb hts in_X3_init_X3 hown hK hP 0 rfl rfl 0 (by decide) (hts _ mm_X3_init_f9) (fun _ h9 => h9) rfl dX3_init_45 ?_
  refine lv_iload_n hx hb dX3_init_48 rfl (lv_at hl 0 rfl) ?_
  refine lv_iload_n hx hb dX3_init_49 rfl (lv_at hl 0 rfl) ?_
  refine lv_iconst (v := nI 3) hx hb dX3_init_50 (by decide) ?_
  refine n_icmp_ge hx hb (tgt := 58) (by decide) (by decide) dX3_init_51 (by decide) (fun c9 => absurd c9 (by decide)) (fun c9 => ?_)
  refine lv_iconst (v := nI 0) hx hb dX3_init_54 (by decide) ?_
  refine lv_goto (tgt := 68) hx hb dX3_init_55 (by decide) ?_
  refine n_ast (ws' := [(h0, .inr (2, [.ref q1, .ref q2, .ref q3, .ref q4, .int (nI 0)])), (q1, .inl (cI, 24, .inl (fun j => nI ((va_up (va_up (fun _ => 0) 0 0) 1 0) j)))), (q2, .inl (cI, 24, .inl (fun j => mI ((va_up (fun _ => 1) 0 0) j)))), (q3, .inl (cI, 24, .inl (fun j => mI ((va_up (fun _ => 1) 0 0) j)))), (q4, .inl (cI, 24, .inl (fun j => mI ((va_up (fun _ => 1) 0 0) j))))]) hx hb hK hP hD hS 1 0 rfl rfl (i := 1) (by decide) (by decide) (by rw [nI_upd]; rfl) dX3_init_68 (fun H locs hP hD hS => ?_)
  refine lv_aload_n hx hb dX3_init_69 rfl (lv_at hl 1 rfl) ?_
  refine va_get (D := D) (ci := 2) (v := .ref q2) (C := RX3) (T := TX3) (N := 5) hx hb hts in_X3_init_X3 hown hK hP 0 rfl rfl 1 (by decide) (hts _ mm_X3_init_f15) (fun _ h9 => h9) rfl dX3_init_70 ?_
  refine lv_iload_n hx hb dX3_init_73 rfl (lv_at hl 0 rfl) ?_
  refine lv_iconst (v := mI 0) hx hb dX3_init_74 (by decide) ?_
  refine n_ast (ws' := [(h0, .inr (2, [.ref q1, .ref q2, .ref q3, .ref q4, .int (nI 0)])), (q1, .inl (cI, 24, .inl (fun j => nI ((va_up (va_up (fun _ => 0) 0 0) 1 0) j)))), (q2, .inl (cI, 24, .inl (fun j => mI ((va_up (va_up (fun _ => 1) 0 0) 1 0) j)))), (q3, .inl (cI, 24, .inl (fun j => mI ((va_up (fun _ => 1) 0 0) j)))), (q4, .inl (cI, 24, .inl (fun j => mI ((va_up (fun _ => 1) 0 0) j))))]) hx hb hK hP hD hS 2 0 rfl rfl (i := 1) (by decide) (by decide) (by rw [mI_upd]; rfl) dX3_init_75 (fun H locs hP hD hS => ?_)
  refine lv_aload_n hx hb dX3_init_76 rfl (lv_at hl 1 rfl) ?_
  refine va_get (D := D) (ci := 2) (v := .ref q3) (C := RX3) (T := TX3) (N := 5) hx hb hts in_X3_init_X3 hown hK hP 0 rfl rfl 2 (by decide) (hts _ mm_X3_init_f18) (fun _ h9 => h9) rfl dX3_init_77 ?_
  refine lv_iload_n hx hb dX3_init_80 rfl (lv_at hl 0 rfl) ?_
  refine lv_iconst (v := mI 0) hx hb dX3_init_81 (by decide) ?_
  refine n_ast (ws' := [(h0, .inr (2, [.ref q1, .ref q2, .ref q3, .ref q4, .int (nI 0)])), (q1, .inl (cI, 24, .inl (fun j => nI ((va_up (va_up (fun _ => 0) 0 0) 1 0) j)))), (q2, .inl (cI, 24, .inl (fun j => mI ((va_up (va_up (fun _ => 1) 0 0) 1 0) j)))), (q3, .inl (cI, 24, .inl (fun j => mI ((va_up (va_up (fun _ => 1) 0 0) 1 0) j)))), (q4, .inl (cI, 24, .inl (fun j => mI ((va_up (fun _ => 1) 0 0) j))))]) hx hb hK hP hD hS 3 0 rfl rfl (i := 1) (by decide) (by decide) (by rw [mI_upd]; rfl) dX3_init_82 (fun H locs hP hD hS => ?_)
  refine lv_aload_n hx hb dX3_init_83 rfl (lv_at hl 1 rfl) ?_
  refine va_get (D := D) (ci := 2) (v := .ref q4) (C := RX3) (T := TX3) (N := 5) hx hb hts in_X3_init_X3 hown hK hP 0 rfl rfl 3 (by decide) (hts _ mm_X3_init_f21) (fun _ h9 => h9) rfl dX3_init_84 ?_
  refine lv_iload_n hx hb dX3_init_87 rfl (lv_at hl 0 rfl) ?_
  refine lv_iconst (v := mI 0) hx hb dX3_init_88 (by decide) ?_
  refine n_ast (ws' := [(h0, .inr (2, [.ref q1, .ref q2, .ref q3, .ref q4, .int (nI 0)])), (q1, .inl (cI, 24, .inl (fun j => nI ((va_up (va_up (fun _ => 0) 0 0) 1 0) j)))), (q2, .inl (cI, 24, .inl (fun j => mI ((va_up (va_up (fun _ => 1) 0 0) 1 0) j)))), (q3, .inl (cI, 24, .inl (fun j => mI ((va_up (va_up (fun _ => 1) 0 0) 1 0) j)))), (q4, .inl (cI, 24, .inl (fun j => mI ((va_up (va_up (fun _ => 1) 0 0) 1 0) j))))]) hx hb hK hP hD hS 4 0 rfl rfl (i := 1) (by decide) (by decide) (by rw [mI_upd]; rfl) dX3_init_89 (fun H locs hP hD hS => ?_)
  refine lv_iinc (v := nI 2) (lv' := [(1, .int (nI 2)), (0, .ref h0)]) hx hb dX3_init_90 hl (k := 0) rfl (by decide +kernel) (by decide) rfl (fun ls hl => ?_)
  refine lv_goto (tgt := 38) hx hb dX3_init_93 (by decide) ?_
  refine lv_iload_n hx hb dX3_init_38 rfl (lv_at hl 0 rfl) ?_
  refine lv_bipush (v := nI 7) hx hb dX3_init_39 (by decide) ?_
  refine n_icmp_ge hx hb (tgt := 96) (by decide) (by decide) dX3_init_41 (by decide) (fun c9 => absurd c9 (by decide)) (fun c9 => ?_)
  refine lv_aload_n hx hb dX3_init_44 rfl (lv_at hl 1 rfl) ?_
  refine va_get (D := D) (ci := 2) (v := .ref q1) (C := RX3) (T := TX3) (N := 5) hx hb hts in_X3_init_X3 hown hK hP 0 rfl rfl 0 (by decide) (hts _ mm_X3_init_f9) (fun _ h9 => h9) rfl dX3_init_45 ?_
  refine lv_iload_n hx hb dX3_init_48 rfl (lv_at hl 0 rfl) ?_
  refine lv_iload_n hx hb dX3_init_49 rfl (lv_at hl 0 rfl) ?_
  refine lv_iconst (v := nI 3) hx hb dX3_init_50 (by decide) ?_
  refine n_icmp_ge hx hb (tgt := 58) (by decide) (by decide) dX3_init_51 (by decide) (fun c9 => absurd c9 (by decide)) (fun c9 => ?_)
  refine lv_iconst (v := nI 0) hx hb dX3_init_54 (by decide) ?_
  refine lv_goto (tgt := 68) hx hb dX3_init_55 (by decide) ?_
  refine n_ast (ws' := [(h0, .inr (2, [.ref q1, .ref q2, .ref q3, .ref q4, .int (nI 0)])), (q1, .inl (cI, 24, .inl (fun j => nI ((va_up (va_up (va_up (fun _ => 0) 0 0) 1 0) 2 0) j)))), (q2, .inl (cI, 24, .inl (fun j => mI ((va_up (va_up (fun _ => 1) 0 0) 1 0) j)))), (q3, .inl (cI, 24, .inl (fun j => mI ((va_up (va_up (fun _ => 1) 0 0) 1 0) j)))), (q4, .inl (cI, 24, .inl (fun j => mI ((va_up (va_up (fun _ => 1) 0 0) 1 0) j))))]) hx hb hK hP hD hS 1 0 rfl rfl (i := 2) (by decide) (by decide) (by rw [nI_upd]; rfl) dX3_init_68 (fun H locs hP hD hS => ?_)
  refine lv_aload_n hx hb dX3_init_69 rfl (lv_at hl 1 rfl) ?_
  refine va_get (D := D) (ci := 2) (v := .ref q2) (C := RX3) (T := TX3) (N := 5) hx hb hts in_X3_init_X3 hown hK hP 0 rfl rfl 1 (by decide) (hts _ mm_X3_init_f15) (fun _ h9 => h9) rfl dX3_init_70 ?_
  refine lv_iload_n hx hb dX3_init_73 rfl (lv_at hl 0 rfl) ?_
  refine lv_iconst (v := mI 0) hx hb dX3_init_74 (by decide) ?_
  refine n_ast (ws' := [(h0, .inr (2, [.ref q1, .ref q2, .ref q3, .ref q4, .int (nI 0)])), (q1, .inl (cI, 24, .inl (fun j => nI ((va_up (va_up (va_up (fun _ => 0) 0 0) 1 0) 2 0) j)))), (q2, .inl (cI, 24, .inl (fun j => mI ((va_up (va_up (va_up (fun _ => 1) 0 0) 1 0) 2 0) j)))), (q3, .inl (cI, 24, .inl (fun j => mI ((va_up (va_up (fun _ => 1) 0 0) 1 0) j)))), (q4, .inl (cI, 24, .inl (fun j => mI ((va_up (va_up (fun _ => 1) 0 0) 1 0) j))))]) hx hb hK hP hD hS 2 0 rfl rfl (i := 2) (by decide) (by decide) (by rw [mI_upd]; rfl) dX3_init_75 (fun H locs hP hD hS => ?_)
  refine lv_aload_n hx hb dX3_init_76 rfl (lv_at hl 1 rfl) ?_
  refine va_get (D := D) (ci := 2) (v := .ref q3) (C := RX3) (T := TX3) (N := 5) hx hb hts in_X3_init_X3 hown hK hP 0 rfl rfl 2 (by decide) (hts _ mm_X3_init_f18) (fun _ h9 => h9) rfl dX3_init_77 ?_
  refine lv_iload_n hx hb dX3_init_80 rfl (lv_at hl 0 rfl) ?_
  refine lv_iconst (v := mI 0) hx hb dX3_init_81 (by decide) ?_
  refine n_ast (ws' := [(h0, .inr (2, [.ref q1, .ref q2, .ref q3, .ref q4, .int (nI 0)])), (q1, .inl (cI, 24, .inl (fun j => nI ((va_up (va_up (va_up (fun _ => 0) 0 0) 1 0) 2 0) j)))), (q2, .inl (cI, 24, .inl (fun j => mI ((va_up (va_up (va_up (fun _ => 1) 0 0) 1 0) 2 0) j)))), (q3, .inl (cI, 24, .inl (fun j => mI ((va_up (va_up (va_up (fun _ => 1) 0 0) 1 0) 2 0) j)))), (q4, .inl (cI, 24, .inl (fun j => mI ((va_up (va_up (fun _ => 1) 0 0) 1 0) j))))]) hx hb hK hP hD hS 3 0 rfl rfl (i := 2) (by decide) (by decide) (by rw [mI_upd]; rfl) dX3_init_82 (fun H locs hP hD hS => ?_)
  refine lv_aload_n hx hb dX3_init_83 rfl (lv_at hl 1 rfl) ?_
  refine va_get (D := D) (ci := 2) (v := .ref q4) (C := RX3) (T := TX3) (N := 5) hx hb hts in_X3_init_X3 hown hK hP 0 rfl rfl 3 (by decide) (hts _ mm_X3_init_f21) (fun _ h9 => h9) rfl dX3_init_84 ?_
  refine lv_iload_n hx hb dX3_init_87 rfl (lv_at hl 0 rfl) ?_
  refine lv_iconst (v := mI 0) hx hb dX3_init_88 (by decide) ?_
  refine n_ast (ws' := [(h0, .inr (2, [.ref q1, .ref q2, .ref q3, .ref q4, .int (nI 0)])), (q1, .inl (cI, 24, .inl (fun j => nI ((va_up (va_up (va_up (fun _ => 0) 0 0) 1 0) 2 0) j)))), (q2, .inl (cI, 24, .inl (fun j => mI ((va_up (va_up (va_up (fun _ => 1) 0 0) 1 0) 2 0) j)))), (q3, .inl (cI, 24, .inl (fun j => mI ((va_up (va_up (va_up (fun _ => 1) 0 0) 1 0) 2 0) j)))), (q4, .inl (cI, 24, .inl (fun j => mI ((va_up (va_up (va_up (fun _ => 1) 0 0) 1 0) 2 0) j))))]) hx hb hK hP hD hS 4 0 rfl rfl (i := 2) (by decide) (by decide) (by rw [mI_upd]; rfl) dX3_init_89 (fun H locs hP hD hS => ?_)
  refine lv_iinc (v := nI 3) (lv' := [(1, .int (nI 3)), (0, .ref h0)]) hx hb dX3_init_90 hl (k := 0) rfl (by decide +kernel) (by decide) rfl (fun ls hl => ?_)
  refine lv_goto (tgt := 38) hx hb dX3_init_93 (by decide) ?_
  refine lv_iload_n hx hb dX3_init_38 rfl (lv_at hl 0 rfl) ?_
  refine lv_bipush (v := nI 7) hx hb dX3_init_39 (by decide) ?_
  refine n_icmp_ge hx hb (tgt := 96) (by decide) (by decide) dX3_init_41 (by decide) (fun c9 => absurd c9 (by decide)) (fun c9 => ?_)
  refine lv_aload_n hx hb dX3_init_44 rfl (lv_at hl 1 rfl) ?_
  refine va_get (D := D) (ci := 2) (v := .ref q1) (C := RX3) (T := TX3) (N := 5) hx hb hts in_X3_init_X3 hown hK hP 0 rfl rfl 0 (by decide) (hts _ mm_X3_init_f9) (fun _ h9 => h9) rfl dX3_init_45 ?_
  refine lv_iload_n hx hb dX3_init_48 rfl (lv_at hl 0 rfl) ?_
  refine lv_iload_n hx hb dX3_init_49 rfl (lv_at hl 0 rfl) ?_
  refine lv_iconst (v := nI 3) hx hb dX3_init_50 (by decide) ?_
  refine n_icmp_ge hx hb (tgt := 58) (by decide) (by decide) dX3_init_51 (by decide) (fun c9 => ?_) (fun c9 => absurd c9 (by decide))
  refine lv_iload_n hx hb dX3_init_58 rfl (lv_at hl 0 rfl) ?_
  refine lv_iconst (v := nI 5) hx hb dX3_init_59 (by decide) ?_
  refine n_icmp_ge hx hb (tgt := 67) (by decide) (by decide) dX3_init_60 (by decide) (fun c9 => absurd c9 (by decide)) (fun c9 => ?_)
  refine lv_iconst (v := nI 1) hx hb dX3_init_63 (by decide) ?_
  refine lv_goto (tgt := 68) hx hb dX3_init_64 (by decide) ?_
  refine n_ast (ws' := [(h0, .inr (2, [.ref q1, .ref q2, .ref q3, .ref q4, .int (nI 0)])), (q1, .inl (cI, 24, .inl (fun j => nI ((va_up (va_up (va_up (va_up (fun _ => 0) 0 0) 1 0) 2 0) 3 1) j)))), (q2, .inl (cI, 24, .inl (fun j => mI ((va_up (va_up (va_up (fun _ => 1) 0 0) 1 0) 2 0) j)))), (q3, .inl (cI, 24, .inl (fun j => mI ((va_up (va_up (va_up (fun _ => 1) 0 0) 1 0) 2 0) j)))), (q4, .inl (cI, 24, .inl (fun j => mI ((va_up (va_up (va_up (fun _ => 1) 0 0) 1 0) 2 0) j))))]) hx hb hK hP hD hS 1 0 rfl rfl (i := 3) (by decide) (by decide) (by rw [nI_upd]; rfl) dX3_init_68 (fun H locs hP hD hS => ?_)
  refine lv_aload_n hx hb dX3_init_69 rfl (lv_at hl 1 rfl) ?_
  refine va_get (D := D) (ci := 2) (v := .ref q2) (C := RX3) (T := TX3) (N := 5) hx hb hts in_X3_init_X3 hown hK hP 0 rfl rfl 1 (by decide) (hts _ mm_X3_init_f15) (fun _ h9 => h9) rfl dX3_init_70 ?_
  refine lv_iload_n hx hb dX3_init_73 rfl (lv_at hl 0 rfl) ?_
  refine lv_iconst (v := mI 0) hx hb dX3_init_74 (by decide) ?_
  refine n_ast (ws' := [(h0, .inr (2, [.ref q1, .ref q2, .ref q3, .ref q4, .int (nI 0)])), (q1, .inl (cI, 24, .inl (fun j => nI ((va_up (va_up (va_up (va_up (fun _ => 0) 0 0) 1 0) 2 0) 3 1) j)))), (q2, .inl (cI, 24, .inl (fun j => mI ((va_up (va_up (va_up (va_up (fun _ => 1) 0 0) 1 0) 2 0) 3 0) j)))), (q3, .inl (cI, 24, .inl (fun j => mI ((va_up (va_up (va_up (fun _ => 1) 0 0) 1 0) 2 0) j)))), (q4, .inl (cI, 24, .inl (fun j => mI ((va_up (va_up (va_up (fun _ => 1) 0 0) 1 0) 2 0) j))))]) hx hb hK hP hD hS 2 0 rfl rfl (i := 3) (by decide) (by decide) (by rw [mI_upd]; rfl) dX3_init_75 (fun H locs hP hD hS => ?_)
  refine lv_aload_n hx hb dX3_init_76 rfl (lv_at hl 1 rfl) ?_
  refine va_get (D := D) (ci := 2) (v := .ref q3) (C := RX3) (T := TX3) (N := 5) hx hb hts in_X3_init_X3 hown hK hP 0 rfl rfl 2 (by decide) (hts _ mm_X3_init_f18) (fun _ h9 => h9) rfl dX3_init_77 ?_
  refine lv_iload_n hx hb dX3_init_80 rfl (lv_at hl 0 rfl) ?_
  refine lv_iconst (v := mI 0) hx hb dX3_init_81 (by decide) ?_
  refine n_ast (ws' := [(h0, .inr (2, [.ref q1, .ref q2, .ref q3, .ref q4, .int (nI 0)])), (q1, .inl (cI, 24, .inl (fun j => nI ((va_up (va_up (va_up (va_up (fun _ => 0) 0 0) 1 0) 2 0) 3 1) j)))), (q2, .inl (cI, 24, .inl (fun j => mI ((va_up (va_up (va_up (va_up (fun _ => 1) 0 0) 1 0) 2 0) 3 0) j)))), (q3, .inl (cI, 24, .inl (fun j => mI ((va_up (va_up (va_up (va_up (fun _ => 1) 0 0) 1 0) 2 0) 3 0) j)))), (q4, .inl (cI, 24, .inl (fun j => mI ((va_up (va_up (va_up (fun _ => 1) 0 0) 1 0) 2 0) j))))]) hx hb hK hP hD hS 3 0 rfl rfl (i := 3) (by decide) (by decide) (by rw [mI_upd]; rfl) dX3_init_82 (fun H locs hP hD hS => ?_)
  refine lv_aload_n hx hb dX3_init_83 rfl (lv_at hl 1 rfl) ?_
  refine va_get (D := D) (ci := 2) (v := .ref q4) (C := RX3) (T := TX3) (N := 5) hx hb hts in_X3_init_X3 hown hK hP 0 rfl rfl 3 (by decide) (hts _ mm_X3_init_f21) (fun _ h9 => h9) rfl dX3_init_84 ?_
  refine lv_iload_n hx hb dX3_init_87 rfl (lv_at hl 0 rfl) ?_
  refine lv_iconst (v := mI 0) hx hb dX3_init_88 (by decide) ?_
  refine n_ast (ws' := [(h0, .inr (2, [.ref q1, .ref q2, .ref q3, .ref q4, .int (nI 0)])), (q1, .inl (cI, 24, .inl (fun j => nI ((va_up (va_up (va_up (va_up (fun _ => 0) 0 0) 1 0) 2 0) 3 1) j)))), (q2, .inl (cI, 24, .inl (fun j => mI ((va_up (va_up (va_up (va_up (fun _ => 1) 0 0) 1 0) 2 0) 3 0) j)))), (q3, .inl (cI, 24, .inl (fun j => mI ((va_up (va_up (va_up (va_up (fun _ => 1) 0 0) 1 0) 2 0) 3 0) j)))), (q4, .inl (cI, 24, .inl (fun j => mI ((va_up (va_up (va_up (va_up (fun _ => 1) 0 0) 1 0) 2 0) 3 0) j))))]) hx hb hK hP hD hS 4 0 rfl rfl (i := 3) (by decide) (by decide) (by rw [mI_upd]; rfl) dX3_init_89 (fun H locs hP hD hS => ?_)
  refine lv_iinc (v := nI 4) (lv' := [(1, .int (nI 4)), (0, .ref h0)]) hx hb dX3_init_90 hl (k := 0) rfl (by decide +kernel) (by decide) rfl (fun ls hl => ?_)
  refine lv_goto (tgt := 38) hx hb dX3_init_93 (by decide) ?_
  refine lv_iload_n hx hb dX3_init_38 rfl (lv_at hl 0 rfl) ?_
  refine lv_bipush (v := nI 7) hx hb dX3_init_39 (by decide) ?_
  refine n_icmp_ge hx hb (tgt := 96) (by decide) (by decide) dX3_init_41 (by decide) (fun c9 => absurd c9 (by decide)) (fun c9 => ?_)
  refine lv_aload_n hx hb dX3_init_44 rfl (lv_at hl 1 rfl) ?_
  refine va_get (D := D) (ci := 2) (v := .ref q1) (C := RX3) (T := TX3) (N := 5) hx hb hts in_X3_init_X3 hown hK hP 0 rfl rfl 0 (by decide) (hts _ mm_X3_init_f9) (fun _ h9 => h9) rfl dX3_init_45 ?_
  refine lv_iload_n hx hb dX3_init_48 rfl (lv_at hl 0 rfl) ?_
  refine lv_iload_n hx hb dX3_init_49 rfl (lv_at hl 0 rfl) ?_
  refine lv_iconst (v := nI 3) hx hb dX3_init_50 (by decide) ?_
  refine n_icmp_ge hx hb (tgt := 58) (by decide) (by decide) dX3_init_51 (by decide) (fun c9 => ?_) (fun c9 => absurd c9 (by decide))
  refine lv_iload_n hx hb dX3_init_58 rfl (lv_at hl 0 rfl) ?_
  refine lv_iconst (v := nI 5) hx hb dX3_init_59 (by decide) ?_
  refine n_icmp_ge hx hb (tgt := 67) (by decide) (by decide) dX3_init_60 (by decide) (fun c9 => absurd c9 (by decide)) (fun c9 => ?_)
  refine lv_iconst (v := nI 1) hx hb dX3_init_63 (by decide) ?_
  refine lv_goto (tgt := 68) hx hb dX3_init_64 (by decide) ?_
  refine n_ast (ws' := [(h0, .inr (2, [.ref q1, .ref q2, .ref q3, .ref q4, .int (nI 0)])), (q1, .inl (cI, 24, .inl (fun j => nI ((va_up (va_up (va_up (va_up (va_up (fun _ => 0) 0 0) 1 0) 2 0) 3 1) 4 1) j)))), (q2, .inl (cI, 24, .inl (fun j => mI ((va_up (va_up (va_up (va_up (fun _ => 1) 0 0) 1 0) 2 0) 3 0) j)))), (q3, .inl (cI, 24, .inl (fun j => mI ((va_up (va_up (va_up (va_up (fun _ => 1) 0 0) 1 0) 2 0) 3 0) j)))), (q4, .inl (cI, 24, .inl (fun j => mI ((va_up (va_up (va_up (va_up (fun _ => 1) 0 0) 1 0) 2 0) 3 0) j))))]) hx hb hK hP hD hS 1 0 rfl rfl (i := 4) (by decide) (by decide) (by rw [nI_upd]; rfl) dX3_init_68 (fun H locs hP hD hS => ?_)
  refine lv_aload_n hx hb dX3_init_69 rfl (lv_at hl 1 rfl) ?_
  refine va_get (D := D) (ci := 2) (v := .ref q2) (C := RX3) (T := TX3) (N := 5) hx hb hts in_X3_init_X3 hown hK hP 0 rfl rfl 1 (by decide) (hts _ mm_X3_init_f15) (fun _ h9 => h9) rfl dX3_init_70 ?_
  refine lv_iload_n hx hb dX3_init_73 rfl (lv_at hl 0 rfl) ?_
  refine lv_iconst (v := mI 0) hx hb dX3_init_74 (by decide) ?_
  refine n_ast (ws' := [(h0, .inr (2, [.ref q1, .ref q2, .ref q3, .ref q4, .int (nI 0)])), (q1, .inl (cI, 24, .inl (fun j => nI ((va_up (va_up (va_up (va_up (va_up (fun _ => 0) 0 0) 1 0) 2 0) 3 1) 4 1) j)))), (q2, .inl (cI, 24, .inl (fun j => mI ((va_up (va_up (va_up (va_up (va_up (fun _ => 1) 0 0) 1 0) 2 0) 3 0) 4 0) j)))), (q3, .inl (cI, 24, .inl (fun j => mI ((va_up (va_up (va_up (va_up (fun _ => 1) 0 0) 1 0) 2 0) 3 0) j)))), (q4, .inl (cI, 24, .inl (fun j => mI ((va_up (va_up (va_up (va_up (fun _ => 1) 0 0) 1 0) 2 0) 3 0) j))))]) hx hb hK hP hD hS 2 0 rfl rfl (i := 4) (by decide) (by decide) (by rw [mI_upd]; rfl) dX3_init_75 (fun H locs hP hD hS => ?_)
  refine lv_aload_n hx hb dX3_init_76 rfl (lv_at hl 1 rfl) ?_
  refine va_get (D := D) (ci := 2) (v := .ref q3) (C := RX3) (T := TX3) (N := 5) hx hb hts in_X3_init_X3 hown hK hP 0 rfl rfl 2 (by decide) (hts _ mm_X3_init_f18) (fun _ h9 => h9) rfl dX3_init_77 ?_
  refine lv_iload_n hx hb dX3_init_80 rfl (lv_at hl 0 rfl) ?_
  refine lv_iconst (v := mI 0) hx hb dX3_init_81 (by decide) ?_
  refine n_ast (ws' := [(h0, .inr (2, [.ref q1, .ref q2, .ref q3, .ref q4, .int (nI 0)])), (q1, .inl (cI, 24, .inl (fun j => nI ((va_up (va_up (va_up (va_up (va_up (fun _ => 0) 0 0) 1 0) 2 0) 3 1) 4 1) j)))), (q2, .inl (cI, 24, .inl (fun j => mI ((va_up (va_up (va_up (va_up (va_up (fun _ => 1) 0 0) 1 0) 2 0) 3 0) 4 0) j)))), (q3, .inl (cI, 24, .inl (fun j => mI ((va_up (va_up (va_up (va_up (va_up (fun _ => 1) 0 0) 1 0) 2 0) 3 0) 4 0) j)))), (q4, .inl (cI, 24, .inl (fun j => mI ((va_up (va_up (va_up (va_up (fun _ => 1) 0 0) 1 0) 2 0) 3 0) j))))]) hx hb hK hP hD hS 3 0 rfl rfl (i := 4) (by decide) (by decide) (by rw [mI_upd]; rfl) dX3_init_82 (fun H locs hP hD hS => ?_)
  refine lv_aload_n hx hb dX3_init_83 rfl (lv_at hl 1 rfl) ?_
  refine va_get (D := D) (ci := 2) (v := .ref q4) (C := RX3) (T := TX3) (N := 5) hx hb hts in_X3_init_X3 hown hK hP 0 rfl rfl 3 (by decide) (hts _ mm_X3_init_f21) (fun _ h9 => h9) rfl dX3_init_84 ?_
  refine lv_iload_n hx hb dX3_init_87 rfl (lv_at hl 0 rfl) ?_
  refine lv_iconst (v := mI 0) hx hb dX3_init_88 (by decide) ?_
  refine n_ast (ws' := [(h0, .inr (2, [.ref q1, .ref q2, .ref q3, .ref q4, .int (nI 0)])), (q1, .inl (cI, 24, .inl (fun j => nI ((va_up (va_up (va_up (va_up (va_up (fun _ => 0) 0 0) 1 0) 2 0) 3 1) 4 1) j)))), (q2, .inl (cI, 24, .inl (fun j => mI ((va_up (va_up (va_up (va_up (va_up (fun _ => 1) 0 0) 1 0) 2 0) 3 0) 4 0) j)))), (q3, .inl (cI, 24, .inl (fun j => mI ((va_up (va_up (va_up (va_up (va_up (fun _ => 1) 0 0) 1 0) 2 0) 3 0) 4 0) j)))), (q4, .inl (cI, 24, .inl (fun j => mI ((va_up (va_up (va_up (va_up (va_up (fun _ => 1) 0 0) 1 0) 2 0) 3 0) 4 0) j))))]) hx hb hK hP hD hS 4 0 rfl rfl (i := 4) (by decide) (by decide) (by rw [mI_upd]; rfl) dX3_init_89 (fun H locs hP hD hS => ?_)
  refine lv_iinc (v := nI 5) (lv' := [(1, .int (nI 5)), (0, .ref h0)]) hx hb dX3_init_90 hl (k := 0) rfl (by decide +kernel) (by decide) rfl (fun ls hl => ?_)
  refine lv_goto (tgt := 38) hx hb dX3_init_93 (by decide) ?_
  refine lv_iload_n hx hb dX3_init_38 rfl (lv_at hl 0 rfl) ?_
  refine lv_bipush (v := nI 7) hx hb dX3_init_39 (by decide) ?_
  refine n_icmp_ge hx hb (tgt := 96) (by decide) (by decide) dX3_init_41 (by decide) (fun c9 => absurd c9 (by decide)) (fun c9 => ?_)
  refine lv_aload_n hx hb dX3_init_44 rfl (lv_at hl 1 rfl) ?_
  refine va_get (D := D) (ci := 2) (v := .ref q1) (C := RX3) (T := TX3) (N := 5) hx hb hts in_X3_init_X3 hown hK hP 0 rfl rfl 0 (by decide) (hts _ mm_X3_init_f9) (fun _ h9 => h9) rfl dX3_init_45 ?_
  refine lv_iload_n hx hb dX3_init_48 rfl (lv_at hl 0 rfl) ?_
  refine lv_iload_n hx hb dX3_init_49 rfl (lv_at hl 0 rfl) ?_
  refine lv_iconst (v := nI 3) hx hb dX3_init_50 (by decide) ?_
  refine n_icmp_ge hx hb (tgt := 58) (by decide) (by decide) dX3_init_51 (by decide) (fun c9 => ?_) (fun c9 => absurd c9 (by decide))
  refine lv_iload_n hx hb dX3_init_58 rfl (lv_at hl 0 rfl) ?_
  refine lv_iconst (v := nI 5) hx hb dX3_init_59 (by decide) ?_
  refine n_icmp_ge hx hb (tgt := 67) (by decide) (by decide) dX3_init_60 (by decide) (fun c9 => ?_) (fun c9 => absurd c9 (by decide))
  refine lv_iconst (v := nI 2) hx hb dX3_init_67 (by decide) ?_
  refine n_ast (ws' := [(h0, .inr (2, [.ref q1, .ref q2, .ref q3, .ref q4, .int (nI 0)])), (q1, .inl (cI, 24, .inl (fun j => nI ((va_up (va_up (va_up (va_up (va_up (va_up (fun _ => 0) 0 0) 1 0) 2 0) 3 1) 4 1) 5 2) j)))), (q2, .inl (cI, 24, .inl (fun j => mI ((va_up (va_up (va_up (va_up (va_up (fun _ => 1) 0 0) 1 0) 2 0) 3 0) 4 0) j)))), (q3, .inl (cI, 24, .inl (fun j => mI ((va_up (va_up (va_up (va_up (va_up (fun _ => 1) 0 0) 1 0) 2 0) 3 0) 4 0) j)))), (q4, .inl (cI, 24, .inl (fun j => mI ((va_up (va_up (va_up (va_up (va_up (fun _ => 1) 0 0) 1 0) 2 0) 3 0) 4 0) j))))]) hx hb hK hP hD hS 1 0 rfl rfl (i := 5) (by decide) (by decide) (by rw [nI_upd]; rfl) dX3_init_68 (fun H locs hP hD hS => ?_)
  refine lv_aload_n hx hb dX3_init_69 rfl (lv_at hl 1 rfl) ?_
  refine va_get (D := D) (ci := 2) (v := .ref q2) (C := RX3) (T := TX3) (N := 5) hx hb hts in_X3_init_X3 hown hK hP 0 rfl rfl 1 (by decide) (hts _ mm_X3_init_f15) (fun _ h9 => h9) rfl dX3_init_70 ?_
  refine lv_iload_n hx hb dX3_init_73 rfl (lv_at hl 0 rfl) ?_
  refine lv_iconst (v := mI 0) hx hb dX3_init_74 (by decide) ?_
  refine n_ast (ws' := [(h0, .inr (2, [.ref q1, .ref q2, .ref q3, .ref q4, .int (nI 0)])), (q1, .inl (cI, 24, .inl (fun j => nI ((va_up (va_up (va_up (va_up (va_up (va_up (fun _ => 0) 0 0) 1 0) 2 0) 3 1) 4 1) 5 2) j)))), (q2, .inl (cI, 24, .inl (fun j => mI ((va_up (va_up (va_up (va_up (va_up (va_up (fun _ => 1) 0 0) 1 0) 2 0) 3 0) 4 0) 5 0) j)))), (q3, .inl (cI, 24, .inl (fun j => mI ((va_up (va_up (va_up (va_up (va_up (fun _ => 1) 0 0) 1 0) 2 0) 3 0) 4 0) j)))), (q4, .inl (cI, 24, .inl (fun j => mI ((va_up (va_up (va_up (va_up (va_up (fun _ => 1) 0 0) 1 0) 2 0) 3 0) 4 0) j))))]) hx hb hK hP hD hS 2 0 rfl rfl (i := 5) (by decide) (by decide) (by rw [mI_upd]; rfl) dX3_init_75 (fun H locs hP hD hS => ?_)
  refine lv_aload_n hx hb dX3_init_76 rfl (lv_at hl 1 rfl) ?_
  refine va_get (D := D) (ci := 2) (v := .ref q3) (C := RX3) (T := TX3) (N := 5) hx hb hts in_X3_init_X3 hown hK hP 0 rfl rfl 2 (by decide) (hts _ mm_X3_init_f18) (fun _ h9 => h9) rfl dX3_init_77 ?_
  refine lv_iload_n hx hb dX3_init_80 rfl (lv_at hl 0 rfl) ?_
  refine lv_iconst (v := mI 0) hx hb dX3_init_81 (by decide) ?_
  refine n_ast (ws' := [(h0, .inr (2, [.ref q1, .ref q2, .ref q3, .ref q4, .int (nI 0)])), (q1, .inl (cI, 24, .inl (fun j => nI ((va_up (va_up (va_up (va_up (va_up (va_up (fun _ => 0) 0 0) 1 0) 2 0) 3 1) 4 1) 5 2) j)))), (q2, .inl (cI, 24, .inl (fun j => mI ((va_up (va_up (va_up (va_up (va_up (va_up (fun _ => 1) 0 0) 1 0) 2 0) 3 0) 4 0) 5 0) j)))), (q3, .inl (cI, 24, .inl (fun j => mI ((va_up (va_up (va_up (va_up (va_up (va_up (fun _ => 1) 0 0) 1 0) 2 0) 3 0) 4 0) 5 0) j)))), (q4, .inl (cI, 24, .inl (fun j => mI ((va_up (va_up (va_up (va_up (va_up (fun _ => 1) 0 0) 1 0) 2 0) 3 0) 4 0) j))))]) hx hb hK hP hD hS 3 0 rfl rfl (i := 5) (by decide) (by decide) (by rw [mI_upd]; rfl) dX3_init_82 (fun H locs hP hD hS => ?_)
  refine lv_aload_n hx hb dX3_init_83 rfl (lv_at hl 1 rfl) ?_
  refine va_get (D := D) (ci := 2) (v := .ref q4) (C := RX3) (T := TX3) (N := 5) hx hb hts in_X3_init_X3 hown hK hP 0 rfl rfl 3 (by decide) (hts _ mm_X3_init_f21) (fun _ h9 => h9) rfl dX3_init_84 ?_
  refine lv_iload_n hx hb dX3_init_87 rfl (lv_at hl 0 rfl) ?_
  refine lv_iconst (v := mI 0) hx hb dX3_init_88 (by decide) ?_
  refine n_ast (ws' := [(h0, .inr (2, [.ref q1, .ref q2, .ref q3, .ref q4, .int (nI 0)])), (q1, .inl (cI, 24, .inl (fun j => nI ((va_up (va_up (va_up (va_up (va_up (va_up (fun _ => 0) 0 0) 1 0) 2 0) 3 1) 4 1) 5 2) j)))), (q2, .inl (cI, 24, .inl (fun j => mI ((va_up (va_up (va_up (va_up (va_up (va_up (fun _ => 1) 0 0) 1 0) 2 0) 3 0) 4 0) 5 0) j)))), (q3, .inl (cI, 24, .inl (fun j => mI ((va_up (va_up (va_up (va_up (va_up (va_up (fun _ => 1) 0 0) 1 0) 2 0) 3 0) 4 0) 5 0) j)))), (q4, .inl (cI, 24, .inl (fun j => mI ((va_up (va_up (va_up (va_up (va_up (va_up (fun _ => 1) 0 0) 1 0) 2 0) 3 0) 4 0) 5 0) j))))]) hx hb hK hP hD hS 4 0 rfl rfl (i := 5) (by decide) (by decide) (by rw [mI_upd]; rfl) dX3_init_89 (fun H locs hP hD hS => ?_)
  refine lv_iinc (v := nI 6) (lv' := [(1, .int (nI 6)), (0, .ref h0)]) hx hb dX3_init_90 hl (k := 0) rfl (by decide +kernel) (by decide) rfl (fun ls hl => ?_)
  refine lv_goto (tgt := 38) hx hb dX3_init_93 (by decide) ?_
  refine lv_iload_n hx hb dX3_init_38 rfl (lv_at hl 0 rfl) ?_
  refine lv_bipush (v := nI 7) hx hb dX3_init_39 (by decide) ?_
  refine n_icmp_ge hx hb (tgt := 96) (by decide) (by decide) dX3_init_41 (by decide) (fun c9 => absurd c9 (by decide)) (fun c9 => ?_)
  refine lv_aload_n hx hb dX3_init_44 rfl (lv_at hl 1 rfl) ?_
  refine va_get (D := D) (ci := 2) (v := .ref q1) (C := RX3) (T := TX3) (N := 5) hx hb hts in_X3_init_X3 hown hK hP 0 rfl rfl 0 (by decide) (hts _ mm_X3_init_f9) (fun _ h9 => h9) rfl dX3_init_45 ?_
  refine lv_iload_n hx hb dX3_init_48 rfl (lv_at hl 0 rfl) ?_
  refine lv_iload_n hx hb dX3_init_49 rfl (lv_at hl 0 rfl) ?_
  refine lv_iconst (v := nI 3) hx hb dX3_init_50 (by decide) ?_
  refine n_icmp_ge hx hb (tgt := 58) (by decide) (by decide) dX3_init_51 (by decide) (fun c9 => ?_) (fun c9 => absurd c9 (by decide))
  refine lv_iload_n hx hb dX3_init_58 rfl (lv_at hl 0 rfl) ?_
  refine lv_iconst (v := nI 5) hx hb dX3_init_59 (by decide) ?_
  refine n_icmp_ge hx hb (tgt := 67) (by decide) (by decide) dX3_init_60 (by decide) (fun c9 => ?_) (fun c9 => absurd c9 (by decide))
  refine lv_iconst (v := nI 2) hx hb dX3_init_67 (by decide) ?_
  refine n_ast (ws' := [(h0, .inr (2, [.ref q1, .ref q2, .ref q3, .ref q4, .int (nI 0)])), (q1, .inl (cI, 24, .inl (fun j => nI ((va_up (va_up (va_up (va_up (va_up (va_up (va_up (fun _ => 0) 0 0) 1 0) 2 0) 3 1) 4 1) 5 2) 6 2) j)))), (q2, .inl (cI, 24, .inl (fun j => mI ((va_up (va_up (va_up (va_up (va_up (va_up (fun _ => 1) 0 0) 1 0) 2 0) 3 0) 4 0) 5 0) j)))), (q3, .inl (cI, 24, .inl (fun j => mI ((va_up (va_up (va_up (va_up (va_up (va_up (fun _ => 1) 0 0) 1 0) 2 0) 3 0) 4 0) 5 0) j)))), (q4, .inl (cI, 24, .inl (fun j => mI ((va_up (va_up (va_up (va_up (va_up (va_up (fun _ => 1) 0 0) 1 0) 2 0) 3 0) 4 0) 5 0) j))))]) hx hb hK hP hD hS 1 0 rfl rfl (i := 6) (by decide) (by decide) (by rw [nI_upd]; rfl) dX3_init_68 (fun H locs hP hD hS => ?_)
  refine lv_aload_n hx hb dX3_init_69 rfl (lv_at hl 1 rfl) ?_
  refine va_get (D := D) (ci := 2) (v := .ref q2) (C := RX3) (T := TX3) (N := 5) hx hb hts in_X3_init_X3 hown hK hP 0 rfl rfl 1 (by decide) (hts _ mm_X3_init_f15) (fun _ h9 => h9) rfl dX3_init_70 ?_
  refine lv_iload_n hx hb dX3_init_73 rfl (lv_at hl 0 rfl) ?_
  refine lv_iconst (v := mI 0) hx hb dX3_init_74 (by decide) ?_
  refine n_ast (ws' := [(h0, .inr (2, [.ref q1, .ref q2, .ref q3, .ref q4, .int (nI 0)])), (q1, .inl (cI, 24, .inl (fun j => nI ((va_up (va_up (va_up (va_up (va_up (va_up (va_up (fun _ => 0) 0 0) 1 0) 2 0) 3 1) 4 1) 5 2) 6 2) j)))), (q2, .inl (cI, 24, .inl (fun j => mI ((va_up (va_up (va_up (va_up (va_up (va_up (va_up (fun _ => 1) 0 0) 1 0) 2 0) 3 0) 4 0) 5 0) 6 0) j)))), (q3, .inl (cI, 24, .inl (fun j => mI ((va_up (va_up (va_up (va_up (va_up (va_up (fun _ => 1) 0 0) 1 0) 2 0) 3 0) 4 0) 5 0) j)))), (q4, .inl (cI, 24, .inl (fun j => mI ((va_up (va_up (va_up (va_up (va_up (va_up (fun _ => 1) 0 0) 1 0) 2 0) 3 0) 4 0) 5 0) j))))]) hx hb hK hP hD hS 2 0 rfl rfl (i := 6) (by decide) (by decide) (by rw [mI_upd]; rfl) dX3_init_75 (fun H locs hP hD hS => ?_)
  refine lv_aload_n hx hb dX3_init_76 rfl (lv_at hl 1 rfl) ?_
  refine va_get (D := D) (ci := 2) (v := .ref q3) (C := RX3) (T := TX3) (N := 5) hx hb hts in_X3_init_X3 hown hK hP 0 rfl rfl 2 (by decide) (hts _ mm_X3_init_f18) (fun _ h9 => h9) rfl dX3_init_77 ?_
  refine lv_iload_n hx hb dX3_init_80 rfl (lv_at hl 0 rfl) ?_
  refine lv_iconst (v := mI 0) hx hb dX3_init_81 (by decide) ?_
  refine n_ast (ws' := [(h0, .inr (2, [.ref q1, .ref q2, .ref q3, .ref q4, .int (nI 0)])), (q1, .inl (cI, 24, .inl (fun j => nI ((va_up (va_up (va_up (va_up (va_up (va_up (va_up (fun _ => 0) 0 0) 1 0) 2 0) 3 1) 4 1) 5 2) 6 2) j)))), (q2, .inl (cI, 24, .inl (fun j => mI ((va_up (va_up (va_up (va_up (va_up (va_up (va_up (fun _ => 1) 0 0) 1 0) 2 0) 3 0) 4 0) 5 0) 6 0) j)))), (q3, .inl (cI, 24, .inl (fun j => mI ((va_up (va_up (va_up (va_up (va_up (va_up (va_up (fun _ => 1) 0 0) 1 0) 2 0) 3 0) 4 0) 5 0) 6 0) j)))), (q4, .inl (cI, 24, .inl (fun j => mI ((va_up (va_up (va_up (va_up (va_up (va_up (fun _ => 1) 0 0) 1 0) 2 0) 3 0) 4 0) 5 0) j))))]) hx hb hK hP hD hS 3 0 rfl rfl (i := 6) (by decide) (by decide) (by rw [mI_upd]; rfl) dX3_init_82 (fun H locs hP hD hS => ?_)
  refine lv_aload_n hx hb dX3_init_83 rfl (lv_at hl 1 rfl) ?_
  refine va_get (D := D) (ci := 2) (v := .ref q4) (C := RX3) (T := TX3) (N := 5) hx hb hts in_X3_init_X3 hown hK hP 0 rfl rfl 3 (by decide) (hts _ mm_X3_init_f21) (fun _ h9 => h9) rfl dX3_init_84 ?_
  refine lv_iload_n hx hb dX3_init_87 rfl (lv_at hl 0 rfl) ?_
  refine lv_iconst (v := mI 0) hx hb dX3_init_88 (by decide) ?_
  refine n_ast (ws' := [(h0, .inr (2, [.ref q1, .ref q2, .ref q3, .ref q4, .int (nI 0)])), (q1, .inl (cI, 24, .inl (fun j => nI ((va_up (va_up (va_up (va_up (va_up (va_up (va_up (fun _ => 0) 0 0) 1 0) 2 0) 3 1) 4 1) 5 2) 6 2) j)))), (q2, .inl (cI, 24, .inl (fun j => mI ((va_up (va_up (va_up (va_up (va_up (va_up (va_up (fun _ => 1) 0 0) 1 0) 2 0) 3 0) 4 0) 5 0) 6 0) j)))), (q3, .inl (cI, 24, .inl (fun j => mI ((va_up (va_up (va_up (va_up (va_up (va_up (va_up (fun _ => 1) 0 0) 1 0) 2 0) 3 0) 4 0) 5 0) 6 0) j)))), (q4, .inl (cI, 24, .inl (fun j => mI ((va_up (va_up (va_up (va_up (va_up (va_up (va_up (fun _ => 1) 0 0) 1 0) 2 0) 3 0) 4 0) 5 0) 6 0) j))))]) hx hb hK hP hD hS 4 0 rfl rfl (i := 6) (by decide) (by decide) (by rw [mI_upd]; rfl) dX3_init_89 (fun H locs hP hD hS => ?_)
  refine lv_iinc (v := nI 7) (lv' := [(1, .int (nI 7)), (0, .ref h0)]) hx hb dX3_init_90 hl (k := 0) rfl (by decide +kernel) (by decide) rfl (fun ls hl => ?_)
  refine lv_goto (tgt := 38) hx hb dX3_init_93 (by decide) ?_
  refine lv_iload_n hx hb dX3_init_38 rfl (lv_at hl 0 rfl) ?_
  refine lv_bipush (v := nI 7) hx hb dX3_init_39 (by decide) ?_
  refine n_icmp_ge hx hb (tgt := 96) (by decide) (by decide) dX3_init_41 (by decide) (fun c9 => ?_) (fun c9 => absurd c9 (by decide))
  refine lv_aload_n hx hb dX3_init_96 rfl (lv_at hl 1 rfl) ?_
  refine lv_bipush (v := nI 7) hx hb dX3_init_97 (by decide) ?_
  refine va_put (D := D) (ci := 2) (v := .int (nI 7)) (ty := .int) (C := RX3) (T := TX3) (N := 5) hx hb hts in_X3_init_X3 tyX3 tyX3_ok nmX3 hown hK hP hD hS 0 rfl rfl 4 (by decide) (hts _ mm_X3_init_f24) (fun _ h9 => h9) rfl (by decide +kernel) rfl rfl (Nat.le_of_ble_eq_true rfl) dX3_init_99 (fun H locs hP hD hS => ?_)
  have hP : va_P D vwCl [(h0, .inr (2, [.ref q1, .ref q2, .ref q3, .ref q4, .int (nI 7)])), (q1, .inl (cI, 24, .inl (fun j => nI ((va_up (va_up (va_up (va_up (va_up (va_up (va_up (fun _ => 0) 0 0) 1 0) 2 0) 3 1) 4 1) 5 2) 6 2) j)))), (q2, .inl (cI, 24, .inl (fun j => mI ((va_up (va_up (va_up (va_up (va_up (va_up (va_up (fun _ => 1) 0 0) 1 0) 2 0) 3 0) 4 0) 5 0) 6 0) j)))), (q3, .inl (cI, 24, .inl (fun j => mI ((va_up (va_up (va_up (va_up (va_up (va_up (va_up (fun _ => 1) 0 0) 1 0) 2 0) 3 0) 4 0) 5 0) 6 0) j)))), (q4, .inl (cI, 24, .inl (fun j => mI ((va_up (va_up (va_up (va_up (va_up (va_up (va_up (fun _ => 1) 0 0) 1 0) 2 0) 3 0) 4 0) 5 0) 6 0) j))))] H := hP
  have hD : va_D A [(h0, .inr (2, [.ref q1, .ref q2, .ref q3, .ref q4, .int (nI 7)])), (q1, .inl (cI, 24, .inl (fun j => nI ((va_up (va_up (va_up (va_up (va_up (va_up (va_up (fun _ => 0) 0 0) 1 0) 2 0) 3 1) 4 1) 5 2) 6 2) j)))), (q2, .inl (cI, 24, .inl (fun j => mI ((va_up (va_up (va_up (va_up (va_up (va_up (va_up (fun _ => 1) 0 0) 1 0) 2 0) 3 0) 4 0) 5 0) 6 0) j)))), (q3, .inl (cI, 24, .inl (fun j => mI ((va_up (va_up (va_up (va_up (va_up (va_up (va_up (fun _ => 1) 0 0) 1 0) 2 0) 3 0) 4 0) 5 0) 6 0) j)))), (q4, .inl (cI, 24, .inl (fun j => mI ((va_up (va_up (va_up (va_up (va_up (va_up (va_up (fun _ => 1) 0 0) 1 0) 2 0) 3 0) 4 0) 5 0) 6 0) j))))] := hD
  exact W.vret hx hb hr (fun t ht hW => ⟨⟨(q1, q2, q3, q4), rfl, trivial, by rw [ht]; exact hP, hD⟩, hS.F ht⟩) hS.2.2 dX3_init_102
