/-! WORLDS: the class's cells (WC) by a state σ of rows of numbers, the reference's (WM) by τ -/
/-- rows: 0 scalars (0 draft size, 1 terms, 2 claims, 4 asked claims); 3 draft; 6 sorts, 7 arrays, 8 indices, 9 elements (the three plus one); 10, 11 claims' literals, sizes; 12, 13 asked literals, sizes; 14 parts; 15 chosen (plus one) -/
def WC (ad : Nat → Nat) (cI : ClassId) (σ : Nat → Nat → Nat) : va_W :=
  [(ad 0, .inr (3, [.ref (ad 1), .ref (ad 2), .ref (ad 3), .int (nI (σ 0 0)), .ref (ad 4), .ref (ad 5)])),
   (ad 1, .inr (2, [.ref (ad 6), .ref (ad 7), .ref (ad 8), .ref (ad 9), .int (nI (σ 0 1))])),
   (ad 2, .inr (0, [.ref (ad 10), .ref (ad 11), .int (nI (σ 0 2))])),
   (ad 3, .inl (cI, 3, .inl (fun j => nI (σ 3 j)))),
   (ad 4, .inr (0, [.ref (ad 12), .ref (ad 13), .int (nI (σ 0 4))])),
   (ad 5, .inr (1, [.ref (ad 14), .ref (ad 15)])),
   (ad 6, .inl (cI, 24, .inl (fun j => nI (σ 6 j)))),
   (ad 7, .inl (cI, 24, .inl (fun j => mI (σ 7 j)))),
   (ad 8, .inl (cI, 24, .inl (fun j => mI (σ 8 j)))),
   (ad 9, .inl (cI, 24, .inl (fun j => mI (σ 9 j)))),
   (ad 10, .inl (cI, 24, .inl (fun j => nI (σ 10 j)))),
   (ad 11, .inl (cI, 8, .inl (fun j => nI (σ 11 j)))),
   (ad 12, .inl (cI, 33, .inl (fun j => nI (σ 12 j)))),
   (ad 13, .inl (cI, 11, .inl (fun j => nI (σ 13 j)))),
   (ad 14, .inl (cI, 96, .inl (fun j => nI (σ 14 j)))),
   (ad 15, .inl (cI, 10, .inl (fun j => mI (σ 15 j))))]
/-- rows of the reference: 0 scalars (0 thrown, 1 terms, 15 claims, 16 literals); 2 sort, 3 kind, 4 first, 5 second, 6 third, 7 classOf, 8 classes, 9 code, 10 ways, 11 waysFrom, 12 howMany, 13 holds, 14 from, 17 left, 18 right, 19 alike -/
def WM (ad : Nat → Nat) (cI cZ : ClassId) (τ : Nat → Nat → Nat) : va_W :=
  [(ad 0, .inr (4, [.int (nI (τ 0 0)), .int (nI (τ 0 1)), .ref (ad 2), .ref (ad 3), .ref (ad 4), .ref (ad 5), .ref (ad 6), .ref (ad 7), .ref (ad 8), .ref (ad 9), .ref (ad 10), .ref (ad 11), .ref (ad 12), .ref (ad 13), .ref (ad 14), .int (nI (τ 0 15)), .int (nI (τ 0 16)), .ref (ad 17), .ref (ad 18), .ref (ad 19)])),
   (ad 2, .inl (cI, 24, .inl (fun j => nI (τ 2 j)))),
   (ad 3, .inl (cI, 24, .inl (fun j => nI (τ 3 j)))),
   (ad 4, .inl (cI, 24, .inl (fun j => nI (τ 4 j)))),
   (ad 5, .inl (cI, 24, .inl (fun j => nI (τ 5 j)))),
   (ad 6, .inl (cI, 24, .inl (fun j => nI (τ 6 j)))),
   (ad 7, .inl (cI, 15, .inl (fun j => nI (τ 7 j)))),
   (ad 8, .inl (cI, 5, .inl (fun j => nI (τ 8 j)))),
   (ad 9, .inl (cI, 120, .inl (fun j => nI (τ 9 j)))),
   (ad 10, .inl (cI, 4358, .inl (fun j => nI (τ 10 j)))),
   (ad 11, .inl (cI, 3, .inl (fun j => nI (τ 11 j)))),
   (ad 12, .inl (cI, 3, .inl (fun j => nI (τ 12 j)))),
   (ad 13, .inl (cI, 9528, .inl (fun j => nI (τ 13 j)))),
   (ad 14, .inl (cI, 6, .inl (fun j => nI (τ 14 j)))),
   (ad 17, .inl (cI, 3, .inl (fun j => nI (τ 17 j)))),
   (ad 18, .inl (cI, 3, .inl (fun j => nI (τ 18 j)))),
   (ad 19, .inl (cZ, 3, .inl (fun j => nI (τ 19 j))))]
/-- private members of nest mates, as the tables have them -/
def nwF : List (String × Nat × String × String × String) := [("ArrayClaims$ReadingSearch", 58, "ArrayClaims$TermTable", "sorts", "[I"), ("ArrayClaims$ReadingSearch", 48, "ArrayClaims$TermTable", "arrays", "[I"), ("ArrayClaims$ReadingSearch", 51, "ArrayClaims$TermTable", "indices", "[I"), ("ArrayClaims$ReadingSearch", 61, "ArrayClaims$TermTable", "elements", "[I"), ("ArrayClaims", 61, "ArrayClaims$TermTable", "count", "I"), ("ArrayClaims$ReadingSearch", 42, "ArrayClaims$TermTable", "count", "I"), ("ArrayClaims$ReadingSearch", 64, "ArrayClaims$ClaimList", "count", "I"), ("ArrayClaims", 77, "ArrayClaims$ClaimList", "count", "I")]
def Nst (U : State) : Prop := ∀ q ∈ nwF, va_Nw (.fieldLinkNest q.1 q.2.1 q.2.2.1 q.2.2.2.1 q.2.2.2.2 "ArrayClaims") U
theorem Nst.warm {s U : State} (hW : s.WarmedH U.vm) (h : Nst s) : Nst U := fun q hq => va_Nw.warmF hW (h q hq)
theorem Nst.same {s U : State} (hv : s.vm = U.vm) (h : Nst s) : Nst U := fun q hq => va_Nw.same rfl hv (h q hq)
theorem Nst.use {args : Array Value} {U : State} (h : Nst U) (k : Nat) {a : String} {i : Nat} {b n d : String} (hk : nwF[k]? = some (a, i, b, n, d)) : (Cond.fieldLinkNest a i b n d "ArrayClaims").before args U = true := va_Nw.use rfl (h _ (List.mem_of_getElem? hk))
/-- the two static rows of the search -/
def lowT : List Nat := [0, 0, 0, 0, 0, 2, 0, 1, 0, 0, 1, 1, 0, 1, 2]
def difT : List Nat := [1, 2, 2, 2, 3]
def lowF (j : Nat) : Nat := lowT.getD j 0
def difF (j : Nat) : Nat := difT.getD j 0
def Stt (A : Nat → Prop) (U : State) (H : Heap) : Prop := ∃ t1 t2 : Nat, va_Z "ArrayClaims$ReadingSearch" "LOWEST" "[I" (.ref t1) A U H ∧ va_T .int t1 15 (fun j => .int (nI (lowF j))) A U H ∧ va_Z "ArrayClaims$ReadingSearch" "DIFFERENT" "[I" (.ref t2) A U H ∧ va_T .int t2 5 (fun j => .int (nI (difF j))) A U H
theorem Stt.go {A : Nat → Prop} {s U : State} {H : Heap} {locs : List Loc} (h : Stt A s s.heap) (hS : va_S A s.heap H locs) (hvm : s.vm.Alike U.vm) (hU : U.heap = H) : Stt A U U.heap := by
  obtain ⟨t1, t2, a, b, c, d⟩ := h
  rw [hU]
  exact ⟨t1, t2, va_Z.moved hvm (a.kept hS.2.1), va_T.moved hvm (b.kept hS.2.1), va_Z.moved hvm (c.kept hS.2.1), va_T.moved hvm (d.kept hS.2.1)⟩
/-- the class's world at a state -/
def Wc (D : va_G) (cI : ClassId) (A : Nat → Prop) (ad : Nat → Nat) (σ : Nat → Nat → Nat) (U : State) : Prop :=
  va_P D vwCl (WC ad cI σ) U.heap ∧ va_K D vwCl [(cI, .int)] U ∧ va_D A (WC ad cI σ) ∧ Nst U ∧ Stt A U U.heap
theorem Wc.go {D : va_G} {cI : ClassId} {A : Nat → Prop} {ad : Nat → Nat} {σ : Nat → Nat → Nat} {s U : State} {H : Heap} {locs : List Loc} (hP : va_P D vwCl (WC ad cI σ) H) (hK : va_K D vwCl [(cI, .int)] s) (hD : va_D A (WC ad cI σ)) (hN : Nst s) (hZ : Stt A s s.heap) (hS : va_S A s.heap H locs) (hU : U.heap = H) (hW : s.WarmedH U.vm) : Wc D cI A ad σ U :=
  ⟨by rw [hU]; exact hP, va_K.moved hW.alike hK, hD, hN.warm hW, hZ.go hS hW.alike hU⟩
theorem Wc.blind {D : va_G} {cI : ClassId} {A : Nat → Prop} {ad : Nat → Nat} {σ : Nat → Nat → Nat} {av : List Value} : FrameBlind (va_Pc av (Wc D cI A ad σ)) := by
  intro a U g mk h
  obtain ⟨h0, h1, h2, h3, h4, h5⟩ := h
  exact ⟨h0, h1, va_K.moved (u := U) (U := U.calling g mk a) (Vm.Alike.refl U.vm) h2, h3, h4.same rfl, Stt.go (s := U) (U := U.calling g mk a) (H := U.heap) (locs := []) h5 va_S.rf (Vm.Alike.refl U.vm) rfl⟩
/-- the reference's world at a state -/
def Wm (D : va_G) (cI cZ : ClassId) (A : Nat → Prop) (ad : Nat → Nat) (τ : Nat → Nat → Nat) (U : State) : Prop :=
  va_P D vwCl (WM ad cI cZ τ) U.heap ∧ va_K D vwCl [(cI, .int), (cZ, .boolean)] U ∧ va_D A (WM ad cI cZ τ)
theorem Wm.go {D : va_G} {cI cZ : ClassId} {A : Nat → Prop} {ad : Nat → Nat} {τ : Nat → Nat → Nat} {s U : State} {H : Heap} (hP : va_P D vwCl (WM ad cI cZ τ) H) (hK : va_K D vwCl [(cI, .int), (cZ, .boolean)] s) (hD : va_D A (WM ad cI cZ τ)) (hU : U.heap = H) (hW : s.WarmedH U.vm) : Wm D cI cZ A ad τ U :=
  ⟨by rw [hU]; exact hP, va_K.moved hW.alike hK, hD⟩
theorem Wm.blind {D : va_G} {cI cZ : ClassId} {A : Nat → Prop} {ad : Nat → Nat} {τ : Nat → Nat → Nat} {av : List Value} : FrameBlind (va_Pc av (Wm D cI cZ A ad τ)) := by
  intro a U g mk h
  obtain ⟨h0, h1, h2, h3⟩ := h
  exact ⟨h0, h1, va_K.moved (u := U) (U := U.calling g mk a) (Vm.Alike.refl U.vm) h2, h3⟩
/-- a callee that needs no cell -/
theorem tt_blind {av : List Value} : FrameBlind (va_Pc av (fun _ => True)) := fun _ _ _ _ h => h
abbrev WR (p : Program) (l : Launch) (e : Env) (R : Room) (s : State) (m : MethodId) (args : Array Value) (below : List Frame) (meth : Method) (c : Code) (H : Heap) (post : Int32 → Prop) (g : JFrame) : Prop :=
  W p l e R s m args below meth c H [] 0 0 (MQ below (vp_Si post) args s 0 0 (fun _ => False)) g
theorem no_locs {free : Addr → Prop} : ∀ q ∈ ([] : List Loc), free q.base := fun q h => by cases h
