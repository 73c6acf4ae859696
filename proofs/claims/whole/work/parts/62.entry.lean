/-! AT THE LAW's ENTRY -/
theorem en_nx {args : Array Value} {s : State} (h : (Jvm.Cond.and given_1 narrow_1).before args s = true) : Nx s := by
  have hs := flat_of_before _ h
  intro E hE F hF hne
  refine va_Nc.of (args := args) (hs _ ?_)
  revert hne
  revert F
  revert E
  decide +kernel
theorem en_thr {args : Array Value} {s : State} {A : Nat → Prop} (h : (Jvm.Cond.and given_1 narrow_1).before args s = true) (hts : ∀ w ∈ lw_tbl, w.before args s = true) (hA : ∀ a : Nat, a < s.heap.size → ¬ A a) : Thr A s s.heap := by
  have hs := flat_of_before _ h
  exact ⟨vx_Zqof (hts _ (by decide +kernel)) (hts _ (by decide +kernel)) (hs _ (by decide +kernel)) hA, vx_Zqof (hts _ (by decide +kernel)) (hts _ (by decide +kernel)) (hs _ (by decide +kernel)) hA⟩
theorem en_tw {args : Array Value} {s : State} (hts : ∀ w ∈ lw_tbl, w.before args s = true) (hin : ∀ w ∈ twL, w ∈ lw_tbl) : Tw s := fun w hw => va_Nw.of (twL_on w hw) (hts w (hin w hw))
theorem en_tl : ∀ w ∈ twL, w ∈ lw_tbl := by decide +kernel
theorem en_nst {args : Array Value} {s : State} (hts : ∀ w ∈ lw_tbl, w.before args s = true) : Nst s := fun q hq => va_Nw.of rfl (hts _ (by
  revert hq
  revert q
  decide +kernel))
theorem en_low : ∀ j, j < 15 → Cond.eq (.elem (.static "ArrayClaims$ReadingSearch" "LOWEST" "[I") (.int (Int32.ofNat j))) (.int (nI (lowF j))) ∈ flatC (Jvm.Cond.and given_1 narrow_1) := by decide +kernel
theorem en_dif : ∀ j, j < 5 → Cond.eq (.elem (.static "ArrayClaims$ReadingSearch" "DIFFERENT" "[I") (.int (Int32.ofNat j))) (.int (nI (difF j))) ∈ flatC (Jvm.Cond.and given_1 narrow_1) := by decide +kernel
theorem en_stt {args : Array Value} {s : State} {A : Nat → Prop} (h : (Jvm.Cond.and given_1 narrow_1).before args s = true) (hts : ∀ w ∈ lw_tbl, w.before args s = true) (hA : ∀ a : Nat, a < s.heap.size → ¬ A a) : Stt A s s.heap := by
  have hs := flat_of_before _ h
  obtain ⟨t1, e1, T1⟩ := va_Tof (A := A) (tm := .static "ArrayClaims$ReadingSearch" "LOWEST" "[I") (ty := .int) (N := 15) (f := fun j => .int (nI (lowF j))) (by decide) (hs _ (by decide +kernel)) (va_eqt (hs (Cond.eq (.length (.static "ArrayClaims$ReadingSearch" "LOWEST" "[I")) (.int 15)) (by decide +kernel))) (fun j hj => va_eqt (hs _ (en_low j hj))) hA
  obtain ⟨t2, e2, T2⟩ := va_Tof (A := A) (tm := .static "ArrayClaims$ReadingSearch" "DIFFERENT" "[I") (ty := .int) (N := 5) (f := fun j => .int (nI (difF j))) (by decide) (hs _ (by decide +kernel)) (va_eqt (hs (Cond.eq (.length (.static "ArrayClaims$ReadingSearch" "DIFFERENT" "[I")) (.int 5)) (by decide +kernel))) (fun j hj => va_eqt (hs _ (en_dif j hj))) hA
  exact ⟨t1, t2, va_Zref (hts _ (by decide +kernel)) (hts _ (by decide +kernel)) e1 hA, T1, va_Zref (hts _ (by decide +kernel)) (hts _ (by decide +kernel)) e2 hA, T2⟩
