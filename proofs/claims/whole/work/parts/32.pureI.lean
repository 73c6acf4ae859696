section BWD
variable {p : Program} {l : Launch} {e : Env} {R : Room} {s : State} {m : MethodId} {args : Array Value} {below : List Frame} {meth : Method} {c : Code} {H : Heap} {locs : List Loc} {cells slots : Nat} {Q : State → Prop} {cc : ByteArray} {pc : Nat} {ls : Array Slot} {rest : List Value}
theorem n_newz {D : va_G} {cl : List vw_C} {ws : va_W} {tys : List (ClassId × FieldType)} {A : Nat → Prop} {H0 : Heap} {cZ : ClassId} (hx : p.tables.exec = Jvm.exec) (hb : c.code = cc) (harr : (Cond.arrayClass .boolean).before args s = true) (hK : va_K D cl tys s) (t0 : Nat) (ht : tys[t0]? = some (cZ, .boolean)) (hP : va_P D cl ws H) (hD : va_D A ws) (hS : va_S A H0 H locs) (hA : ∀ q, H0.size ≤ q → A q) {N : Nat} (hN : N < 2 ^ 31) (hbytes : N * componentBytes .boolean ≤ 536870912) (hcells : cells + 1 ≤ R.cells) (hslots : slots + N ≤ R.slots) (hdg : decode cc pc = .ok (.newarray .boolean, 2))
    (k : ∀ (q : Nat) (H1 : Heap), va_P D cl (ws ++ [(q, .inl (cZ, N, .inl (fun j => nI ((fun _ => 0) j))))]) H1 → va_D A (ws ++ [(q, .inl (cZ, N, .inl (fun j => nI ((fun _ => 0) j))))]) → va_S A H0 H1 locs → W p l e R s m args below meth c H1 locs (cells + 1) (slots + N) Q (F0 m (pc + 2) ls (.ref q :: rest))) : W p l e R s m args below meth c H locs cells slots Q (F0 m pc ls (.int (nI N) :: rest)) := by
  refine va_newa hx hb (atype := .boolean) (ty := .boolean) harr rfl hK hP hD hS hA (a0 := (N, .inl (fun _ => nI 0))) (fun cA => rfl) (nI_pos hN) (nI_clamp hN) hbytes hcells hslots hdg (fun q cA H1 hK1 hP1 hD1 hS1 => ?_)
  have h1 := (hK1.2 tys.length (cA, .boolean) (by simp)).2
  have h2 := (hK.2 t0 _ ht).2
  have e : cA = cZ := Option.some.inj (h1.symm.trans h2)
  subst e
  exact k q H1 hP1 hD1 hS1
end BWD
def hmT (j : Nat) : Nat := [15, 203, 4140].getD j 0
def clF (j : Nat) : Nat := [0, 0, 0, 0, 0, 1, 0, 1, 0, 0, 1, 1, 0, 1, 2].getD j 0
def srtF (t : Nat) : Nat := if t < 3 then 0 else if t < 5 then 1 else 2
def cdN (p t : Nat) : Nat := if t < 3 then clF (3 * p + t) else if t < 5 then t - 3 else t - 5 + (2 + (t - 5) * difF p) * 2 ^ 1 + (2 + (t - 5) * difF p + 1) * 2 ^ 4 + (2 + (t - 5) * difF p + 2) * 2 ^ 7
def chkB (n : Nat) : Nat → Nat → Bool
  | 0, _ => true
  | m + 1, w => decide (w < 2 ^ 24) && chkB n m (nxF n w)
theorem chk_it {n : Nat} : ∀ m j, chkB n m (itF n j) = true → ∀ k, k < m → itF n (j + k) < 2 ^ 24
  | 0, _, _, k, h => by omega
  | m + 1, j, h, k, hk => by
    unfold chkB at h
    rw [Bool.and_eq_true] at h
    cases k with
    | zero => exact of_decide_eq_true h.1
    | succ k =>
      have := chk_it m (j + 1) h.2 k (by omega)
      rw [show j + (k + 1) = j + 1 + k by omega]
      exact this
theorem chk4 : chkB 4 15 0 = true := by decide +kernel
theorem chk6 : chkB 6 203 0 = true := by decide +kernel
set_option maxRecDepth 100000 in
theorem chk8 : chkB 8 4140 0 = true := by decide +kernel
theorem it_bd {c k : Nat} (hc : c < 3) (hk : k < hmT c) : itF (2 * c + 4) k < 2 ^ 24 := by
  have e : ∀ n, itF n 0 = 0 := fun _ => rfl
  rcases (show c = 0 ∨ c = 1 ∨ c = 2 by omega) with rfl | rfl | rfl
  · have := chk_it (n := 4) 15 0 chk4 k hk; rwa [Nat.zero_add] at this
  · have := chk_it (n := 6) 203 0 chk6 k hk; rwa [Nat.zero_add] at this
  · have := chk_it (n := 8) 4140 0 chk8 k hk; rwa [Nat.zero_add] at this
theorem wf_ok : ∀ c, c < 3 → wfF c + hmT c ≤ 4358 ∧ ∀ c2, c2 < c → wfF c2 + hmT c2 ≤ wfF c := by decide +kernel
def ta0 : Nat → Nat → Nat := fun k => if k = 0 then (fun j => if j = 1 then 7 else 0) else if k = 7 then va_up (va_up (va_up (va_up (va_up (va_up (va_up (va_up (va_up (va_up (va_up (va_up (va_up (va_up (va_up (fun _ => 0) 0 0) 1 0) 2 0) 3 0) 4 0) 5 1) 6 0) 7 1) 8 0) 9 0) 10 1) 11 1) 12 0) 13 1) 14 2 else if k = 8 then va_up (va_up (va_up (va_up (va_up (fun _ => 0) 0 1) 1 2) 2 2) 3 2) 4 3 else if k = 11 then va_up (va_up (va_up (fun _ => 0) 0 0) 1 15) 2 218 else if k = 12 then va_up (va_up (va_up (fun _ => 0) 0 15) 1 203) 2 4140 else if k = 14 then va_up (va_up (va_up (va_up (va_up (va_up (fun _ => 0) 0 0) 1 30) 2 436) 3 842) 4 1248) 5 9528 else (fun _ => 0)
theorem ite_c {p q : Prop} [Decidable p] [Decidable q] {x y : Nat} (h : p ↔ q) : (if p then x else y) = if q then x else y := by
  by_cases hp : p
  · rw [if_pos hp, if_pos (h.mp hp)]
  · rw [if_neg hp, if_neg (fun z => hp (h.mpr z))]
def TI (τ : Nat → Nat → Nat) : Prop := (∀ r, r ≠ 10 → r ≠ 2 → r ≠ 9 → τ r = ta0 r) ∧ (∀ j, τ 2 j = if j < 7 then srtF j else 0) ∧ (∀ p t, p < 5 → t < 24 → τ 9 (24 * p + t) = if t < 7 then cdN p t else 0) ∧ (∀ c2, c2 < 3 → ∀ k, k < hmT c2 → τ 10 (wfF c2 + k) = itF (2 * c2 + 4) k)
theorem TI_of {τ : Nat → Nat → Nat} (hO : ∀ r, r ≠ 10 → r ≠ 2 → r ≠ 9 → τ r = ta0 r) (h2 : ∀ j, τ 2 j = if j < 7 then srtF j else 0) (h9 : ∀ p t, p < 5 → t < 24 → τ 9 (24 * p + t) = if t < 7 then cdN p t else 0) (hV : ∀ c2, c2 < 3 → ∀ k, k < hmT c2 → τ 10 (wfF c2 + k) = itF (2 * c2 + 4) k) : TI τ := ⟨hO, h2, h9, hV⟩
theorem r7 : ∀ j, j < 15 → ta0 7 j = clF j := by decide +kernel
theorem r8 : ∀ j, j < 5 → ta0 8 j = difF j := by decide +kernel
theorem r11 : ∀ j, j < 3 → ta0 11 j = wfF j := by decide +kernel
theorem r12 : ∀ j, j < 3 → ta0 12 j = hmT j := by decide +kernel
theorem r14 : ∀ j, j < 6 → ta0 14 j = frT j := by decide +kernel
theorem own_ok {t1 d : Nat} (h5 : 5 ≤ t1) (h7 : t1 < 7) : nI 2 + (nI t1 - nI 5) * nI d = nI (2 + (t1 - 5) * d) := by rw [pk_sub h5, pk_mul, nI_add]
