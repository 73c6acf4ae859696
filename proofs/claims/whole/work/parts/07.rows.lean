/-! rows of the machine for the two worlds -/
theorem n_m1 (n : Nat) : nI n + Int32.ofInt (-1) = mI n := by
  show nI n + (-1) = nI n - 1
  rw [Int32.sub_eq_add_neg]
theorem nm_eq {a b : Nat} (ha : a < 2 ^ 31) (hb : b < 2 ^ 31) : nI a = mI b ↔ b = a + 1 := by
  rw [eq_comm]; exact mn_eq hb ha
theorem bI_eq {a b : Bool} : bI a = bI b ↔ a = b := by cases a <;> cases b <;> decide +kernel
theorem mI_z0 {a : Nat} (ha : a < 2 ^ 31) : mI a = 0 ↔ a = 1 := by
  rw [← nI_0]; exact mn_eq ha (by omega)
def bN (b : Bool) : Nat := if b = true then 1 else 0
theorem bI_n (b : Bool) : bI b = nI (bN b) := by cases b <;> rfl
theorem n_nar0 : narrow .boolean (.int (nI 0)) = .int (nI 0) := rfl
theorem n_nar1 : narrow .boolean (.int (nI 1)) = .int (nI 1) := rfl
section BW2
variable {p : Program} {l : Launch} {e : Env} {R : Room} {s : State} {m : MethodId} {args : Array Value} {below : List Frame} {meth : Method} {c : Code} {H : Heap} {locs : List Loc} {cells slots : Nat} {Q : State → Prop} {cc : ByteArray} {pc : Nat} {ls : Array Slot} {rest : List Value}
theorem n_tld {A : Nat → Prop} {t N : Nat} {f : Nat → Nat} (hx : p.tables.exec = Jvm.exec) (hb : c.code = cc) (hT : va_T .int t N (fun j => .int (nI (f j))) A s s.heap) (hS : va_S A s.heap H locs) {i : Nat} (hi : i < N) (hn : N < 2 ^ 31) (hdg : decode cc pc = .ok (.iaload, 1))
    (k : W p l e R s m args below meth c H locs cells slots Q (F0 m (pc + 1) ls (.int (nI (f i)) :: rest))) : W p l e R s m args below meth c H locs cells slots Q (F0 m pc ls (.int (nI i) :: .ref t :: rest)) :=
  va_ti hx hb hT hS (vp_in_nI hi hn) (v := .int (nI (f i))) (by rw [nI_clamp (by omega)]) hdg k
theorem n_zld {D : va_G} {cl : List vw_C} {ws : va_W} {tys : List (ClassId × FieldType)} {a : Nat} (hx : p.tables.exec = Jvm.exec) (hb : c.code = cc) (hK : va_K D cl tys s) (hP : va_P D cl ws H) (q0 t0 : Nat) {cA : ClassId} {n : Nat} {f : Nat → Int32} (ha : ws[q0]? = some (a, .inl (cA, n, .inl f))) (ht : tys[t0]? = some (cA, .boolean)) {i : Nat} (hi : i < n) (hn : n < 2 ^ 31) {v : Int32} (hv : f i = v) (hdg : decode cc pc = .ok (.baload, 1))
    (k : W p l e R s m args below meth c H locs cells slots Q (F0 m (pc + 1) ls (.int v :: rest))) : W p l e R s m args below meth c H locs cells slots Q (F0 m pc ls (.int (nI i) :: .ref a :: rest)) :=
  va_zald hx hb hK hP q0 t0 ha ht (vp_in_nI hi hn) hdg (by rw [nI_clamp (by omega), hv]; exact k)
end BW2
theorem WCs3 (ad : Nat → Nat) (cI : ClassId) (σ : Nat → Nat → Nat) (i v : Nat) : (WC ad cI σ).set 3 (ad 3, .inl (cI, 3, .inl (upd (fun j => nI (σ 3 j)) i (nI v)))) = WC ad cI (sU σ 3 i v) := by
  rw [nI_upd]; rfl
theorem WCs6 (ad : Nat → Nat) (cI : ClassId) (σ : Nat → Nat → Nat) (i v : Nat) : (WC ad cI σ).set 6 (ad 6, .inl (cI, 24, .inl (upd (fun j => nI (σ 6 j)) i (nI v)))) = WC ad cI (sU σ 6 i v) := by
  rw [nI_upd]; rfl
theorem WCs7 (ad : Nat → Nat) (cI : ClassId) (σ : Nat → Nat → Nat) (i v : Nat) : (WC ad cI σ).set 7 (ad 7, .inl (cI, 24, .inl (upd (fun j => mI (σ 7 j)) i (mI v)))) = WC ad cI (sU σ 7 i v) := by
  rw [mI_upd]; rfl
theorem WCs8 (ad : Nat → Nat) (cI : ClassId) (σ : Nat → Nat → Nat) (i v : Nat) : (WC ad cI σ).set 8 (ad 8, .inl (cI, 24, .inl (upd (fun j => mI (σ 8 j)) i (mI v)))) = WC ad cI (sU σ 8 i v) := by
  rw [mI_upd]; rfl
theorem WCs9 (ad : Nat → Nat) (cI : ClassId) (σ : Nat → Nat → Nat) (i v : Nat) : (WC ad cI σ).set 9 (ad 9, .inl (cI, 24, .inl (upd (fun j => mI (σ 9 j)) i (mI v)))) = WC ad cI (sU σ 9 i v) := by
  rw [mI_upd]; rfl
theorem WCs10 (ad : Nat → Nat) (cI : ClassId) (σ : Nat → Nat → Nat) (i v : Nat) : (WC ad cI σ).set 10 (ad 10, .inl (cI, 24, .inl (upd (fun j => nI (σ 10 j)) i (nI v)))) = WC ad cI (sU σ 10 i v) := by
  rw [nI_upd]; rfl
theorem WCs11 (ad : Nat → Nat) (cI : ClassId) (σ : Nat → Nat → Nat) (i v : Nat) : (WC ad cI σ).set 11 (ad 11, .inl (cI, 8, .inl (upd (fun j => nI (σ 11 j)) i (nI v)))) = WC ad cI (sU σ 11 i v) := by
  rw [nI_upd]; rfl
theorem WCs12 (ad : Nat → Nat) (cI : ClassId) (σ : Nat → Nat → Nat) (i v : Nat) : (WC ad cI σ).set 12 (ad 12, .inl (cI, 33, .inl (upd (fun j => nI (σ 12 j)) i (nI v)))) = WC ad cI (sU σ 12 i v) := by
  rw [nI_upd]; rfl
theorem WCs13 (ad : Nat → Nat) (cI : ClassId) (σ : Nat → Nat → Nat) (i v : Nat) : (WC ad cI σ).set 13 (ad 13, .inl (cI, 11, .inl (upd (fun j => nI (σ 13 j)) i (nI v)))) = WC ad cI (sU σ 13 i v) := by
  rw [nI_upd]; rfl
theorem WCs14 (ad : Nat → Nat) (cI : ClassId) (σ : Nat → Nat → Nat) (i v : Nat) : (WC ad cI σ).set 14 (ad 14, .inl (cI, 96, .inl (upd (fun j => nI (σ 14 j)) i (nI v)))) = WC ad cI (sU σ 14 i v) := by
  rw [nI_upd]; rfl
theorem WCs15 (ad : Nat → Nat) (cI : ClassId) (σ : Nat → Nat → Nat) (i v : Nat) : (WC ad cI σ).set 15 (ad 15, .inl (cI, 10, .inl (upd (fun j => mI (σ 15 j)) i (mI v)))) = WC ad cI (sU σ 15 i v) := by
  rw [mI_upd]; rfl
theorem WMs2 (ad : Nat → Nat) (cI cZ : ClassId) (τ : Nat → Nat → Nat) (i v : Nat) : (WM ad cI cZ τ).set 1 (ad 2, .inl (cI, 24, .inl (upd (fun j => nI (τ 2 j)) i (nI v)))) = WM ad cI cZ (sU τ 2 i v) := by
  rw [nI_upd]; rfl
theorem WMs3 (ad : Nat → Nat) (cI cZ : ClassId) (τ : Nat → Nat → Nat) (i v : Nat) : (WM ad cI cZ τ).set 2 (ad 3, .inl (cI, 24, .inl (upd (fun j => nI (τ 3 j)) i (nI v)))) = WM ad cI cZ (sU τ 3 i v) := by
  rw [nI_upd]; rfl
theorem WMs4 (ad : Nat → Nat) (cI cZ : ClassId) (τ : Nat → Nat → Nat) (i v : Nat) : (WM ad cI cZ τ).set 3 (ad 4, .inl (cI, 24, .inl (upd (fun j => nI (τ 4 j)) i (nI v)))) = WM ad cI cZ (sU τ 4 i v) := by
  rw [nI_upd]; rfl
theorem WMs5 (ad : Nat → Nat) (cI cZ : ClassId) (τ : Nat → Nat → Nat) (i v : Nat) : (WM ad cI cZ τ).set 4 (ad 5, .inl (cI, 24, .inl (upd (fun j => nI (τ 5 j)) i (nI v)))) = WM ad cI cZ (sU τ 5 i v) := by
  rw [nI_upd]; rfl
theorem WMs6 (ad : Nat → Nat) (cI cZ : ClassId) (τ : Nat → Nat → Nat) (i v : Nat) : (WM ad cI cZ τ).set 5 (ad 6, .inl (cI, 24, .inl (upd (fun j => nI (τ 6 j)) i (nI v)))) = WM ad cI cZ (sU τ 6 i v) := by
  rw [nI_upd]; rfl
theorem WMs7 (ad : Nat → Nat) (cI cZ : ClassId) (τ : Nat → Nat → Nat) (i v : Nat) : (WM ad cI cZ τ).set 6 (ad 7, .inl (cI, 15, .inl (upd (fun j => nI (τ 7 j)) i (nI v)))) = WM ad cI cZ (sU τ 7 i v) := by
  rw [nI_upd]; rfl
theorem WMs8 (ad : Nat → Nat) (cI cZ : ClassId) (τ : Nat → Nat → Nat) (i v : Nat) : (WM ad cI cZ τ).set 7 (ad 8, .inl (cI, 5, .inl (upd (fun j => nI (τ 8 j)) i (nI v)))) = WM ad cI cZ (sU τ 8 i v) := by
  rw [nI_upd]; rfl
theorem WMs9 (ad : Nat → Nat) (cI cZ : ClassId) (τ : Nat → Nat → Nat) (i v : Nat) : (WM ad cI cZ τ).set 8 (ad 9, .inl (cI, 120, .inl (upd (fun j => nI (τ 9 j)) i (nI v)))) = WM ad cI cZ (sU τ 9 i v) := by
  rw [nI_upd]; rfl
theorem WMs10 (ad : Nat → Nat) (cI cZ : ClassId) (τ : Nat → Nat → Nat) (i v : Nat) : (WM ad cI cZ τ).set 9 (ad 10, .inl (cI, 4358, .inl (upd (fun j => nI (τ 10 j)) i (nI v)))) = WM ad cI cZ (sU τ 10 i v) := by
  rw [nI_upd]; rfl
theorem WMs11 (ad : Nat → Nat) (cI cZ : ClassId) (τ : Nat → Nat → Nat) (i v : Nat) : (WM ad cI cZ τ).set 10 (ad 11, .inl (cI, 3, .inl (upd (fun j => nI (τ 11 j)) i (nI v)))) = WM ad cI cZ (sU τ 11 i v) := by
  rw [nI_upd]; rfl
theorem WMs12 (ad : Nat → Nat) (cI cZ : ClassId) (τ : Nat → Nat → Nat) (i v : Nat) : (WM ad cI cZ τ).set 11 (ad 12, .inl (cI, 3, .inl (upd (fun j => nI (τ 12 j)) i (nI v)))) = WM ad cI cZ (sU τ 12 i v) := by
  rw [nI_upd]; rfl
theorem WMs13 (ad : Nat → Nat) (cI cZ : ClassId) (τ : Nat → Nat → Nat) (i v : Nat) : (WM ad cI cZ τ).set 12 (ad 13, .inl (cI, 9528, .inl (upd (fun j => nI (τ 13 j)) i (nI v)))) = WM ad cI cZ (sU τ 13 i v) := by
  rw [nI_upd]; rfl
theorem WMs14 (ad : Nat → Nat) (cI cZ : ClassId) (τ : Nat → Nat → Nat) (i v : Nat) : (WM ad cI cZ τ).set 13 (ad 14, .inl (cI, 6, .inl (upd (fun j => nI (τ 14 j)) i (nI v)))) = WM ad cI cZ (sU τ 14 i v) := by
  rw [nI_upd]; rfl
theorem WMs17 (ad : Nat → Nat) (cI cZ : ClassId) (τ : Nat → Nat → Nat) (i v : Nat) : (WM ad cI cZ τ).set 14 (ad 17, .inl (cI, 3, .inl (upd (fun j => nI (τ 17 j)) i (nI v)))) = WM ad cI cZ (sU τ 17 i v) := by
  rw [nI_upd]; rfl
theorem WMs18 (ad : Nat → Nat) (cI cZ : ClassId) (τ : Nat → Nat → Nat) (i v : Nat) : (WM ad cI cZ τ).set 15 (ad 18, .inl (cI, 3, .inl (upd (fun j => nI (τ 18 j)) i (nI v)))) = WM ad cI cZ (sU τ 18 i v) := by
  rw [nI_upd]; rfl
theorem WMs19 (ad : Nat → Nat) (cI cZ : ClassId) (τ : Nat → Nat → Nat) (i v : Nat) : (WM ad cI cZ τ).set 16 (ad 19, .inl (cZ, 3, .inl (upd (fun j => nI (τ 19 j)) i (nI v)))) = WM ad cI cZ (sU τ 19 i v) := by
  rw [nI_upd]; rfl
