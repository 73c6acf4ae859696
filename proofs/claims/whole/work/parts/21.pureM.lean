/-! THE REFERENCE's writers -/
section BW4
variable {p : Program} {l : Launch} {e : Env} {R : Room} {s : State} {m : MethodId} {args : Array Value} {below : List Frame} {meth : Method} {c : Code} {H : Heap} {locs : List Loc} {cells slots : Nat} {Q : State → Prop} {cc : ByteArray} {pc : Nat} {ls : Array Slot} {rest : List Value}
theorem n_zst {D : va_G} {cl : List vw_C} {ws ws' : va_W} {tys : List (ClassId × FieldType)} {A : Nat → Prop} {H0 : Heap} {a : Nat} (hx : p.tables.exec = Jvm.exec) (hb : c.code = cc) (hK : va_K D cl tys s) (hP : va_P D cl ws H) (hD : va_D A ws) (hS : va_S A H0 H locs) (q0 t0 : Nat) {cA : ClassId} {n : Nat} {f : Nat → Int32} (ha : ws[q0]? = some (a, .inl (cA, n, .inl f))) (ht : tys[t0]? = some (cA, .boolean)) {i : Nat} {x : Int32} (hi : i < n) (hn : n < 2 ^ 31) (hz : vp_nar .boolean x = x) (hw : ws.set q0 (a, .inl (cA, n, .inl (upd f i x))) = ws') (hdg : decode cc pc = .ok (.bastore, 1))
    (k : ∀ (H1 : Heap) (locs1 : List Loc), va_P D cl ws' H1 → va_D A ws' → va_S A H0 H1 locs1 → W p l e R s m args below meth c H1 locs1 cells slots Q (F0 m (pc + 1) ls rest)) : W p l e R s m args below meth c H locs cells slots Q (F0 m pc ls (.int x :: .int (nI i) :: .ref a :: rest)) :=
  va_zast hx hb hK hP hD hS q0 t0 ha ht (vp_in_nI hi hn) hdg (fun H1 locs1 h1 h2 h3 => by
    rw [nI_clamp (by omega), hz, hw] at h1 h2
    exact k H1 locs1 h1 h2 h3)
end BW4
theorem bN_nar (b : Bool) : vp_nar .boolean (nI (bN b)) = nI (bN b) := by cases b <;> rfl
theorem IM.thr {τ : Nat → Nat → Nat} (h : IM τ) (v : Nat) : IM (sU τ 0 0 v) := by
  unfold IM
  rw [sU_ne _ _ _ (by decide : (2 : Nat) ≠ 0), sU_ne _ _ _ (by decide : (3 : Nat) ≠ 0), sU_ne _ _ _ (by decide : (4 : Nat) ≠ 0), sU_ne _ _ _ (by decide : (5 : Nat) ≠ 0), sU_ne _ _ _ (by decide : (6 : Nat) ≠ 0), sU_ne _ _ _ (by decide : (8 : Nat) ≠ 0), sU_ne _ _ _ (by decide : (9 : Nat) ≠ 0), sU_ne _ _ _ (by decide : (10 : Nat) ≠ 0), sU_ne _ _ _ (by decide : (11 : Nat) ≠ 0), sU_ne _ _ _ (by decide : (13 : Nat) ≠ 0), sU_ne _ _ _ (by decide : (14 : Nat) ≠ 0), sU_ne _ _ _ (by decide : (17 : Nat) ≠ 0), sU_ne _ _ _ (by decide : (18 : Nat) ≠ 0), sU_ne _ _ _ (by decide : (19 : Nat) ≠ 0)]
  rw [sU_at, sU_at, sU_at, if_neg (by decide), if_neg (by decide), if_neg (by decide)]
  exact h
theorem chL_row {τ u : Nat → Nat → Nat} (h : u 13 = τ 13) (set : Nat) : ∀ n r, chL u set n r = chL τ set n r
  | 0, _ => rfl
  | n + 1, r => by unfold chL; rw [h, chL_row h set n]
theorem chB_row {τ u : Nat → Nat → Nat} (h : u 13 = τ 13) (set : Nat) : chB u set = chB τ set := chL_row h set _ _
def fsL (τ : Nat → Nat → Nat) : Nat → Nat → Nat
  | 0, _ => 0
  | n + 1, k => if chB τ (2 * 2 ^ k - 1) = true then fsL τ n (k + 1) else k + 1
theorem clr_ok : ∀ k, k < 8 → ∀ s, s < 256 → nI s &&& (nI (2 ^ k) ^^^ mI 0) = nI (s &&& (255 - 2 ^ k)) := by decide +kernel
theorem pow8 {c : Nat} (hc : c ≤ 8) : 2 ^ c ≤ 256 := show 2 ^ c ≤ 2 ^ 8 from Nat.pow_le_pow_right (by omega) hc
/-- the rows that a draft's literals are read by -/
def DRow (τ u : Nat → Nat → Nat) : Prop := u 2 = τ 2 ∧ u 8 = τ 8 ∧ u 9 = τ 9 ∧ u 10 = τ 10 ∧ u 11 = τ 11 ∧ u 14 = τ 14
theorem siB_rows {τ u : Nat → Nat → Nat} (h : DRow τ u) (t v p r : Nat) : siB u t v p r = siB τ t v p r := by
  obtain ⟨a, b, c, d, e, f⟩ := h
  unfold siB asB; rw [a, b, c, d, e, f]
theorem dhL_rows {τ u : Nat → Nat → Nat} (h : DRow τ u) (h17 : u 17 = τ 17) (h18 : u 18 = τ 18) (h19 : u 19 = τ 19) (p r : Nat) : ∀ n k b, dhL u p r n k b = dhL τ p r n k b
  | 0, _, _ => rfl
  | n + 1, k, b => by unfold dhL; rw [h17, h18, h19, siB_rows h, dhL_rows h h17 h18 h19 p r n, dhL_rows h h17 h18 h19 p r n]
theorem dhB_rows {τ u : Nat → Nat → Nat} (h : DRow τ u) (h17 : u 17 = τ 17) (h18 : u 18 = τ 18) (h19 : u 19 = τ 19) (h16 : u 0 16 = τ 0 16) (p r : Nat) : dhB u p r = dhB τ p r := by
  unfold dhB; rw [h16]; exact dhL_rows h h17 h18 h19 p r _ _ _
def DrS (τ : Nat → Nat → Nat) : Prop := ∀ k, k < τ 0 16 → τ 2 (τ 18 k) = τ 2 (τ 17 k)
