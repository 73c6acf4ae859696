/-! THE REFERENCE: terms that are made, literals -/
def stF (x c e : Nat) : Nat := x - partF x c * 2 ^ (1 + 3 * c) + e * 2 ^ (1 + 3 * c)
theorem st_clr : ∀ c, c < 3 → ∀ x, x < 1024 → nI x &&& (nI (7 * 2 ^ (1 + 3 * c)) ^^^ mI 0) = nI (x - partF x c * 2 ^ (1 + 3 * c)) := by decide +kernel
theorem st_or0 : ∀ c, c < 3 → ∀ x, x < 1024 → ∀ e, e < 8 → (x - partF x c * 2 ^ (1 + 3 * c)) ||| (e * 2 ^ (1 + 3 * c)) = stF x c e := by decide +kernel
theorem pow10 {c : Nat} (hc : c < 3) : 2 ^ (1 + 3 * c) ≤ 2 ^ 7 := Nat.pow_le_pow_right (by omega) (by omega)
theorem st_shl {c e : Nat} (hc : c < 3) (he : e < 8) : nI e <<< (nI (1 + 3 * c) &&& 31) = nI (e * 2 ^ (1 + 3 * c)) := by
  have h1 := pow10 hc
  refine shlK (by omega) ?_
  have : e * 2 ^ (1 + 3 * c) ≤ 8 * 2 ^ 7 := Nat.mul_le_mul (by omega) h1
  omega
theorem st_or {c x e : Nat} (hc : c < 3) (hx : x < 1024) (he : e < 8) : nI (x - partF x c * 2 ^ (1 + 3 * c)) ||| nI (e * 2 ^ (1 + 3 * c)) = nI (stF x c e) := by rw [nx_or, st_or0 c hc x hx e he]
def cvF (τ : Nat → Nat → Nat) (q a i x p : Nat) : Nat := if q = 1 then partF (τ 9 (24 * p + a)) (τ 9 (24 * p + i)) else stF (τ 9 (24 * p + a)) (τ 9 (24 * p + i)) (τ 9 (24 * p + x))
/-- a term is made -/
def MK (τ : Nat → Nat → Nat) (q a i x : Nat) (u : Nat → Nat → Nat) : Prop :=
  (∀ r, r ≠ 0 → r ≠ 2 → r ≠ 3 → r ≠ 4 → r ≠ 5 → r ≠ 6 → r ≠ 9 → u r = τ r) ∧ (∀ j, j ≠ 1 → u 0 j = τ 0 j) ∧ u 0 1 = τ 0 1 + 1 ∧ u 2 = va_up (τ 2) (τ 0 1) q ∧ u 3 = va_up (τ 3) (τ 0 1) q ∧ u 4 = va_up (τ 4) (τ 0 1) a ∧ u 5 = va_up (τ 5) (τ 0 1) i ∧ u 6 = va_up (τ 6) (τ 0 1) x ∧
  (∀ p, p < 5 → u 9 (24 * p + τ 0 1) = cvF τ q a i x p) ∧ (∀ p t, p < 5 → t < 24 → t ≠ τ 0 1 → u 9 (24 * p + t) = τ 9 (24 * p + t))
theorem MK_of {τ S : Nat → Nat → Nat} {q a i x : Nat} (hn24 : τ 0 1 < 24) (hO : ∀ r, r ≠ 9 → S r = sU (sU (sU (sU (sU (sU τ 0 1 (τ 0 1 + 1)) 3 (τ 0 1) q) 4 (τ 0 1) a) 5 (τ 0 1) i) 6 (τ 0 1) x) 2 (τ 0 1) q r)
    (h9 : ∀ j, (∀ p2, p2 < 5 → j ≠ 24 * p2 + τ 0 1) → S 9 j = τ 9 j) (hn : ∀ p2, p2 < 5 → S 9 (24 * p2 + τ 0 1) = cvF τ q a i x p2) : MK τ q a i x S := by
  refine ⟨fun r h0 h2 h3 h4 h5 h6 h9 => ?_, fun j hj => ?_, ?_, ?_, ?_, ?_, ?_, ?_, hn, fun p t hp ht hne => h9 _ (fun p2 hp2 => by omega)⟩
  · rw [hO r h9, sU_ne _ _ _ h2, sU_ne _ _ _ h6, sU_ne _ _ _ h5, sU_ne _ _ _ h4, sU_ne _ _ _ h3, sU_ne _ _ _ h0]
  · rw [hO 0 (by decide), sU_ne _ _ _ (by decide), sU_ne _ _ _ (by decide), sU_ne _ _ _ (by decide), sU_ne _ _ _ (by decide), sU_ne _ _ _ (by decide), sU_at, if_neg hj]
  · rw [hO 0 (by decide), sU_ne _ _ _ (by decide), sU_ne _ _ _ (by decide), sU_ne _ _ _ (by decide), sU_ne _ _ _ (by decide), sU_ne _ _ _ (by decide), sU_at, if_pos rfl]
  · rw [hO 2 (by decide)]; rfl
  · rw [hO 3 (by decide)]; rfl
  · rw [hO 4 (by decide)]; rfl
  · rw [hO 5 (by decide)]; rfl
  · rw [hO 6 (by decide)]; rfl
theorem foundF_rows {τ u : Nat → Nat → Nat} (h3 : u 3 = τ 3) (h4 : u 4 = τ 4) (h5 : u 5 = τ 5) (h6 : u 6 = τ 6) (q a i x : Nat) : ∀ n t, foundF u q a i x n t = foundF τ q a i x n t
  | 0, _ => rfl
  | n + 1, t => by unfold foundF; rw [h3, h4, h5, h6, foundF_rows h3 h4 h5 h6 q a i x n]
theorem foundF_thr (τ : Nat → Nat → Nat) (v q a i x n t : Nat) : foundF (sU τ 0 0 v) q a i x n t = foundF τ q a i x n t := foundF_rows (τ := τ) (u := sU τ 0 0 v) rfl rfl rfl rfl q a i x n t
