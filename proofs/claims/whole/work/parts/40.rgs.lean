/-! WAYS: every pattern of likeness among n spots is one of the words that nxF goes through -/
def itL (n : Nat) : Nat → Nat → List Nat
  | 0, _ => []
  | m + 1, w => w :: itL n m (nxF n w)
theorem itL_get {n : Nat} : ∀ m j k, k < m → (itL n m (itF n j))[k]? = some (itF n (j + k))
  | 0, _, k, h => by omega
  | m + 1, j, k, h => by
    unfold itL
    cases k with
    | zero => rfl
    | succ k =>
      rw [List.getElem?_cons_succ, show j + (k + 1) = j + 1 + k by omega]
      exact itL_get m (j + 1) k (by omega)
theorem itL_len {n : Nat} : ∀ m w, (itL n m w).length = m
  | 0, _ => rfl
  | m + 1, w => by unfold itL; rw [List.length_cons, itL_len m]
def genP : Nat → List (Nat × Nat)
  | 0 => [(0, 0)]
  | n + 1 => (genP n).flatMap (fun q => (List.range (q.2 + 1)).map (fun i => (q.1 + i * 2 ^ (3 * n), if i = q.2 then q.2 + 1 else q.2)))
theorem lab_lo {w i n x : Nat} (h : i < n) : labF (w + x * 2 ^ (3 * n)) i = labF w i := by
  unfold labF
  have e : x * 2 ^ (3 * n) = 2 ^ (3 * i) * (8 * (x * 2 ^ (3 * (n - i - 1)))) := by
    rw [show 3 * n = 3 * i + (3 + 3 * (n - i - 1)) by omega, Nat.pow_add, Nat.pow_add]
    show x * (2 ^ (3 * i) * (8 * 2 ^ (3 * (n - i - 1)))) = _
    rw [Nat.mul_left_comm, Nat.mul_left_comm x 8]
  rw [e, Nat.add_mul_div_left _ _ (Nat.two_pow_pos _), Nat.add_mul_mod_self_left]
theorem lab_hi {w n x : Nat} (hw : w < 2 ^ (3 * n)) (hx : x < 8) : labF (w + x * 2 ^ (3 * n)) n = x := by
  unfold labF
  rw [Nat.add_mul_div_right _ _ (Nat.two_pow_pos _), Nat.div_eq_of_lt hw, Nat.zero_add, Nat.mod_eq_of_lt hx]
theorem gen_all (f : Nat → Nat) : ∀ n, n ≤ 8 → ∃ q ∈ genP n, q.2 ≤ n ∧ q.1 < 2 ^ (3 * n) ∧ (∀ i, i < n → labF q.1 i < q.2) ∧ ∀ i j, i < n → j < n → (labF q.1 i = labF q.1 j ↔ f i = f j)
  | 0, _ => ⟨(0, 0), List.mem_singleton.mpr rfl, Nat.le_refl _, by decide, fun i h => by omega, fun i j h => by omega⟩
  | n + 1, hn => by
    obtain ⟨q, h1, h2, h3, h4, h5⟩ := gen_all f n (by omega)
    have step : ∀ x, x ≤ q.2 → (∀ i, i < n → (labF q.1 i = x ↔ f i = f n)) → ∃ q' ∈ genP (n + 1), q'.2 ≤ n + 1 ∧ q'.1 < 2 ^ (3 * (n + 1)) ∧ (∀ i, i < n + 1 → labF q'.1 i < q'.2) ∧ ∀ i j, i < n + 1 → j < n + 1 → (labF q'.1 i = labF q'.1 j ↔ f i = f j) := by
      intro x hx hxf
      have hx8 : x < 8 := by omega
      have lo : ∀ i, i < n → labF (q.1 + x * 2 ^ (3 * n)) i = labF q.1 i := fun i hi => lab_lo hi
      have hi' : labF (q.1 + x * 2 ^ (3 * n)) n = x := lab_hi h3 hx8
      refine ⟨(q.1 + x * 2 ^ (3 * n), if x = q.2 then q.2 + 1 else q.2), ?_, ?_, ?_, fun i hi => ?_, fun i j hi hj => ?_⟩
      · refine List.mem_flatMap.mpr ⟨q, h1, List.mem_map.mpr ⟨x, List.mem_range.mpr (by omega), rfl⟩⟩
      · show (if x = q.2 then q.2 + 1 else q.2) ≤ n + 1
        split <;> omega
      · show q.1 + x * 2 ^ (3 * n) < 2 ^ (3 * (n + 1))
        have e : 2 ^ (3 * (n + 1)) = 8 * 2 ^ (3 * n) := by rw [show 3 * (n + 1) = 3 + 3 * n by omega, Nat.pow_add]
        have : x * 2 ^ (3 * n) ≤ 7 * 2 ^ (3 * n) := Nat.mul_le_mul_right _ (by omega)
        omega
      · show labF (q.1 + x * 2 ^ (3 * n)) i < if x = q.2 then q.2 + 1 else q.2
        rcases Nat.lt_or_ge i n with z | z
        · rw [lo i z]
          have := h4 i z
          split <;> omega
        · obtain rfl : i = n := by omega
          rw [hi']
          split <;> omega
      · show labF (q.1 + x * 2 ^ (3 * n)) i = labF (q.1 + x * 2 ^ (3 * n)) j ↔ f i = f j
        rcases Nat.lt_or_ge i n with z | z
        · rcases Nat.lt_or_ge j n with y | y
          · rw [lo i z, lo j y]; exact h5 i j z y
          · obtain rfl : j = n := by omega
            rw [lo i z, hi']
            exact hxf i z
        · obtain rfl : i = n := by omega
          rcases Nat.lt_or_ge j i with y | y
          · rw [lo j y, hi', eq_comm, hxf j y, eq_comm]
          · obtain rfl : j = i := by omega
            exact ⟨fun _ => rfl, fun _ => rfl⟩
    by_cases hex : ∃ k, k < n ∧ f k = f n
    · obtain ⟨k, k1, k2⟩ := hex
      refine step (labF q.1 k) (Nat.le_of_lt (h4 k k1)) (fun i hi => ?_)
      rw [h5 i k hi k1, k2]
    · refine step q.2 (Nat.le_refl _) (fun i hi => ?_)
      constructor
      · intro z; have := h4 i hi; omega
      · intro z; exact absurd ⟨i, hi, z⟩ hex
set_option maxRecDepth 100000 in
theorem way4 : itL 4 15 0 = (genP 4).map Prod.fst := by decide +kernel
set_option maxRecDepth 100000 in
theorem way6 : itL 6 203 0 = (genP 6).map Prod.fst := by decide +kernel
set_option maxRecDepth 100000 in
theorem way8 : itL 8 4140 0 = (genP 8).map Prod.fst := by decide +kernel
theorem ways_of {n m : Nat} (hn : n ≤ 8) (h : itL n m 0 = (genP n).map Prod.fst) (f : Nat → Nat) : ∃ k, k < m ∧ ∀ i j, i < n → j < n → (labF (itF n k) i = labF (itF n k) j ↔ f i = f j) := by
  obtain ⟨q, h1, -, -, -, h5⟩ := gen_all f n hn
  have hm : q.1 ∈ itL n m 0 := by rw [h]; exact List.mem_map.mpr ⟨q, h1, rfl⟩
  obtain ⟨k, hk⟩ := List.mem_iff_getElem?.mp hm
  have hl : k < m := by
    have := (List.getElem?_eq_some_iff.mp hk).1
    rwa [itL_len] at this
  have he := itL_get (n := n) m 0 k hl
  rw [Nat.zero_add] at he
  have e : itF n k = q.1 := Option.some.inj (he.symm.trans hk)
  exact ⟨k, hl, by rw [e]; exact h5⟩
/-- every pattern, in each of the three sizes -/
theorem ways_all {c : Nat} (hc : c < 3) (f : Nat → Nat) : ∃ k, k < hmT c ∧ ∀ i j, i < 2 * c + 4 → j < 2 * c + 4 → (labF (itF (2 * c + 4) k) i = labF (itF (2 * c + 4) k) j ↔ f i = f j) := by
  rcases (show c = 0 ∨ c = 1 ∨ c = 2 by omega) with rfl | rfl | rfl
  · exact ways_of (n := 4) (m := 15) (by omega) way4 f
  · exact ways_of (n := 6) (m := 203) (by omega) way6 f
  · exact ways_of (n := 8) (m := 4140) (by omega) way8 f
