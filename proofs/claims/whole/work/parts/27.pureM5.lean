theorem ev_early {Y : Nat → Nat → Prop} {ev : Bool} {p1 r1 : Nat} (h : ev = true ↔ ∀ p r, Vis p1 r1 p r → Y p r) (hf : ev = false) : ev = true ↔ ∀ p r, Vis (p1 + 1) 0 p r → Y p r := by
  constructor
  · intro q; exact absurd q (ts_ff hf)
  · intro q
    refine h.mpr (fun p r v => q p r ?_)
    unfold Vis at v ⊢
    obtain ⟨a, b, c, d⟩ := v
    exact ⟨a, b, c, Or.inl (by omega)⟩
theorem fol_early {τ : Nat → Nat → Nat} {ev : Bool} {p1 : Nat} (h : ev = true ↔ ∀ p r, Vis p1 0 p r → flY τ p r) (hf : ev = false) : ev = follB τ := by
  refine bool_iff (P := ev = true) Iff.rfl ?_
  rw [follB_iff, h]
  constructor
  · intro q p r v
    obtain ⟨a, b, c, -⟩ := v
    exact q p r ⟨a, b, c⟩
  · intro q
    exact absurd (h.mpr q) (ts_ff hf)
theorem fol_end {τ : Nat → Nat → Nat} {ev : Bool} (h : ev = true ↔ ∀ p r, Vis 5 0 p r → flY τ p r) : ev = follB τ := by
  refine bool_iff h ?_
  rw [follB_iff]
  constructor
  · intro q p r v; exact q p r (vis_5.mp v)
  · intro q p r v; exact q p r (vis_5.mpr v)
def APF (τ : Nat → Nat → Nat) (p1 be : Nat) : Prop := be ≤ 3 ∧ (be = 3 ∨ ∃ p, p < p1 ∧ SM τ p ∧ difF p = be) ∧ ∀ p, p < p1 → SM τ p → be ≤ difF p
def APM (τ : Nat → Nat → Nat) (p1 be : Nat) : Prop := be ≤ 3 ∧ (be = 0 ∨ ∃ p, p < p1 ∧ SM τ p ∧ difF p = be) ∧ ∀ p, p < p1 → SM τ p → difF p ≤ be
theorem APF.keep {τ : Nat → Nat → Nat} {p1 be : Nat} (h : APF τ p1 be) (hk : SM τ p1 → be ≤ difF p1) : APF τ (p1 + 1) be := by
  obtain ⟨a, b, c⟩ := h
  refine ⟨a, ?_, fun p hp hs => ?_⟩
  · rcases b with b | ⟨p, b1, b2⟩
    · exact Or.inl b
    · exact Or.inr ⟨p, by omega, b2⟩
  · rcases Nat.lt_or_ge p p1 with z | z
    · exact c p z hs
    · obtain rfl : p = p1 := by omega
      exact hk hs
theorem APF.new {τ : Nat → Nat → Nat} {p1 be : Nat} (h : APF τ p1 be) (hs : SM τ p1) (hl : difF p1 < be) : APF τ (p1 + 1) (difF p1) := by
  obtain ⟨a, b, c⟩ := h
  refine ⟨by omega, Or.inr ⟨p1, by omega, hs, rfl⟩, fun p hp hs2 => ?_⟩
  rcases Nat.lt_or_ge p p1 with z | z
  · have := c p z hs2; omega
  · obtain rfl : p = p1 := by omega
    exact Nat.le_refl _
theorem APM.keep {τ : Nat → Nat → Nat} {p1 be : Nat} (h : APM τ p1 be) (hk : SM τ p1 → difF p1 ≤ be) : APM τ (p1 + 1) be := by
  obtain ⟨a, b, c⟩ := h
  refine ⟨a, ?_, fun p hp hs => ?_⟩
  · rcases b with b | ⟨p, b1, b2⟩
    · exact Or.inl b
    · exact Or.inr ⟨p, by omega, b2⟩
  · rcases Nat.lt_or_ge p p1 with z | z
    · exact c p z hs
    · obtain rfl : p = p1 := by omega
      exact hk hs
theorem APM.new {τ : Nat → Nat → Nat} {p1 be : Nat} (h : APM τ p1 be) (hs : SM τ p1) (hl : be < difF p1) : APM τ (p1 + 1) (difF p1) := by
  obtain ⟨a, b, c⟩ := h
  refine ⟨difF_le p1, Or.inr ⟨p1, by omega, hs, rfl⟩, fun p hp hs2 => ?_⟩
  rcases Nat.lt_or_ge p p1 with z | z
  · have := c p z hs2; omega
  · obtain rfl : p = p1 := by omega
    exact Nat.le_refl _
theorem sm_add {τ : Nat → Nat → Nat} {so so' : Bool} {p1 r1 set : Nat} (h2 : frT p1 ≤ r1) (h : so = true ↔ ∃ r, frT p1 ≤ r ∧ r < r1 ∧ HS τ set r) (hx : so' = true ↔ so = true ∨ HS τ set r1) : so' = true ↔ ∃ r, frT p1 ≤ r ∧ r < r1 + 1 ∧ HS τ set r := by
  rw [hx, h]
  constructor
  · rintro (⟨r, a, b, c⟩ | c)
    · exact ⟨r, a, by omega, c⟩
    · exact ⟨r1, h2, by omega, c⟩
  · rintro ⟨r, a, b, c⟩
    rcases Nat.lt_or_ge r r1 with z | z
    · exact Or.inl ⟨r, a, z, c⟩
    · obtain rfl : r = r1 := by omega
      exact Or.inr c
def itF (k0 : Nat) : Nat → Nat
  | 0 => 0
  | k + 1 => nxF k0 (itF k0 k)
