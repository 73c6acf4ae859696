/-! THE REFERENCE: claims and questions over all readings -/
theorem frT_mono : ∀ p2, p2 < 6 → ∀ p, p < p2 → frT (p + 1) ≤ frT p2 := by decide +kernel
def hbF (τ : Nat → Nat → Nat) (p r : Nat) : Nat := if dhB τ p r = true then τ 13 r ||| 2 ^ (τ 0 15) else τ 13 r &&& (255 - 2 ^ (τ 0 15))
theorem hb_lt {τ : Nat → Nat → Nat} {p r : Nat} (h : τ 13 r < 256) (hc : τ 0 15 < 8) : hbF τ p r < 256 := by
  unfold hbF
  split
  · exact Nat.or_lt_two_pow (n := 8) h (Nat.pow_lt_pow_right (by omega) hc)
  · exact and_lt h
theorem IM.h13 {τ S : Nat → Nat → Nat} {v : Nat} (hI : IM τ) (hO : ∀ r, r ≠ 13 → S r = sU τ 0 0 v r) (hB : ∀ j, j < 9528 → S 13 j < 256) : IM S := by
  have h := hI.thr v
  unfold IM at h ⊢
  rw [hO 0 (by decide), hO 2 (by decide), hO 3 (by decide), hO 4 (by decide), hO 5 (by decide), hO 6 (by decide), hO 8 (by decide), hO 9 (by decide), hO 10 (by decide), hO 11 (by decide), hO 14 (by decide), hO 17 (by decide), hO 18 (by decide), hO 19 (by decide)]
  obtain ⟨h1, h2, h3, h4, h5, h6, h7, h8, h9, -, h11, h12, h13⟩ := h
  exact ⟨h1, h2, h3, h4, h5, h6, h7, h8, h9, hB, h11, h12, h13⟩
def CLM (τ u : Nat → Nat → Nat) : Prop := (∀ r, r ≠ 0 → r ≠ 13 → u r = τ r) ∧ u 0 0 = 0 ∧ u 0 1 = τ 0 1 ∧ u 0 15 = τ 0 15 + 1 ∧ u 0 16 = 0 ∧ (∀ p r, p < 5 → frT p ≤ r → r < frT (p + 1) → u 13 r = hbF τ p r)
def Vis (p1 r1 p r : Nat) : Prop := p < 5 ∧ frT p ≤ r ∧ r < frT (p + 1) ∧ (p < p1 ∨ (p = p1 ∧ r < r1))
theorem vis_0 {r1 p r : Nat} : ¬ Vis 0 0 p r := fun h => by unfold Vis at h; omega
theorem vis_in {p1 p r : Nat} : Vis p1 (frT p1) p r ↔ Vis p1 0 p r := by
  unfold Vis
  constructor
  · rintro ⟨a, b, c, d | ⟨rfl, d⟩⟩
    · exact ⟨a, b, c, Or.inl d⟩
    · omega
  · rintro ⟨a, b, c, d | ⟨rfl, d⟩⟩
    · exact ⟨a, b, c, Or.inl d⟩
    · omega
theorem vis_out {p1 p r : Nat} : Vis p1 (frT (p1 + 1)) p r ↔ Vis (p1 + 1) 0 p r := by
  unfold Vis
  constructor
  · rintro ⟨a, b, c, d | ⟨rfl, d⟩⟩
    · exact ⟨a, b, c, Or.inl (by omega)⟩
    · exact ⟨a, b, c, Or.inl (by omega)⟩
  · rintro ⟨a, b, c, d | ⟨rfl, d⟩⟩
    · rcases Nat.lt_or_ge p p1 with e | e
      · exact ⟨a, b, c, Or.inl e⟩
      · obtain rfl : p = p1 := by omega
        exact ⟨a, b, c, Or.inr ⟨rfl, c⟩⟩
    · omega
theorem vis_st {p1 r1 p r : Nat} (h1 : p1 < 5) (h2 : frT p1 ≤ r1) (h3 : r1 < frT (p1 + 1)) : Vis p1 (r1 + 1) p r ↔ Vis p1 r1 p r ∨ (p = p1 ∧ r = r1) := by
  unfold Vis
  constructor
  · rintro ⟨a, b, c, d | ⟨rfl, d⟩⟩
    · exact Or.inl ⟨a, b, c, Or.inl d⟩
    · rcases Nat.lt_or_ge r r1 with e | e
      · exact Or.inl ⟨a, b, c, Or.inr ⟨rfl, e⟩⟩
      · exact Or.inr ⟨rfl, by omega⟩
  · rintro (⟨a, b, c, d | ⟨rfl, d⟩⟩ | ⟨rfl, rfl⟩)
    · exact ⟨a, b, c, Or.inl d⟩
    · exact ⟨a, b, c, Or.inr ⟨rfl, by omega⟩⟩
    · exact ⟨h1, h2, h3, Or.inr ⟨rfl, by omega⟩⟩
theorem so_add {X : Nat → Nat → Prop} {so so' : Bool} {p1 r1 : Nat} (h1 : p1 < 5) (h2 : frT p1 ≤ r1) (h3 : r1 < frT (p1 + 1)) (h : so = true ↔ ∃ p r, Vis p1 r1 p r ∧ X p r) (hx : so' = true ↔ so = true ∨ X p1 r1) : so' = true ↔ ∃ p r, Vis p1 (r1 + 1) p r ∧ X p r := by
  rw [hx, h]
  constructor
  · rintro (⟨p, r, a, b⟩ | b)
    · exact ⟨p, r, (vis_st h1 h2 h3).mpr (Or.inl a), b⟩
    · exact ⟨p1, r1, (vis_st h1 h2 h3).mpr (Or.inr ⟨rfl, rfl⟩), b⟩
  · rintro ⟨p, r, a, b⟩
    rcases (vis_st h1 h2 h3).mp a with a | ⟨rfl, rfl⟩
    · exact Or.inl ⟨p, r, a, b⟩
    · exact Or.inr b
theorem ev_add {Y : Nat → Nat → Prop} {ev ev' : Bool} {p1 r1 : Nat} (h1 : p1 < 5) (h2 : frT p1 ≤ r1) (h3 : r1 < frT (p1 + 1)) (h : ev = true ↔ ∀ p r, Vis p1 r1 p r → Y p r) (hy : ev' = true ↔ ev = true ∧ Y p1 r1) : ev' = true ↔ ∀ p r, Vis p1 (r1 + 1) p r → Y p r := by
  rw [hy, h]
  constructor
  · rintro ⟨a, b⟩ p r c
    rcases (vis_st h1 h2 h3).mp c with c | ⟨rfl, rfl⟩
    · exact a p r c
    · exact b
  · intro a
    exact ⟨fun p r c => a p r ((vis_st h1 h2 h3).mpr (Or.inl c)), a p1 r1 ((vis_st h1 h2 h3).mpr (Or.inr ⟨rfl, rfl⟩))⟩
theorem so_in {X : Nat → Nat → Prop} {so : Bool} {p1 : Nat} (h : so = true ↔ ∃ p r, Vis p1 0 p r ∧ X p r) : so = true ↔ ∃ p r, Vis p1 (frT p1) p r ∧ X p r := by simpa only [vis_in] using h
theorem so_out {X : Nat → Nat → Prop} {so : Bool} {p1 r1 : Nat} (hr : r1 = frT (p1 + 1)) (h : so = true ↔ ∃ p r, Vis p1 r1 p r ∧ X p r) : so = true ↔ ∃ p r, Vis (p1 + 1) 0 p r ∧ X p r := by rw [hr] at h; simpa only [vis_out] using h
theorem ev_in {X : Nat → Nat → Prop} {so : Bool} {p1 : Nat} (h : so = true ↔ ∀ p r, Vis p1 0 p r → X p r) : so = true ↔ ∀ p r, Vis p1 (frT p1) p r → X p r := by simpa only [vis_in] using h
theorem ev_out {X : Nat → Nat → Prop} {so : Bool} {p1 r1 : Nat} (hr : r1 = frT (p1 + 1)) (h : so = true ↔ ∀ p r, Vis p1 r1 p r → X p r) : so = true ↔ ∀ p r, Vis (p1 + 1) 0 p r → X p r := by rw [hr] at h; simpa only [vis_out] using h
theorem vis_5 {p r : Nat} : Vis 5 0 p r ↔ p < 5 ∧ frT p ≤ r ∧ r < frT (p + 1) := by
  unfold Vis
  constructor
  · rintro ⟨a, b, c, -⟩; exact ⟨a, b, c⟩
  · rintro ⟨a, b, c⟩; exact ⟨a, b, c, Or.inl a⟩
/-- in the reading r all claims of the set hold -/
def HS (τ : Nat → Nat → Nat) (set r : Nat) : Prop := τ 13 r &&& set = set
def SetA (τ : Nat → Nat → Nat) : Nat := 2 ^ (τ 0 15) - 1
def smX (τ : Nat → Nat → Nat) (t u : Nat) (p r : Nat) : Prop := HS τ (SetA τ) r ∧ siB τ t u p r = true
def smY (τ : Nat → Nat → Nat) (t u : Nat) (p r : Nat) : Prop := HS τ (SetA τ) r → siB τ t u p r = true
def flY (τ : Nat → Nat → Nat) (p r : Nat) : Prop := HS τ (SetA τ) r → dhB τ p r = true
def InR (p r : Nat) : Prop := p < 5 ∧ frT p ≤ r ∧ r < frT (p + 1)
noncomputable def follB (τ : Nat → Nat → Nat) : Bool := @decide (∀ p r, InR p r → flY τ p r) (Classical.propDecidable _)
theorem follB_iff {τ : Nat → Nat → Nat} : follB τ = true ↔ ∀ p r, InR p r → flY τ p r := @decide_eq_true_iff _ (Classical.propDecidable _)
def SM (τ : Nat → Nat → Nat) (p : Nat) : Prop := ∃ r, frT p ≤ r ∧ r < frT (p + 1) ∧ HS τ (SetA τ) r
theorem IM.cl3 : ∀ p, p < 5 → difF p ≤ 3 := by decide +kernel
theorem DrS_of {τ S : Nat → Nat → Nat} {v : Nat} (hO : ∀ r, r ≠ 13 → S r = sU τ 0 0 v r) (h : DrS τ) : DrS S := by
  unfold DrS
  rw [hO 0 (by decide), hO 2 (by decide), hO 17 (by decide), hO 18 (by decide)]
  exact h
theorem dhB_of {τ S : Nat → Nat → Nat} {v : Nat} (hO : ∀ r, r ≠ 13 → S r = sU τ 0 0 v r) (p r : Nat) : dhB S p r = dhB τ p r := by
  refine dhB_rows (τ := τ) (u := S) ⟨hO 2 (by decide), hO 8 (by decide), hO 9 (by decide), hO 10 (by decide), hO 11 (by decide), hO 14 (by decide)⟩ (hO 17 (by decide)) (hO 18 (by decide)) (hO 19 (by decide)) ?_ p r
  rw [hO 0 (by decide)]; rfl
theorem CLM_of {τ S : Nat → Nat → Nat} (hO : ∀ r, r ≠ 13 → S r = sU τ 0 0 0 r) (hH : ∀ p r, p < 5 → frT p ≤ r → r < frT (p + 1) → S 13 r = hbF τ p r) : CLM τ (sU (sU S 0 16 0) 0 15 (S 0 15 + 1)) := by
  have h0 := hO 0 (by decide)
  refine ⟨fun r q0 q13 => ?_, ?_, ?_, ?_, ?_, fun p r q1 q2 q3 => hH p r q1 q2 q3⟩
  · rw [sU_ne _ _ _ q0, sU_ne _ _ _ q0, hO r q13, sU_ne _ _ _ q0]
  · rw [sU_at, if_neg (by decide), sU_at, if_neg (by decide), h0, sU_at, if_pos rfl]
  · rw [sU_at, if_neg (by decide), sU_at, if_neg (by decide), h0, sU_at, if_neg (by decide)]
  · rw [sU_at, if_pos rfl, h0, sU_at, if_neg (by decide)]
  · rw [sU_at, if_neg (by decide), sU_at, if_pos rfl]
theorem siB_thr (τ : Nat → Nat → Nat) (v t u p r : Nat) : siB (sU τ 0 0 v) t u p r = siB τ t u p r := siB_rows (τ := τ) (u := sU τ 0 0 v) ⟨rfl, rfl, rfl, rfl, rfl, rfl⟩ t u p r
theorem dhB_thr (τ : Nat → Nat → Nat) (v p r : Nat) : dhB (sU τ 0 0 v) p r = dhB τ p r := dhB_rows (τ := τ) (u := sU τ 0 0 v) ⟨rfl, rfl, rfl, rfl, rfl, rfl⟩ rfl rfl rfl rfl p r
theorem bor {a b : Bool} (h : a = true) : true = true ↔ a = true ∨ b = true := ⟨fun _ => Or.inl h, fun _ => rfl⟩
