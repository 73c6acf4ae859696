/-! ASKING for all claims and some literals more -/
theorem ts_ff {x : Bool} (h : x = false) : ¬ x = true := by rw [h]; decide
theorem addSF_rows {s : Nat → Nat → Nat} {v : Nat} : (∀ r, r ≠ 12 → r ≠ 13 → r ≠ 0 → addSF s v r = s r) ∧ (∀ j, j ≠ 4 → addSF s v 0 j = s 0 j) ∧ addSF s v 0 4 = s 0 4 + 1 ∧ (∀ j, addSF s v 13 j = if j = s 0 4 then 1 else s 13 j) ∧ (∀ j, addSF s v 12 j = if j = s 0 4 * 3 then v else s 12 j) := by
  unfold addSF
  refine ⟨fun r h1 h2 h3 => ?_, fun j hj => ?_, ?_, fun j => ?_, fun j => ?_⟩
  · rw [sU_ne _ _ _ h3, sU_ne _ _ _ h2, sU_ne _ _ _ h1]
  · rw [sU_at, if_neg hj, sU_ne _ _ _ (by decide), sU_ne _ _ _ (by decide)]
  · rw [sU_at, if_pos rfl]
  · rw [sU_ne _ _ _ (by decide), sU_at, sU_ne _ _ _ (by decide)]
  · rw [sU_ne _ _ _ (by decide), sU_ne _ _ _ (by decide), sU_at]
/-- s asks for all claims of σ, and for the first n of the literals f -/
def AR (σ s : Nat → Nat → Nat) (n : Nat) (f : Nat → Nat) : Prop :=
  (∀ r, r ≠ 0 → r ≠ 12 → r ≠ 13 → r ≠ 14 → r ≠ 15 → s r = σ r) ∧ (∀ j, j ≠ 4 → s 0 j = σ 0 j) ∧ IC s ∧ s 0 4 = σ 0 2 + n ∧
  (∀ cl, cl < σ 0 2 → s 13 cl = σ 11 cl ∧ ∀ k, k < σ 11 cl → s 12 (cl * 3 + k) = σ 10 (cl * 3 + k)) ∧ (∀ i, i < n → s 13 (σ 0 2 + i) = 1 ∧ s 12 ((σ 0 2 + i) * 3) = f i)
theorem AR.ks {σ s : Nat → Nat → Nat} {n : Nat} {f : Nat → Nat} (h : AR σ s n f) : KS σ s := ⟨h.1, h.2.1, h.2.2.1⟩
theorem AR.ofAQ {σ s : Nat → Nat → Nat} {f : Nat → Nat} (hI : IC σ) (h : AQ σ s (σ 0 2) 0) : AR σ s 0 f := by
  have hk := KS.ofAQ hI hI.claims h
  obtain ⟨-, -, -, -, -, -, -, pz⟩ := h
  obtain ⟨p1, p2⟩ := pz rfl
  exact ⟨hk.1, hk.2.1, hk.2.2, p1, p2, fun i hi => by omega⟩
theorem AR.finds {σ s u : Nat → Nat → Nat} {n : Nat} {f : Nat → Nat} (h : AR σ s n f) (hu : (∀ r, r ≠ 14 → r ≠ 15 → u r = s r) ∧ (∀ j, j < 96 → u 14 j < 10) ∧ (∀ j, j < 10 → u 15 j ≤ 20)) : AR σ u n f := by
  obtain ⟨a, b, c, d, e, g⟩ := h
  have h0 := hu.1 0 (by decide) (by decide)
  have h12 := hu.1 12 (by decide) (by decide)
  have h13 := hu.1 13 (by decide) (by decide)
  refine ⟨fun r q0 q12 q13 q14 q15 => by rw [hu.1 r q14 q15]; exact a r q0 q12 q13 q14 q15, fun j hj => by rw [h0]; exact b j hj, c.swap hu.1 hu.2.1 hu.2.2, by rw [h0]; exact d, fun cl hcl => ?_, fun i hi => ?_⟩
  · rw [h12, h13]; exact e cl hcl
  · rw [h12, h13]; exact g i hi
theorem AR.single {σ s : Nat → Nat → Nat} {n v : Nat} {f : Nat → Nat} (hI : IC σ) (h : AR σ s n f) (hn : σ 0 2 + n < 11) (hv : litOK v) (hf : f n = v) : AR σ (addSF s v) (n + 1) f := by
  obtain ⟨a, b, c, d, e, g⟩ := h
  obtain ⟨r1, r2, r3, r4, r5⟩ := addSF_rows (s := s) (v := v)
  have hc2 := hI.claims
  refine ⟨fun r q0 q12 q13 q14 q15 => by rw [r1 r q12 q13 q0]; exact a r q0 q12 q13 q14 q15, fun j hj => by rw [r2 j hj]; exact b j hj, ?_, by rw [r3, d]; omega, fun cl hcl => ?_, fun i hi => ?_⟩
  · obtain ⟨h1, h2, h3, h4, h5, h6, h7, h8, h9, h10, h11, h12, h13, h14⟩ := c
    unfold IC
    rw [r1 6 (by decide) (by decide) (by decide), r1 7 (by decide) (by decide) (by decide), r1 8 (by decide) (by decide) (by decide), r1 9 (by decide) (by decide) (by decide), r1 3 (by decide) (by decide) (by decide), r1 10 (by decide) (by decide) (by decide), r1 11 (by decide) (by decide) (by decide), r1 14 (by decide) (by decide) (by decide), r1 15 (by decide) (by decide) (by decide), r2 0 (by decide), r2 1 (by decide), r2 2 (by decide), r3]
    refine ⟨h1, h2, h3, by omega, h5, h6, h7, h8, h9, h10, fun j hj => ?_, fun j hj => ?_, h13, h14⟩
    · rw [r5]; split
      · exact hv
      · exact h11 j hj
    · rw [r4]; split
      · omega
      · exact h12 j hj
  · obtain ⟨e1, e2⟩ := e cl hcl
    have hz := hI.msize (j := cl) (by omega)
    refine ⟨by rw [r4, if_neg (by omega)]; exact e1, fun k hk => ?_⟩
    rw [r5, if_neg (by omega)]
    exact e2 k hk
  · rcases Nat.lt_or_ge i n with z | z
    · obtain ⟨g1, g2⟩ := g i z
      exact ⟨by rw [r4, if_neg (by omega)]; exact g1, by rw [r5, if_neg (by omega)]; exact g2⟩
    · obtain rfl : i = n := by omega
      exact ⟨by rw [r4, if_pos (by omega)], by rw [r5, if_pos (by omega)]; exact hf.symm⟩
theorem AR.cut {σ s : Nat → Nat → Nat} {f g : Nat → Nat} (h : AR σ s 1 f) : AR σ (if σ 0 2 < s 0 4 then sU s 0 4 (σ 0 2) else s) 0 g := by
  obtain ⟨a, b, c, d, e, -⟩ := h
  rw [if_pos (by omega)]
  refine ⟨fun r q0 q12 q13 q14 q15 => by rw [sU_ne _ _ _ q0]; exact a r q0 q12 q13 q14 q15, fun j hj => by rw [sU_at, if_neg hj]; exact b j hj, ?_, by rw [sU_at, if_pos rfl]; rfl, fun cl hcl => ?_, fun i hi => by omega⟩
  · obtain ⟨h1, h2, h3, h4, h5, h6, h7, h8, h9, h10, h11, h12, h13, h14⟩ := c
    unfold IC
    rw [sU_ne _ _ _ (by decide : (6 : Nat) ≠ 0), sU_ne _ _ _ (by decide : (7 : Nat) ≠ 0), sU_ne _ _ _ (by decide : (8 : Nat) ≠ 0), sU_ne _ _ _ (by decide : (9 : Nat) ≠ 0), sU_ne _ _ _ (by decide : (3 : Nat) ≠ 0), sU_ne _ _ _ (by decide : (10 : Nat) ≠ 0), sU_ne _ _ _ (by decide : (11 : Nat) ≠ 0), sU_ne _ _ _ (by decide : (12 : Nat) ≠ 0), sU_ne _ _ _ (by decide : (13 : Nat) ≠ 0), sU_ne _ _ _ (by decide : (14 : Nat) ≠ 0), sU_ne _ _ _ (by decide : (15 : Nat) ≠ 0)]
    rw [sU_at, sU_at, sU_at, sU_at, if_neg (by decide), if_neg (by decide), if_neg (by decide), if_pos rfl]
    exact ⟨h1, h2, h3, by omega, h5, h6, h7, h8, h9, h10, h11, h12, h13, h14⟩
  · rw [sU_ne _ _ _ (by decide : (12 : Nat) ≠ 0), sU_ne _ _ _ (by decide : (13 : Nat) ≠ 0)]
    exact e cl hcl
/-- a reading of the claims of σ in which the first n of the literals f are right too -/
def SatX (σ : Nat → Nat → Nat) (w n : Nat) (f : Nat → Nat) : Prop := ∃ V : Nat → Nat, V 5 = 0 ∧ RngV V ∧ (∀ c, c < σ 0 2 → ∃ k, k < σ 11 c ∧ LD σ w V (σ 10 (c * 3 + k))) ∧ ∀ i, i < n → LD σ w V (f i)
def CanX (σ : Nat → Nat → Nat) (n : Nat) (f : Nat → Nat) : Prop := ∃ w, w < 5 ∧ SatX σ w n f
theorem AR.sat {σ s : Nat → Nat → Nat} {n : Nat} {f : Nat → Nat} (h : AR σ s n f) (w : Nat) : SatA s w ↔ SatX σ w n f := by
  have hk := h.ks
  obtain ⟨a, b, c, d, e, g⟩ := h
  unfold SatA SatX
  constructor
  · rintro ⟨V, h1, h2, h3⟩
    refine ⟨V, h1, h2, fun cl hcl => ?_, fun i hi => ?_⟩
    · obtain ⟨k, k1, k2⟩ := h3 cl (by omega)
      obtain ⟨e1, e2⟩ := e cl hcl
      rw [e1] at k1
      rw [e2 k k1, hk.ld] at k2
      exact ⟨k, k1, k2⟩
    · obtain ⟨k, k1, k2⟩ := h3 (σ 0 2 + i) (by omega)
      obtain ⟨g1, g2⟩ := g i hi
      rw [g1] at k1
      obtain rfl : k = 0 := by omega
      rw [Nat.add_zero, g2, hk.ld] at k2
      exact k2
  · rintro ⟨V, h1, h2, h3, h4⟩
    refine ⟨V, h1, h2, fun cl hcl => ?_⟩
    rcases Nat.lt_or_ge cl (σ 0 2) with z | z
    · obtain ⟨k, k1, k2⟩ := h3 cl z
      obtain ⟨e1, e2⟩ := e cl z
      exact ⟨k, by rw [e1]; exact k1, by rw [e2 k k1, hk.ld]; exact k2⟩
    · obtain ⟨i, rfl⟩ : ∃ i, cl = σ 0 2 + i := ⟨cl - σ 0 2, by omega⟩
      obtain ⟨g1, g2⟩ := g i (by omega)
      exact ⟨0, by omega, by rw [Nat.add_zero, g2, hk.ld]; exact h4 i (by omega)⟩
theorem AR.ask {σ s : Nat → Nat → Nat} {n : Nat} {f : Nat → Nat} (h : AR σ s n f) (hM : MadeW σ) (hf : ∀ i, i < n → litW σ (f i)) : AskW s := by
  have hk := h.ks
  obtain ⟨a, b, c, d, e, g⟩ := h
  intro cl hcl k hk2
  rw [hk.litW]
  rcases Nat.lt_or_ge cl (σ 0 2) with z | z
  · obtain ⟨e1, e2⟩ := e cl z
    rw [e1] at hk2
    rw [e2 k hk2]
    exact hM cl z k hk2
  · obtain ⟨i, rfl⟩ : ∃ i, cl = σ 0 2 + i := ⟨cl - σ 0 2, by omega⟩
    obtain ⟨g1, g2⟩ := g i (by omega)
    rw [g1] at hk2
    obtain rfl : k = 0 := by omega
    rw [Nat.add_zero, g2]
    exact hf i (by omega)
noncomputable def canXB (σ : Nat → Nat → Nat) (n : Nat) (f : Nat → Nat) : Bool := @decide (CanX σ n f) (Classical.propDecidable _)
theorem canXB_iff {σ : Nat → Nat → Nat} {n : Nat} {f : Nat → Nat} : canXB σ n f = true ↔ CanX σ n f := @decide_eq_true_iff _ (Classical.propDecidable _)
theorem AR.can {σ s : Nat → Nat → Nat} {n : Nat} {f : Nat → Nat} (h : AR σ s n f) : fdB s 1 3 = canXB σ n f := by
  refine bool_iff fdB_iff (canXB_iff.trans ?_)
  unfold CanX fdP
  constructor
  · rintro ⟨w, h1, h2⟩
    exact ⟨w, h1, (dif13 w h1).1, (dif13 w h1).2, (h.sat w).mpr h2⟩
  · rintro ⟨w, h1, -, -, h2⟩
    exact ⟨w, h1, (h.sat w).mp h2⟩
theorem litF_ok {t u : Nat} (b : Bool) (ht : t < 24) (hu : u < 24) : litOK (litF t u b) ∧ litF t u b % 32 = t ∧ litF t u b / 32 % 32 = u ∧ saysB (litF t u b) = b := by
  unfold litF litOK saysB
  cases b
  · simp only [Bool.false_eq_true, if_false, decide_eq_false_iff_not]
    omega
  · simp only [if_true, decide_eq_true_eq]
    omega
theorem oppF_ok {v : Nat} (h : litOK v) : litOK (oppF v) ∧ oppF v % 32 = v % 32 ∧ oppF v / 32 % 32 = v / 32 % 32 ∧ saysB (oppF v) = !saysB v := by
  unfold litOK at h ⊢
  unfold oppF saysB
  split
  · rename_i q
    rw [decide_eq_true q]
    simp only [Bool.not_true, decide_eq_false_iff_not]
    omega
  · rename_i q
    rw [decide_eq_false q]
    simp only [Bool.not_false, decide_eq_true_eq]
    omega
theorem addML_eq {σ : Nat → Nat → Nat} {o : Nat} : ∀ (n k : Nat) (s : Nat → Nat → Nat), (∀ r, r ≠ 10 → addML σ o n k s r = s r) ∧ ∀ j, addML σ o n k s 10 j = if s 0 2 * 3 + k ≤ j ∧ j < s 0 2 * 3 + k + n then s 3 (o + (j - s 0 2 * 3)) else s 10 j
  | 0, k, s => ⟨fun _ _ => rfl, fun j => by rw [if_neg (by omega)]; rfl⟩
  | n + 1, k, s => by
    obtain ⟨a, b⟩ := addML_eq (σ := σ) (o := o) n (k + 1) (sU s 10 (s 0 2 * 3 + k) (s 3 (o + k)))
    refine ⟨fun r hr => ?_, fun j => ?_⟩
    · show addML σ o n (k + 1) (sU s 10 (s 0 2 * 3 + k) (s 3 (o + k))) r = s r
      rw [a r hr, sU_ne _ _ _ hr]
    · show addML σ o n (k + 1) (sU s 10 (s 0 2 * 3 + k) (s 3 (o + k))) 10 j = _
      rw [b j, sU_ne _ _ _ (by decide : (0 : Nat) ≠ 10), sU_ne _ _ _ (by decide : (3 : Nat) ≠ 10), sU_at]
      by_cases h1 : s 0 2 * 3 + (k + 1) ≤ j ∧ j < s 0 2 * 3 + (k + 1) + n
      · rw [if_pos h1, if_pos (by omega)]
      · rw [if_neg h1]
        by_cases h2 : j = s 0 2 * 3 + k
        · rw [if_pos h2, if_pos (by omega), h2, Nat.add_sub_cancel_left]
        · rw [if_neg h2, if_neg (by omega)]
theorem addMF_rows {σ : Nat → Nat → Nat} {o z : Nat} : (∀ r, r ≠ 10 → r ≠ 11 → r ≠ 0 → addMF σ o z r = σ r) ∧ (∀ j, j ≠ 2 → addMF σ o z 0 j = σ 0 j) ∧ addMF σ o z 0 2 = σ 0 2 + 1 ∧ (∀ j, addMF σ o z 11 j = if j = σ 0 2 then z else σ 11 j) ∧ (∀ j, addMF σ o z 10 j = if σ 0 2 * 3 ≤ j ∧ j < σ 0 2 * 3 + z then σ 3 (o + (j - σ 0 2 * 3)) else σ 10 j) := by
  obtain ⟨a, b⟩ := addML_eq (σ := σ) (o := o) z 0 σ
  have h4 : addML σ o z 0 σ 0 2 = σ 0 2 := by rw [a 0 (by decide)]
  unfold addMF
  rw [h4]
  refine ⟨fun r h1 h2 h3 => ?_, fun j hj => ?_, ?_, fun j => ?_, fun j => ?_⟩
  · rw [sU_ne _ _ _ h3, sU_ne _ _ _ h2, a r h1]
  · rw [sU_at, if_neg hj, sU_ne _ _ _ (by decide), a 0 (by decide)]
  · rw [sU_at, if_pos rfl]
  · rw [sU_ne _ _ _ (by decide), sU_at, a 11 (by decide)]
  · rw [sU_ne _ _ _ (by decide), sU_ne _ _ _ (by decide), b j]
    rfl
