/-! THE SEARCH IS RIGHT: cmpF finds an assignment of elements to spots, if there is one -/
def eqV (σ : Nat → Nat → Nat) (V : Nat → Nat) (q t u : Nat) : Prop := (q = 0 → σ 14 (t * 4) = σ 14 (u * 4)) ∧ (q ≠ 0 → ∀ j, j < widF q → V (σ 14 (t * 4 + j)) = V (σ 14 (u * 4 + j)))
def LTV (σ : Nat → Nat → Nat) (V : Nat → Nat) (v : Nat) : Prop := saysB v = true ↔ eqV σ V (σ 6 (v % 32)) (v % 32) (v / 32 % 32)
def ClV (σ : Nat → Nat → Nat) (V : Nat → Nat) (cl : Nat) : Prop := ∃ k, k < σ 13 cl ∧ LTV σ V (σ 12 (cl * 3 + k))
def AllV (σ : Nat → Nat → Nat) (V : Nat → Nat) : Prop := ∀ cl, cl < σ 0 4 → ClV σ V cl
def ExtV (σ : Nat → Nat → Nat) (V : Nat → Nat) : Prop := ∀ j, j < 10 → σ 15 j ≠ 0 → V j + 1 = σ 15 j
def RngV (V : Nat → Nat) : Prop := V 9 ≤ 1 ∧ ∀ j, j < 10 → j ≠ 5 → j ≠ 9 → 2 ≤ V j
theorem pl_1 {σ : Nat → Nat → Nat} {V : Nat → Nat} {q x y : Nat} (hE : ExtV σ V) (hx : x < 10) (hy : y < 10) (h : plF σ q x y = 1) : V x = V y := by
  unfold plF at h
  repeat' split at h
  all_goals first | (rename_i q; rw [q]; done) | omega | skip
  rename_i h1 h2 h3
  have a := hE x hx h1
  have b := hE y hy h2
  omega
theorem pl_0 {σ : Nat → Nat → Nat} {V : Nat → Nat} {q x y : Nat} (hE : ExtV σ V) (hq : q ≠ 0) (hx : x < 10) (hy : y < 10) (h : plF σ q x y = 0) : V x ≠ V y := by
  unfold plF at h
  repeat' split at h
  all_goals first | omega | skip
  rename_i h1 h2 h3
  have a := hE x hx h1
  have b := hE y hy h2
  omega
theorem pl_q0 {σ : Nat → Nat → Nat} {x y : Nat} : plF σ 0 x y = if x = y then 1 else 0 := by
  unfold plF; split <;> simp
theorem rl_1 {σ : Nat → Nat → Nat} {q t u : Nat} : ∀ n j al, rlF σ q t u n j al = 1 → al = 1 ∧ ∀ i, j ≤ i → i < j + n → plF σ q (σ 14 (t * 4 + i)) (σ 14 (u * 4 + i)) = 1
  | 0, j, al, h => ⟨h, fun i h1 h2 => by omega⟩
  | n + 1, j, al, h => by
    unfold rlF at h
    split at h
    · omega
    · split at h
      · rename_i h1
        obtain ⟨a, b⟩ := rl_1 n _ _ h
        refine ⟨a, fun i h2 h3 => ?_⟩
        rcases Nat.lt_or_ge j i with c | c
        · exact b i (by omega) (by omega)
        · obtain rfl : i = j := by omega
          exact h1
      · rename_i h1
        exact absurd (rl_1 n _ _ h).1 h1
theorem rl_0 {σ : Nat → Nat → Nat} {q t u : Nat} : ∀ n j al, rlF σ q t u n j al = 0 → al ≠ 0 → ∃ i, j ≤ i ∧ i < j + n ∧ plF σ q (σ 14 (t * 4 + i)) (σ 14 (u * 4 + i)) = 0
  | 0, j, al, h, h0 => absurd h h0
  | n + 1, j, al, h, h0 => by
    unfold rlF at h
    rw [if_neg h0] at h
    split at h
    · obtain ⟨i, a, b, c⟩ := rl_0 n _ _ h h0
      exact ⟨i, by omega, by omega, c⟩
    · by_cases h1 : plF σ q (σ 14 (t * 4 + j)) (σ 14 (u * 4 + j)) = 0
      · exact ⟨j, by omega, by omega, h1⟩
      · obtain ⟨i, a, b, c⟩ := rl_0 n _ _ h h1
        exact ⟨i, by omega, by omega, c⟩
theorem rl_2 {σ : Nat → Nat → Nat} {q t u : Nat} : ∀ n j al, rlF σ q t u n j al = 2 → al ≠ 2 → ∃ i, j ≤ i ∧ i < j + n ∧ plF σ q (σ 14 (t * 4 + i)) (σ 14 (u * 4 + i)) = 2
  | 0, j, al, h, h0 => absurd h h0
  | n + 1, j, al, h, h0 => by
    unfold rlF at h
    split at h
    · omega
    · split at h
      · obtain ⟨i, a, b, c⟩ := rl_2 n _ _ h h0
        exact ⟨i, by omega, by omega, c⟩
      · by_cases h1 : plF σ q (σ 14 (t * 4 + j)) (σ 14 (u * 4 + j)) = 2
        · exact ⟨j, by omega, by omega, h1⟩
        · obtain ⟨i, a, b, c⟩ := rl_2 n _ _ h h1
          exact ⟨i, by omega, by omega, c⟩
theorem widF_le (q : Nat) : widF q ≤ 4 ∧ 1 ≤ widF q := by unfold widF; split <;> omega
theorem al_1 {σ : Nat → Nat → Nat} {V : Nat → Nat} {v : Nat} (hI : IC σ) (hv : litOK v) (hE : ExtV σ V) (h : alF σ v = 1) : eqV σ V (σ 6 (v % 32)) (v % 32) (v / 32 % 32) := by
  obtain ⟨-, b⟩ := rl_1 _ _ _ h
  have hw := widF_le (σ 6 (v % 32))
  obtain ⟨h1, h2, h3⟩ := hv
  refine ⟨fun q => ?_, fun q j hj => ?_⟩
  · have := b 0 (by omega) (by omega)
    rw [q, pl_q0] at this
    split at this
    · assumption
    · omega
  · exact pl_1 hE (hI.parts (by omega)) (hI.parts (by omega)) (b j (by omega) (by omega))
theorem al_0 {σ : Nat → Nat → Nat} {V : Nat → Nat} {v : Nat} (hI : IC σ) (hv : litOK v) (hE : ExtV σ V) (h : alF σ v = 0) : ¬ eqV σ V (σ 6 (v % 32)) (v % 32) (v / 32 % 32) := by
  obtain ⟨i, a, b, c⟩ := rl_0 _ _ _ h (by omega)
  have hw := widF_le (σ 6 (v % 32))
  obtain ⟨h1, h2, h3⟩ := hv
  intro he
  by_cases q : σ 6 (v % 32) = 0
  · have e := he.1 q
    have hi : i = 0 := by rw [q] at b; have : widF 0 = 1 := rfl; omega
    rw [q, hi, pl_q0] at c
    split at c
    · omega
    · exact absurd e (by assumption)
  · exact pl_0 hE q (hI.parts (by omega)) (hI.parts (by omega)) c (he.2 q i (by omega))
theorem rt_1 {σ : Nat → Nat → Nat} {V : Nat → Nat} {v : Nat} (hI : IC σ) (hv : litOK v) (hE : ExtV σ V) (h : rtF σ v = 1) : LTV σ V v := by
  unfold rtF at h
  split at h
  · omega
  · split at h
    · rename_i h2
      exact ⟨fun _ => al_1 hI hv hE h, fun _ => h2⟩
    · rename_i h2
      split at h
      · omega
      · rename_i h0 h1
        have hal := @alF_le σ v
        exact ⟨fun q => absurd q h2, fun q => absurd q (al_0 hI hv hE (by omega))⟩
theorem rt_0 {σ : Nat → Nat → Nat} {V : Nat → Nat} {v : Nat} (hI : IC σ) (hv : litOK v) (hE : ExtV σ V) (h : rtF σ v = 0) : ¬ LTV σ V v := by
  unfold rtF at h
  split at h
  · omega
  · split at h
    · rename_i h2
      exact fun q => al_0 hI hv hE h (q.mp h2)
    · rename_i h2
      split at h
      · rename_i h1
        exact fun q => h2 (q.mpr (al_1 hI hv hE h1))
      · omega
theorem rt_2 {σ : Nat → Nat → Nat} {v : Nat} (h : rtF σ v = 2) : alF σ v = 2 := by
  have hal := @alF_le σ v
  unfold rtF at h
  repeat' split at h
  all_goals first | assumption | omega
theorem oso_ne {σ : Nat → Nat → Nat} {q t u : Nat} : ∀ n j, (∃ i, j ≤ i ∧ i < j + n ∧ plF σ q (σ 14 (t * 4 + i)) (σ 14 (u * 4 + i)) = 2) → osoF σ q t u n j ≠ 0
  | 0, j, h => by obtain ⟨i, a, b, -⟩ := h; omega
  | n + 1, j, h => by
    unfold osoF
    split
    · split <;> omega
    · rename_i h2
      obtain ⟨i, a, b, c⟩ := h
      refine oso_ne n (j + 1) ⟨i, ?_, by omega, c⟩
      rcases Nat.lt_or_ge j i with d | d
      · omega
      · obtain rfl : i = j := by omega
        exact absurd c h2
theorem ho_1 {σ : Nat → Nat → Nat} {V : Nat → Nat} {cl : Nat} (hI : IC σ) (hE : ExtV σ V) : ∀ n k an, cl * 3 + k + n ≤ 33 → holdF σ cl n k an = 1 → an ≠ 1 → ∃ i, k ≤ i ∧ i < k + n ∧ LTV σ V (σ 12 (cl * 3 + i))
  | 0, k, an, _, h, h0 => absurd h h0
  | n + 1, k, an, hk, h, h0 => by
    unfold holdF at h
    split at h
    · rename_i h1
      exact ⟨k, by omega, by omega, rt_1 hI (hI.alit (by omega)) hE h1⟩
    · split at h
      · obtain ⟨i, a, b, c⟩ := ho_1 hI hE n _ _ (by omega) h (by omega)
        exact ⟨i, by omega, by omega, c⟩
      · obtain ⟨i, a, b, c⟩ := ho_1 hI hE n _ _ (by omega) h h0
        exact ⟨i, by omega, by omega, c⟩
theorem ho_0 {σ : Nat → Nat → Nat} {V : Nat → Nat} {cl : Nat} (hI : IC σ) (hE : ExtV σ V) : ∀ n k an, cl * 3 + k + n ≤ 33 → holdF σ cl n k an = 0 → an = 0 ∧ ∀ i, k ≤ i → i < k + n → ¬ LTV σ V (σ 12 (cl * 3 + i))
  | 0, k, an, _, h => ⟨h, fun i a b => by omega⟩
  | n + 1, k, an, hk, h => by
    have hr := @rtF_le σ (σ 12 (cl * 3 + k))
    unfold holdF at h
    split at h
    · omega
    · split at h
      · exact absurd (ho_0 hI hE n _ _ (by omega) h).1 (by omega)
      · obtain ⟨a, b⟩ := ho_0 hI hE n _ _ (by omega) h
        refine ⟨a, fun i c d => ?_⟩
        rcases Nat.lt_or_ge k i with e | e
        · exact b i (by omega) (by omega)
        · obtain rfl : i = k := by omega
          exact rt_0 hI (hI.alit (by omega)) hE (by omega)
theorem ho_2 {σ : Nat → Nat → Nat} {cl : Nat} : ∀ n k an, holdF σ cl n k an = 2 → an ≠ 2 → ∃ i, k ≤ i ∧ i < k + n ∧ rtF σ (σ 12 (cl * 3 + i)) = 2
  | 0, k, an, h, h0 => absurd h h0
  | n + 1, k, an, h, h0 => by
    unfold holdF at h
    split at h
    · omega
    · split at h
      · rename_i h2
        exact ⟨k, by omega, by omega, h2⟩
      · obtain ⟨i, a, b, c⟩ := ho_2 n _ _ h h0
        exact ⟨i, by omega, by omega, c⟩
theorem os_ne {σ : Nat → Nat → Nat} {cl : Nat} : ∀ n k, (∃ i, k ≤ i ∧ i < k + n ∧ rtF σ (σ 12 (cl * 3 + i)) = 2) → osF σ cl n k ≠ 0
  | 0, k, h => by obtain ⟨i, a, b, -⟩ := h; omega
  | n + 1, k, h => by
    unfold osF
    split
    · rename_i h2
      obtain ⟨i, a, b, c⟩ := rl_2 _ _ _ (rt_2 h2) (by omega)
      exact oso_ne _ _ ⟨i, a, b, c⟩
    · rename_i h2
      obtain ⟨i, a, b, c⟩ := h
      refine os_ne n (k + 1) ⟨i, ?_, by omega, c⟩
      rcases Nat.lt_or_ge k i with d | d
      · omega
      · obtain rfl : i = k := by omega
        exact absurd c h2
theorem sc_none {σ : Nat → Nat → Nat} : ∀ n un, scF σ n un = none → ∃ i, i < n ∧ holdF σ i (σ 13 i) 0 0 = 0
  | 0, un, h => by cases h
  | n + 1, un, h => by
    unfold scF at h
    split at h
    · rename_i h1; exact ⟨n, by omega, h1⟩
    · split at h
      · obtain ⟨i, a, b⟩ := sc_none n _ h; exact ⟨i, by omega, b⟩
      · obtain ⟨i, a, b⟩ := sc_none n _ h; exact ⟨i, by omega, b⟩
theorem sc_zero {σ : Nat → Nat → Nat} : ∀ n un, scF σ n un = some 0 → un = 0 ∧ ∀ i, i < n → holdF σ i (σ 13 i) 0 0 = 1
  | 0, un, h => ⟨Option.some.inj h, fun i q => by omega⟩
  | n + 1, un, h => by
    have hho := holdF_le σ n (σ 13 n) 0 0 (by omega)
    unfold scF at h
    split at h
    · cases h
    · split at h
      · exact absurd (sc_zero n _ h).1 (by omega)
      · obtain ⟨a, b⟩ := sc_zero n _ h
        refine ⟨a, fun i q => ?_⟩
        rcases Nat.lt_or_ge i n with c | c
        · exact b i c
        · obtain rfl : i = n := by omega
          omega
theorem sc_some {σ : Nat → Nat → Nat} {c : Nat} : ∀ n un, scF σ n un = some (c + 1) → un = c + 1 ∨ (c < n ∧ holdF σ c (σ 13 c) 0 0 = 2)
  | 0, un, h => Or.inl (Option.some.inj h)
  | n + 1, un, h => by
    unfold scF at h
    split at h
    · cases h
    · split at h
      · rename_i h2
        rcases sc_some n _ h with a | ⟨a, b⟩
        · obtain rfl : n = c := by omega
          exact Or.inr ⟨by omega, h2⟩
        · exact Or.inr ⟨by omega, b⟩
      · rcases sc_some n _ h with a | ⟨a, b⟩
        · exact Or.inl a
        · exact Or.inr ⟨by omega, b⟩
/-- what is chosen so far -/
def ChS (σ : Nat → Nat → Nat) (f : Nat) : Prop := σ 15 5 = 1 ∧ σ 15 9 ≤ 2 ∧ 2 ≤ f ∧ ∀ j, j < 10 → j ≠ 5 → j ≠ 9 → σ 15 j ≠ 0 → 3 ≤ σ 15 j ∧ σ 15 j ≤ f
theorem any_true {P : Nat → Bool} : ∀ n el, anyF P n el = true ↔ ∃ i, el ≤ i ∧ i < el + n ∧ P i = true
  | 0, el => by
    constructor
    · intro h; cases h
    · rintro ⟨i, a, b, -⟩; omega
  | n + 1, el => by
    unfold anyF
    split
    · rename_i h
      exact ⟨fun _ => ⟨el, by omega, by omega, h⟩, fun _ => rfl⟩
    · rename_i h
      rw [any_true n (el + 1)]
      constructor
      · rintro ⟨i, a, b, c⟩; exact ⟨i, by omega, by omega, c⟩
      · rintro ⟨i, a, b, c⟩
        refine ⟨i, ?_, by omega, c⟩
        rcases Nat.lt_or_ge el i with d | d
        · omega
        · obtain rfl : i = el := by omega
          exact absurd c h
def swp (a b x : Nat) : Nat := if x = a then b else if x = b then a else x
theorem swp_inj {a b x y : Nat} : swp a b x = swp a b y ↔ x = y := by
  unfold swp
  constructor
  · intro h
    repeat' split at h
    all_goals omega
  · intro h; rw [h]
theorem AllV.swap {σ : Nat → Nat → Nat} {V : Nat → Nat} (a b : Nat) (h : AllV σ V) : AllV σ (fun j => swp a b (V j)) := by
  intro cl hc
  obtain ⟨k, hk, h1⟩ := h cl hc
  refine ⟨k, hk, ?_⟩
  have e : ∀ q t u, eqV σ (fun j => swp a b (V j)) q t u ↔ eqV σ V q t u := by
    intro q t u
    unfold eqV
    simp only [swp_inj]
  unfold LTV
  rw [e]
  exact h1
theorem cmp_sound {f0 : Nat} : ∀ (d : Nat) (σ : Nat → Nat → Nat) (f : Nat), f0 ≤ f → IC σ → ChS σ f → f + opn σ ≤ 12 → cmpF d σ f = true → ∃ V, ExtV σ V ∧ RngV V ∧ AllV σ V
  | 0, σ, f, _, _, _, _, h => by cases h
  | d + 1, σ, f, hf0, hI, hC, hfo, h => by
    obtain ⟨c1, c2, c3, c4⟩ := id hC
    cases hs : scF σ (σ 0 4) 0 with
    | none => rw [cmpF_none hs] at h; cases h
    | some un =>
      cases un with
      | zero =>
        obtain ⟨-, b⟩ := sc_zero _ _ hs
        have hE : ExtV σ (fun j => if σ 15 j = 0 then (if j = 9 then 0 else 2) else σ 15 j - 1) := by
          intro j hj h0
          show (if σ 15 j = 0 then _ else σ 15 j - 1) + 1 = σ 15 j
          rw [if_neg h0]; omega
        refine ⟨_, hE, ⟨?_, fun j hj h5 h9 => ?_⟩, fun cl hc => ?_⟩
        · show (if σ 15 9 = 0 then (if 9 = 9 then 0 else 2) else σ 15 9 - 1) ≤ 1
          split
          · simp
          · omega
        · show 2 ≤ if σ 15 j = 0 then (if j = 9 then 0 else 2) else σ 15 j - 1
          split
          · simp [h9]
          · rename_i h0
            have := c4 j hj h5 h9 h0
            omega
        · have hsz := hI.asize (j := cl) (by have := hI.asked; omega)
          obtain ⟨i, -, q2, q3⟩ := ho_1 hI hE (σ 13 cl) 0 0 (by have := hI.asked; omega) (b cl hc) (by omega)
          exact ⟨i, by omega, q3⟩
      | succ cc =>
        rw [cmpF_some hs] at h
        have hcc := sc_some _ _ hs
        have hca := hI.asked
        have hsz := hI.asize (j := cc) (by omega)
        have hop := osF_open hI (cl := cc) (σ 13 cc) 0 (by omega)
        obtain ⟨sp, hsp⟩ : ∃ z, z = osF σ cc (σ 13 cc) 0 := ⟨_, rfl⟩
        rw [← hsp] at h hop
        split at h
        · cases h
        · rename_i hs0
          obtain ⟨ho1, ho2⟩ := hop hs0
          obtain ⟨el, a, b, h⟩ := (any_true _ _).mp h
          have hon := opn_set (σ := σ) (i := sp - 1) (v := el + 1) ho1 ho2 (by omega)
          have hne : sp - 1 ≠ 5 := fun q => by rw [q] at ho2; omega
          obtain ⟨V, h1, h2, h3⟩ := cmp_sound (f0 := f0) d (sU σ 15 (sp - 1) (el + 1)) (if el = f then f + 1 else f) (by split <;> omega) (hI.set15 (by
              unfold frF toF at b
              split at b <;> omega)) (by
              unfold frF toF at b
              unfold frF at a
              refine ⟨by rw [sU_at, if_neg (by omega)]; exact c1, ?_, by split <;> omega, fun j hj h5 h9 h0 => ?_⟩
              · rw [sU_at]
                split
                · rw [if_pos (by omega)] at b; rw [if_pos (by omega)] at b; omega
                · exact c2
              · rw [sU_at] at h0 ⊢
                split at h0
                · rename_i hj2
                  rw [if_neg (by omega), if_neg (by omega)] at b
                  rw [if_neg (by omega)] at a
                  rw [if_pos hj2]
                  split <;> omega
                · rename_i hj2
                  have := c4 j hj h5 h9 h0
                  rw [if_neg hj2]
                  split <;> omega) (by split <;> omega) h
          refine ⟨V, fun j hj h0 => ?_, h2, h3⟩
          have hj2 : j ≠ sp - 1 := fun q => h0 (by rw [q]; exact ho2)
          have := h1 j hj (by rw [sU_at, if_neg hj2]; exact h0)
          rw [sU_at, if_neg hj2] at this
          exact this
theorem cmp_all : ∀ (d : Nat) (σ : Nat → Nat → Nat) (f : Nat), IC σ → ChS σ f → f + opn σ ≤ 12 → opn σ < d → (∃ V, ExtV σ V ∧ RngV V ∧ AllV σ V) → cmpF d σ f = true
  | 0, σ, f, _, _, _, h, _ => absurd h (Nat.not_lt_zero _)
  | d + 1, σ, f, hI, hC, hfo, hd, ⟨V, hE, hR, hA⟩ => by
    obtain ⟨c1, c2, c3, c4⟩ := id hC
    have hca := hI.asked
    cases hs : scF σ (σ 0 4) 0 with
    | none =>
      obtain ⟨i, a, b⟩ := sc_none _ _ hs
      have hsz := hI.asize (j := i) (by omega)
      obtain ⟨-, q⟩ := ho_0 hI hE (σ 13 i) 0 0 (by omega) b
      obtain ⟨k, k1, k2⟩ := hA i a
      exact absurd k2 (q k (by omega) (by omega))
    | some un =>
      cases un with
      | zero => exact cmpF_zero hs
      | succ cc =>
        rw [cmpF_some hs]
        obtain ⟨hcc, hc2⟩ : cc < σ 0 4 ∧ holdF σ cc (σ 13 cc) 0 0 = 2 := by
          rcases sc_some _ _ hs with q | q
          · omega
          · exact q
        have hsz := hI.asize (j := cc) (by omega)
        have hs0 : osF σ cc (σ 13 cc) 0 ≠ 0 := os_ne _ _ (ho_2 _ _ _ hc2 (by omega))
        obtain ⟨ho1, ho2⟩ := osF_open hI (cl := cc) (σ 13 cc) 0 (by omega) hs0
        obtain ⟨sp, hsp⟩ : ∃ z, z = osF σ cc (σ 13 cc) 0 := ⟨_, rfl⟩
        rw [← hsp] at hs0 ho1 ho2 ⊢
        rw [if_neg hs0, any_true]
        have hne : sp - 1 ≠ 5 := fun q => by rw [q] at ho2; omega
        have hV5 : V 5 = 0 := by have := hE 5 (by omega) (by omega); omega
        have key : ∀ (el : Nat) (V' : Nat → Nat), frF sp ≤ el → el < frF sp + (toF sp f + 1 - frF sp) → V' (sp - 1) = el → (∀ j, j < 10 → j ≠ sp - 1 → σ 15 j ≠ 0 → V' j = V j) → RngV V' → AllV σ V' → ∃ i, frF sp ≤ i ∧ i < frF sp + (toF sp f + 1 - frF sp) ∧ cmpF d (sU σ 15 (sp - 1) (i + 1)) (if i = f then f + 1 else f) = true := by
          intro el V' a b e1 e2 e3 e4
          have hon := opn_set (σ := σ) (i := sp - 1) (v := el + 1) ho1 ho2 (by omega)
          refine ⟨el, a, b, ?_⟩
          unfold frF toF at b
          unfold frF at a
          refine cmp_all d _ _ (hI.set15 (by split at b <;> omega)) ?_ (by split <;> omega) (by omega) ⟨V', fun j hj h0 => ?_, e3, e4⟩
          · refine ⟨by rw [sU_at, if_neg (by omega)]; exact c1, ?_, by split <;> omega, fun j hj h5 h9 h0 => ?_⟩
            · rw [sU_at]
              split
              · rw [if_pos (by omega)] at b; rw [if_pos (by omega)] at b; omega
              · exact c2
            · rw [sU_at] at h0 ⊢
              split at h0
              · rename_i hj2
                rw [if_neg (by omega), if_neg (by omega)] at b
                rw [if_neg (by omega)] at a
                rw [if_pos hj2]
                split <;> omega
              · rename_i hj2
                have := c4 j hj h5 h9 h0
                rw [if_neg hj2]
                split <;> omega
          · rw [sU_at] at h0 ⊢
            by_cases hj2 : j = sp - 1
            · rw [if_pos hj2, hj2, e1]
            · rw [if_neg hj2] at h0 ⊢
              rw [e2 j hj hj2 h0]
              exact hE j hj h0
        by_cases h9 : sp - 1 = 9
        · refine key (V 9) V ?_ ?_ (by rw [h9]) (fun _ _ _ _ => rfl) hR hA
          · unfold frF; rw [if_pos h9]; omega
          · unfold frF toF; rw [if_pos h9, if_pos h9]; have := hR.1; omega
        · have h2 := hR.2 (sp - 1) ho1 hne h9
          by_cases hle : V (sp - 1) ≤ f
          · refine key (V (sp - 1)) V ?_ ?_ rfl (fun _ _ _ _ => rfl) hR hA
            · unfold frF; rw [if_neg h9]; exact h2
            · unfold frF toF; rw [if_neg h9, if_neg h9]; omega
          · refine key f (fun j => swp (V (sp - 1)) f (V j)) ?_ ?_ (by simp [swp]) (fun j hj hj2 h0 => ?_) ⟨?_, fun j hj h5 h9 => ?_⟩ (hA.swap _ _)
            · unfold frF; rw [if_neg h9]; exact c3
            · unfold frF toF; rw [if_neg h9, if_neg h9]; omega
            · have hVj := hE j hj h0
              have hlt : V j < f := by
                by_cases q5 : j = 5
                · rw [q5, hV5]; omega
                · by_cases q9 : j = 9
                  · rw [q9]; have := hR.1; omega
                  · have := c4 j hj q5 q9 h0; omega
              show swp (V (sp - 1)) f (V j) = V j
              unfold swp
              rw [if_neg (by omega), if_neg (by omega)]
            · show swp (V (sp - 1)) f (V 9) ≤ 1
              have := hR.1
              unfold swp
              rw [if_neg (by omega), if_neg (by omega)]
              exact this
            · show 2 ≤ swp (V (sp - 1)) f (V j)
              have := hR.2 j hj h5 h9
              unfold swp
              split
              · omega
              · split <;> omega
theorem cmp_iff {d : Nat} {σ : Nat → Nat → Nat} {f : Nat} (hI : IC σ) (hC : ChS σ f) (hfo : f + opn σ ≤ 12) (hd : opn σ < d) : cmpF d σ f = true ↔ ∃ V, ExtV σ V ∧ RngV V ∧ AllV σ V :=
  ⟨cmp_sound (f0 := 0) d σ f (Nat.zero_le _) hI hC hfo, cmp_all d σ f hI hC hfo hd⟩
