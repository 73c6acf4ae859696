/-! THE TIE, its first half: spots of the class and labels of the reference, codes and what terms are -/
def loT (p c : Nat) : Nat := if clF (3 * p) = c then 0 else if clF (3 * p + 1) = c then 1 else 2
def phF (p x : Nat) : Nat := if x < 2 then x else if x < 2 + difF p then 2 + loT p (x - 2) else 6 + loT p (x - 2 - difF p)
def psF (p s : Nat) : Nat := if s < 2 then s else if s < 5 then 2 + clF (3 * p + (s - 2)) else 2 + difF p + clF (3 * p + (s - 6))
theorem ph_low : ∀ p, p < 5 → ∀ j, j < 3 → ∀ k, k < 2 → phF p (2 + k * difF p + clF (3 * p + j)) = 2 + k * 4 + lowF (p * 3 + j) := by decide +kernel
theorem ph_ps : ∀ p, p < 5 → ∀ x, x < 2 * difF p + 2 → psF p (phF p x) = x ∧ phF p x < 10 ∧ phF p x ≠ 5 ∧ phF p x ≠ 9 := by decide +kernel
theorem cl_lt : ∀ p, p < 5 → ∀ j, j < 3 → clF (3 * p + j) < difF p ∧ lowF (p * 3 + j) < 3 ∧ clF (3 * p + lowF (p * 3 + j)) = clF (3 * p + j) := by decide +kernel
theorem cl_sur : ∀ p, p < 5 → ∀ c, c < difF p → loT p c < 3 ∧ clF (3 * p + loT p c) = c := by decide +kernel
theorem low_eq : ∀ p, p < 5 → ∀ i, i < 3 → ∀ j, j < 3 → (lowF (p * 3 + i) = lowF (p * 3 + j) ↔ clF (3 * p + i) = clF (3 * p + j)) := by decide +kernel
theorem dif_le : ∀ p, p < 5 → 1 ≤ difF p ∧ difF p ≤ 3 := by decide +kernel
theorem cd_arr : ∀ p, p < 5 → ∀ b, b < 2 → cdN p (5 + b) % 2 = b ∧ ∀ k, k < difF p → partF (cdN p (5 + b)) k = 2 + b * difF p + k := by decide +kernel
theorem st_part : ∀ c, c < 3 → ∀ k, k < 3 → ∀ x, x < 1024 → ∀ e, e < 8 → partF (stF x c e) k = if k = c then e else partF x k := by decide +kernel
theorem st_mod : ∀ c, c < 3 → ∀ x, x < 1024 → ∀ e, e < 8 → stF x c e % 2 = x % 2 ∧ stF x c e < 1024 := by decide +kernel
def CD (p q x : Nat) (d : Nat → Nat) : Prop :=
  (q = 0 → ∃ n, n < 3 ∧ x = clF (3 * p + n) ∧ d 0 = lowF (p * 3 + n)) ∧ (q = 1 → x < 2 * difF p + 2 ∧ d 0 = phF p x) ∧
  (q = 2 → (∀ k, k < difF p → partF x k < 2 * difF p + 2) ∧ (∀ j, j < 3 → d j = phF p (partF x (clF (3 * p + j)))) ∧ d 3 = 5 + 4 * (x % 2))
/-- codes of terms, by their table -/
def TW (τ : Nat → Nat → Nat) : Prop := (∀ p t, p < 5 → t < 7 → τ 9 (24 * p + t) = cdN p t) ∧ ∀ p t, p < 5 → 7 ≤ t → t < τ 0 1 → τ 9 (24 * p + t) = cvF τ (τ 2 t) (τ 4 t) (τ 5 t) (τ 6 t) p
/-- both tables of terms -/
def TT (σ τ : Nat → Nat → Nat) : Prop := σ 0 1 = τ 0 1 ∧ (∀ t, t < σ 0 1 → σ 6 t = τ 2 t) ∧ ∀ t, 7 ≤ t → t < σ 0 1 → τ 3 t = τ 2 t ∧ σ 7 t = τ 4 t + 1 ∧ σ 8 t = τ 5 t + 1 ∧ (σ 6 t = 1 → σ 9 t = 0 ∧ τ 6 t = 0) ∧ (σ 6 t = 2 → σ 9 t = τ 6 t + 1)
theorem CD_of {σ τ : Nat → Nat → Nat} (hI : IC σ) (hW : WF σ) (hM : IM τ) (hT : TT σ τ) (hC : TW τ) {p : Nat} (hp : p < 5) : ∀ n t, t < n → t < σ 0 1 → CD p (σ 6 t) (τ 9 (24 * p + t)) (fun j => PcF σ p n t j) := by
  intro n
  induction n with
  | zero => intro t h; omega
  | succ n ih =>
    intro t hn ht
    obtain ⟨s0, s1, s2, s3, s4, s5, s6, hw⟩ := id hW
    obtain ⟨e1, e2, e3⟩ := id hT
    obtain ⟨c1, c2⟩ := id hC
    have ht24 := hI.terms.2
    have hd := dif_le p hp
    by_cases h3 : t < 3
    · have hs : σ 6 t = 0 := by rcases (show t = 0 ∨ t = 1 ∨ t = 2 by omega) with rfl | rfl | rfl <;> assumption
      rw [hs]
      refine ⟨fun _ => ⟨t, h3, ?_, ?_⟩, fun q => absurd q (by decide), fun q => absurd q (by decide)⟩
      · rw [c1 p t hp (by omega)]; unfold cdN; rw [if_pos h3]
      · show PcF σ p (n + 1) t 0 = _
        unfold PcF; rw [if_pos h3]
    · by_cases h5 : t < 5
      · have hs : σ 6 t = 1 := by rcases (show t = 3 ∨ t = 4 by omega) with rfl | rfl <;> assumption
        rw [hs]
        have hc : τ 9 (24 * p + t) = t - 3 := by rw [c1 p t hp (by omega)]; unfold cdN; rw [if_neg h3, if_pos h5]
        refine ⟨fun q => absurd q (by decide), fun _ => ⟨by omega, ?_⟩, fun q => absurd q (by decide)⟩
        show PcF σ p (n + 1) t 0 = _
        unfold PcF; rw [if_neg h3, if_pos h5, hc]; unfold phF; rw [if_pos (by omega)]
      · by_cases h7 : t < 7
        · have hs : σ 6 t = 2 := by rcases (show t = 5 ∨ t = 6 by omega) with rfl | rfl <;> assumption
          rw [hs]
          obtain ⟨b, hb, rfl⟩ : ∃ b, b < 2 ∧ t = 5 + b := ⟨t - 5, by omega, by omega⟩
          obtain ⟨k1, k2⟩ := cd_arr p hp b hb
          have hbd : b * difF p ≤ difF p := by have := Nat.mul_le_mul_right (difF p) (show b ≤ 1 by omega); omega
          refine ⟨fun q => absurd q (by decide), fun q => absurd q (by decide), fun _ => ⟨fun k hk => ?_, fun j hj => ?_, ?_⟩⟩
          · rw [c1 p _ hp h7, k2 k hk]; omega
          · show PcF σ p (n + 1) (5 + b) j = _
            have hcl := cl_lt p hp j hj
            rw [c1 p _ hp h7, k2 _ hcl.1, ph_low p hp j hj b hb]
            unfold PcF lpF
            rw [if_neg h3, if_neg h5, if_pos h7, if_neg (show ¬ j = 3 by omega), show 5 + b - 5 = b by omega]
          · show PcF σ p (n + 1) (5 + b) 3 = _
            rw [c1 p _ hp h7, k1]
            unfold PcF lpF
            rw [if_neg h3, if_neg h5, if_pos h7, if_pos rfl]
            omega
        · have hm := hI.made (j := t) (by omega) ht
          obtain ⟨w1, w2⟩ := hw t (by omega) ht
          obtain ⟨f1, f2, f3, f4, f5⟩ := e3 t (by omega) ht
          have hco := c2 p t hp (by omega) (by omega)
          have hst := e2 t ht
          have ha : σ 7 t - 1 = τ 4 t := by omega
          have hi : σ 8 t - 1 = τ 5 t := by omega
          have hi3 : τ 5 t < 3 := by omega
          have hic : τ 9 (24 * p + τ 5 t) = clF (3 * p + τ 5 t) := by rw [c1 p _ hp (by omega)]; unfold cdN; rw [if_pos hi3]
          rw [ha] at w1
          have iha := ih (τ 4 t) (by omega) (by omega)
          rw [w1] at iha
          obtain ⟨a1, a2, a3⟩ := iha.2.2 rfl
          have a2 : ∀ j, j < 3 → PcF σ p n (τ 4 t) j = phF p (partF (τ 9 (24 * p + τ 4 t)) (clF (3 * p + j))) := a2
          obtain ⟨l1, l2, l3⟩ := cl_lt p hp _ hi3
          rcases hm.2.2.2.2 with q1 | ⟨q2, x1, x2⟩
          · rw [hco, ← hst, q1]
            unfold cvF
            rw [if_pos rfl, hic]
            refine ⟨fun q => absurd q (by decide), fun _ => ⟨a1 _ l1, ?_⟩, fun q => absurd q (by decide)⟩
            show PcF σ p (n + 1) t 0 = _
            unfold PcF
            rw [if_neg h3, if_neg h5, if_neg h7, if_pos q1, ha, hi, a2 _ l2, l3]
          · have hx : σ 9 t - 1 = τ 6 t := by have := f5 q2; omega
            have ihx := ih (τ 6 t) (by omega) (by omega)
            have w3 := w2 (by omega)
            rw [hx] at w3
            rw [w3] at ihx
            obtain ⟨b1, b2⟩ := ihx.2.1 rfl
            have hca : τ 9 (24 * p + τ 4 t) < 1024 := hM.code (by have := (hM.rows (j := t) (by omega)).2.1; omega)
            have hq : σ 6 t ≠ 1 := by omega
            obtain ⟨m1, m2⟩ := st_mod (clF (3 * p + τ 5 t)) (by omega) _ hca (τ 9 (24 * p + τ 6 t)) (by omega)
            have hp2 : ∀ k, k < difF p → partF (stF (τ 9 (24 * p + τ 4 t)) (clF (3 * p + τ 5 t)) (τ 9 (24 * p + τ 6 t))) k = if k = clF (3 * p + τ 5 t) then τ 9 (24 * p + τ 6 t) else partF (τ 9 (24 * p + τ 4 t)) k := fun k hk => st_part _ (by omega) k (by omega) _ hca _ (by omega)
            rw [hco, ← hst, q2]
            unfold cvF
            rw [if_neg (by decide), hic]
            refine ⟨fun q => absurd q (by decide), fun q => absurd q (by decide), fun _ => ⟨fun k hk => ?_, fun j hj => ?_, ?_⟩⟩
            · rw [hp2 k hk]
              split
              · exact b1
              · exact a1 k hk
            · obtain ⟨j1, j2, j3⟩ := cl_lt p hp j hj
              have hle := low_eq p hp j hj _ hi3
              show PcF σ p (n + 1) t j = _
              unfold PcF
              rw [if_neg h3, if_neg h5, if_neg h7, if_neg hq, ha, hi, hx, hp2 _ j1]
              by_cases hj2 : clF (3 * p + j) = clF (3 * p + τ 5 t)
              · rw [if_pos ⟨by omega, hle.mpr hj2⟩, if_pos hj2]; exact b2
              · rw [if_neg (fun h => hj2 (hle.mp h.2)), if_neg hj2]; exact a2 j hj
            · show PcF σ p (n + 1) t 3 = _
              unfold PcF
              rw [if_neg h3, if_neg h5, if_neg h7, if_neg hq, if_neg (fun h => h.1 rfl), ha, m1]
              exact a3
/-- a reading's labels and elses, and an assignment -/
def VR (p w : Nat) (els : Bool) (V : Nat → Nat) : Prop := (V 5 = V 9 ↔ els = true) ∧ ∀ i j, i < 2 * difF p + 2 → j < 2 * difF p + 2 → (labF w i = labF w j ↔ V (phF p i) = V (phF p j))
theorem asL_iff {w x y : Nat} : ∀ n c b, asL w x y n c b = true ↔ b = true ∧ ∀ k, c ≤ k → k < c + n → labF w (partF x k) = labF w (partF y k)
  | 0, c, b => ⟨fun h => ⟨h, fun k a b => by omega⟩, fun h => h.1⟩
  | n + 1, c, b => by
    unfold asL
    rw [asL_iff n (c + 1), Bool.and_eq_true, decide_eq_true_eq]
    constructor
    · rintro ⟨⟨h1, h2⟩, h3⟩
      refine ⟨h1, fun k a b => ?_⟩
      rcases Nat.lt_or_ge c k with z | z
      · exact h3 k z (by omega)
      · obtain rfl : k = c := by omega
        exact h2
    · rintro ⟨h1, h2⟩
      exact ⟨⟨h1, h2 c (by omega) (by omega)⟩, fun k a b => h2 k (by omega) (by omega)⟩
theorem asX_iff {p q w x y : Nat} {els : Bool} {V d e : Nat → Nat} (hp : p < 5) (hq : q ≤ 2) (hV : VR p w els V) (hx : CD p q x d) (hy : CD p q y e) : asX q (difF p) w x y els = true ↔ (q = 0 → d 0 = e 0) ∧ (q ≠ 0 → ∀ j, j < widF q → V (d j) = V (e j)) := by
  obtain ⟨v1, v2⟩ := hV
  unfold asX
  rcases (show q = 0 ∨ q = 1 ∨ q = 2 by omega) with rfl | rfl | rfl
  · obtain ⟨n, n1, n2, n3⟩ := hx.1 rfl
    obtain ⟨m, m1, m2, m3⟩ := hy.1 rfl
    rw [if_pos rfl, decide_eq_true_eq, n2, m2, n3, m3, ← low_eq p hp n n1 m m1]
    exact ⟨fun h => ⟨fun _ => h, fun z => absurd rfl z⟩, fun h => h.1 rfl⟩
  · obtain ⟨n1, n2⟩ := hx.2.1 rfl
    obtain ⟨m1, m2⟩ := hy.2.1 rfl
    rw [if_neg (by decide), if_pos rfl, decide_eq_true_eq, v2 x y n1 m1, ← n2, ← m2]
    constructor
    · intro h
      refine ⟨fun z => absurd z (by decide), fun _ j hj => ?_⟩
      have : j = 0 := by have : widF 1 = 1 := rfl; omega
      rw [this]; exact h
    · intro h
      exact h.2 (by decide) 0 (by decide)
  · obtain ⟨n1, n2, n3⟩ := hx.2.2 rfl
    obtain ⟨m1, m2, m3⟩ := hy.2.2 rfl
    rw [if_neg (by decide), if_neg (by decide), asL_iff, Bool.or_eq_true, decide_eq_true_eq]
    constructor
    · rintro ⟨h1, h2⟩
      refine ⟨fun z => absurd z (by decide), fun _ j hj => ?_⟩
      have h4 : widF 2 = 4 := rfl
      rcases Nat.lt_or_ge j 3 with z | z
      · have hc := (cl_lt p hp j z).1
        rw [n2 j z, m2 j z, ← v2 _ _ (n1 _ hc) (m1 _ hc)]
        exact h2 _ (by omega) (by omega)
      · obtain rfl : j = 3 := by omega
        rw [n3, m3]
        rcases h1 with h1 | h1
        · have := v1.mpr h1
          rcases Nat.mod_two_eq_zero_or_one x with a | a <;> rcases Nat.mod_two_eq_zero_or_one y with b | b <;> rw [a, b]
          · exact this
          · exact this.symm
        · rw [h1]
    · rintro ⟨-, h⟩
      have h := h (by decide)
      refine ⟨?_, fun k _ hk => ?_⟩
      · have h3 := h 3 (by decide)
        rw [n3, m3] at h3
        rcases Nat.mod_two_eq_zero_or_one x with a | a <;> rcases Nat.mod_two_eq_zero_or_one y with b | b <;> rw [a, b] at h3 <;> rw [a, b]
        · exact Or.inr rfl
        · exact Or.inl (v1.mp h3)
        · exact Or.inl (v1.mp h3.symm)
        · exact Or.inr rfl
      · have hk2 : k < difF p := by omega
        obtain ⟨l1, l2⟩ := cl_sur p hp k hk2
        have := h (loT p k) (by have : widF 2 = 4 := rfl; omega)
        rw [n2 _ l1, m2 _ l1, l2, ← v2 _ _ (n1 k hk2) (m1 k hk2)] at this
        exact this
/-- the ways that the reference's constructor found -/
def WY (τ : Nat → Nat → Nat) : Prop := ∀ c2, c2 < 3 → ∀ k, k < hmT c2 → τ 10 (wfF c2 + k) = itF (2 * c2 + 4) k
def wyF (p r : Nat) : Nat := itF (2 * difF p + 2) ((r - frT p) / 2)
def elF (p r : Nat) : Bool := decide ((r - frT p) % 2 = 1)
theorem fr_hm : ∀ p, p < 5 → frT (p + 1) = frT p + 2 * hmT (difF p - 1) := by decide +kernel
theorem siB_eq {τ : Nat → Nat → Nat} (hM : IM τ) (hY : WY τ) {p r : Nat} (hr : InR p r) (t u : Nat) : siB τ t u p r = asX (τ 2 t) (difF p) (wyF p r) (τ 9 (24 * p + t)) (τ 9 (24 * p + u)) (elF p r) := by
  obtain ⟨hp, h1, h2⟩ := hr
  have hd := dif_le p hp
  have hh := fr_hm p hp
  unfold siB asB wyF elF
  rw [hM.cls hp, hM.wf (j := difF p - 1) (by omega), hM.from (j := p) (by omega), hY (difF p - 1) (by omega) _ (by omega), show 2 * (difF p - 1) + 4 = 2 * difF p + 2 by omega]
/-- a literal is right in a reading -/
def RdL (τ : Nat → Nat → Nat) (p r v : Nat) : Prop := saysB v = siB τ (v % 32) (v / 32 % 32) p r
theorem b_iff {a b : Bool} {P : Prop} (h : b = true ↔ P) : (a = true ↔ P) ↔ a = b := by
  rw [← h]; cases a <;> cases b <;> simp
theorem LD_iff {σ τ : Nat → Nat → Nat} (hI : IC σ) (hW : WF σ) (hM : IM τ) (hT : TT σ τ) (hC : TW τ) (hY : WY τ) {p r : Nat} {V : Nat → Nat} (hr : InR p r) (hV : VR p (wyF p r) (elF p r) V) {v : Nat} (hl : litW σ v) : LD σ p V v ↔ RdL τ p r v := by
  obtain ⟨l1, l2, l3⟩ := hl
  have h24 := hI.terms.2
  have a := CD_of hI hW hM hT hC hr.1 25 (v % 32) (by omega) l1
  have b := CD_of hI hW hM hT hC hr.1 25 (v / 32 % 32) (by omega) l2
  rw [← l3] at b
  have h := asX_iff hr.1 (hI.sorts (by omega)) hV a b
  unfold LD RdL
  refine b_iff ?_
  rw [siB_eq hM hY hr, ← hT.2.1 _ l1, h]
  exact Iff.rfl
theorem VR_ex {p : Nat} (hp : p < 5) (w : Nat) (els : Bool) : ∃ V, V 5 = 0 ∧ RngV V ∧ VR p w els V := by
  refine ⟨fun s => if s = 5 then 0 else if s = 9 then (if els = true then 0 else 1) else labF w (psF p s) + 2, rfl, ⟨?_, fun j hj h5 h9 => ?_⟩, ?_, fun i j hi hj => ?_⟩
  · show (if els = true then 0 else 1) ≤ 1
    cases els <;> decide
  · show 2 ≤ if j = 5 then 0 else if j = 9 then (if els = true then 0 else 1) else labF w (psF p j) + 2
    rw [if_neg h5, if_neg h9]; omega
  · show (0 : Nat) = (if els = true then 0 else 1) ↔ els = true
    cases els <;> decide
  · obtain ⟨a1, a2, a3, a4⟩ := ph_ps p hp i hi
    obtain ⟨b1, b2, b3, b4⟩ := ph_ps p hp j hj
    show _ ↔ (if phF p i = 5 then 0 else if phF p i = 9 then (if els = true then 0 else 1) else labF w (psF p (phF p i)) + 2) = (if phF p j = 5 then 0 else if phF p j = 9 then (if els = true then 0 else 1) else labF w (psF p (phF p j)) + 2)
    rw [if_neg a3, if_neg a4, if_neg b3, if_neg b4, a1, b1]
    omega
theorem VR_in {p : Nat} (hp : p < 5) {V : Nat → Nat} (h5 : V 5 = 0) (hR : RngV V) : ∃ r, InR p r ∧ VR p (wyF p r) (elF p r) V := by
  have hd := dif_le p hp
  have hh := fr_hm p hp
  obtain ⟨k, hk, h⟩ := ways_all (c := difF p - 1) (by omega) (fun i => V (phF p i))
  rw [show 2 * (difF p - 1) + 4 = 2 * difF p + 2 by omega] at h
  have h9 := hR.1
  refine ⟨frT p + 2 * k + (if V 9 = 0 then 1 else 0), ⟨hp, by omega, by split <;> omega⟩, ?_, ?_⟩
  · unfold elF
    rw [decide_eq_true_eq, h5]
    split <;> omega
  · have e : (frT p + 2 * k + (if V 9 = 0 then 1 else 0) - frT p) / 2 = k := by split <;> omega
    unfold wyF
    rw [e]
    exact h
