/-! THE TIE, its second half: what both states say of each other, and that their answers agree -/
def CLT (σ τ : Nat → Nat → Nat) : Prop := ∀ p r, InR p r → ∀ c, c < σ 0 2 → ((τ 13 r).testBit c = true ↔ ∃ k, k < σ 11 c ∧ RdL τ p r (σ 10 (c * 3 + k)))
def DT (σ τ : Nat → Nat → Nat) : Prop := σ 0 0 = τ 0 16 ∧ ∀ k, k < σ 0 0 → σ 3 k = litF (τ 17 k) (τ 18 k) (decide (τ 19 k = 1)) ∧ litW σ (σ 3 k)
def IR (σ τ : Nat → Nat → Nat) : Prop := IC σ ∧ WF σ ∧ MadeW σ ∧ IM τ ∧ TW τ ∧ WY τ ∧ TT σ τ ∧ DT σ τ ∧ σ 0 2 = τ 0 15 ∧ CLT σ τ
theorem IR.ic {σ τ : Nat → Nat → Nat} (h : IR σ τ) : IC σ := h.1
theorem IR.wf {σ τ : Nat → Nat → Nat} (h : IR σ τ) : WF σ := h.2.1
theorem IR.mw {σ τ : Nat → Nat → Nat} (h : IR σ τ) : MadeW σ := h.2.2.1
theorem IR.im {σ τ : Nat → Nat → Nat} (h : IR σ τ) : IM τ := h.2.2.2.1
theorem IR.tw {σ τ : Nat → Nat → Nat} (h : IR σ τ) : TW τ := h.2.2.2.2.1
theorem IR.wy {σ τ : Nat → Nat → Nat} (h : IR σ τ) : WY τ := h.2.2.2.2.2.1
theorem IR.tt {σ τ : Nat → Nat → Nat} (h : IR σ τ) : TT σ τ := h.2.2.2.2.2.2.1
theorem IR.dt {σ τ : Nat → Nat → Nat} (h : IR σ τ) : DT σ τ := h.2.2.2.2.2.2.2.1
theorem IR.cn {σ τ : Nat → Nat → Nat} (h : IR σ τ) : σ 0 2 = τ 0 15 := h.2.2.2.2.2.2.2.2.1
theorem IR.cl {σ τ : Nat → Nat → Nat} (h : IR σ τ) : CLT σ τ := h.2.2.2.2.2.2.2.2.2
theorem IR.ld {σ τ : Nat → Nat → Nat} (h : IR σ τ) {p r v : Nat} {V : Nat → Nat} (hr : InR p r) (hV : VR p (wyF p r) (elF p r) V) (hl : litW σ v) : LD σ p V v ↔ RdL τ p r v := LD_iff h.ic h.wf h.im h.tt h.tw h.wy hr hV hl
theorem IR.satM {σ τ : Nat → Nat → Nat} (h : IR σ τ) {p up lo : Nat} (hp : p < 5) (hu : up ≤ σ 0 2) : SatM σ p up lo ↔ ∃ r, InR p r ∧ ∀ c, c < up → c + 1 ≠ lo → (τ 13 r).testBit c = true := by
  constructor
  · rintro ⟨V, h5, hR, hc⟩
    obtain ⟨r, hr, hV⟩ := VR_in hp h5 hR
    refine ⟨r, hr, fun c h1 h2 => (h.cl p r hr c (by omega)).mpr ?_⟩
    obtain ⟨k, hk, hl⟩ := hc c h1 h2
    exact ⟨k, hk, (h.ld hr hV (h.mw c (by omega) k hk)).mp hl⟩
  · rintro ⟨r, hr, hc⟩
    obtain ⟨V, h5, hR, hV⟩ := VR_ex hp (wyF p r) (elF p r)
    refine ⟨V, h5, hR, fun c h1 h2 => ?_⟩
    obtain ⟨k, hk, hl⟩ := (h.cl p r hr c (by omega)).mp (hc c h1 h2)
    exact ⟨k, hk, (h.ld hr hV (h.mw c (by omega) k hk)).mpr hl⟩
theorem IR.satX {σ τ : Nat → Nat → Nat} (h : IR σ τ) {p n : Nat} {f : Nat → Nat} (hp : p < 5) (hf : ∀ i, i < n → litW σ (f i)) : SatX σ p n f ↔ ∃ r, InR p r ∧ (∀ c, c < σ 0 2 → (τ 13 r).testBit c = true) ∧ ∀ i, i < n → RdL τ p r (f i) := by
  constructor
  · rintro ⟨V, h5, hR, hc, hn⟩
    obtain ⟨r, hr, hV⟩ := VR_in hp h5 hR
    refine ⟨r, hr, fun c h1 => (h.cl p r hr c h1).mpr ?_, fun i hi => (h.ld hr hV (hf i hi)).mp (hn i hi)⟩
    obtain ⟨k, hk, hl⟩ := hc c h1
    exact ⟨k, hk, (h.ld hr hV (h.mw c h1 k hk)).mp hl⟩
  · rintro ⟨r, hr, hc, hn⟩
    obtain ⟨V, h5, hR, hV⟩ := VR_ex hp (wyF p r) (elF p r)
    refine ⟨V, h5, hR, fun c h1 => ?_, fun i hi => (h.ld hr hV (hf i hi)).mpr (hn i hi)⟩
    obtain ⟨k, hk, hl⟩ := (h.cl p r hr c h1).mp (hc c h1)
    exact ⟨k, hk, (h.ld hr hV (h.mw c h1 k hk)).mpr hl⟩
/-! bits -/
theorem and_sub {h s : Nat} : h &&& s = s ↔ ∀ i, s.testBit i = true → h.testBit i = true := by
  constructor
  · intro e i hi
    rw [← e, Nat.testBit_and, Bool.and_eq_true] at hi
    exact hi.1
  · intro e
    refine Nat.eq_of_testBit_eq (fun i => ?_)
    rw [Nat.testBit_and]
    cases hs : s.testBit i with
    | false => exact Bool.and_false _
    | true => rw [e i hs]; rfl
theorem and_all {h m : Nat} : h &&& (2 ^ m - 1) = 2 ^ m - 1 ↔ ∀ i, i < m → h.testBit i = true := by
  rw [and_sub]
  simp only [Nat.testBit_two_pow_sub_one, decide_eq_true_eq]
theorem bit_off : ∀ k, k < 8 → ∀ i, i < 8 → (255 - 2 ^ k).testBit i = decide (i ≠ k) := by decide +kernel
theorem and_but {h m k : Nat} (hm : m ≤ 8) (hk : k < 8) : h &&& ((2 ^ m - 1) &&& (255 - 2 ^ k)) = (2 ^ m - 1) &&& (255 - 2 ^ k) ↔ ∀ i, i < m → i + 1 ≠ k + 1 → h.testBit i = true := by
  rw [and_sub]
  simp only [Nat.testBit_and, Nat.testBit_two_pow_sub_one, Bool.and_eq_true, decide_eq_true_eq]
  constructor
  · intro e i hi h2
    refine e i ⟨hi, ?_⟩
    rw [bit_off k hk i (by omega), decide_eq_true_eq]
    omega
  · rintro e i ⟨hi, h2⟩
    rw [bit_off k hk i (by omega), decide_eq_true_eq] at h2
    exact e i hi (by omega)
theorem chL_iff {τ : Nat → Nat → Nat} {set : Nat} : ∀ n r, chL τ set n r = true ↔ ∃ i, r ≤ i ∧ i < r + n ∧ τ 13 i &&& set = set
  | 0, r => ⟨fun h => (by cases h), fun ⟨i, a, b, _⟩ => by omega⟩
  | n + 1, r => by
    unfold chL
    by_cases h : τ 13 r &&& set = set
    · rw [if_pos h]
      exact ⟨fun _ => ⟨r, Nat.le_refl _, by omega, h⟩, fun _ => rfl⟩
    · rw [if_neg h, chL_iff n (r + 1)]
      constructor
      · rintro ⟨i, a, b, c⟩; exact ⟨i, by omega, by omega, c⟩
      · rintro ⟨i, a, b, c⟩
        rcases Nat.lt_or_ge r i with z | z
        · exact ⟨i, z, by omega, c⟩
        · obtain rfl : i = r := by omega
          exact absurd c h
theorem in_ex {r : Nat} (h : r < 9528) : ∃ p, InR p r := by
  have e0 : frT 0 = 0 := rfl
  have e1 : frT 1 = 30 := rfl
  have e2 : frT 2 = 436 := rfl
  have e3 : frT 3 = 842 := rfl
  have e4 : frT 4 = 1248 := rfl
  have e5 : frT 5 = 9528 := rfl
  rcases Nat.lt_or_ge r 30 with z | z
  · exact ⟨0, by decide, by omega, by show r < frT 1; omega⟩
  · rcases Nat.lt_or_ge r 436 with y | y
    · exact ⟨1, by decide, by omega, by show r < frT 2; omega⟩
    · rcases Nat.lt_or_ge r 842 with x | x
      · exact ⟨2, by decide, by omega, by show r < frT 3; omega⟩
      · rcases Nat.lt_or_ge r 1248 with w | w
        · exact ⟨3, by decide, by omega, by show r < frT 4; omega⟩
        · exact ⟨4, by decide, by omega, by show r < frT 5; omega⟩
theorem InR.lt {p r : Nat} (h : InR p r) : r < 9528 := by
  have := (tab_ok p h.1).2.2.2.1
  have := h.2.2
  omega
theorem chB_iff {τ : Nat → Nat → Nat} {set : Nat} : chB τ set = true ↔ ∃ p r, InR p r ∧ τ 13 r &&& set = set := by
  unfold chB
  rw [chL_iff]
  constructor
  · rintro ⟨r, a, b, c⟩
    obtain ⟨p, hp⟩ := in_ex (r := r) (by omega)
    exact ⟨p, r, hp, c⟩
  · rintro ⟨p, r, hr, c⟩
    exact ⟨r, by omega, by have := hr.lt; omega, c⟩
theorem IR.can {σ τ : Nat → Nat → Nat} (h : IR σ τ) {up lo : Nat} (hu : up ≤ σ 0 2) : CanM σ up lo ↔ ∃ p r, InR p r ∧ ∀ c, c < up → c + 1 ≠ lo → (τ 13 r).testBit c = true := by
  constructor
  · rintro ⟨p, hp, hs⟩
    obtain ⟨r, hr⟩ := (h.satM hp hu).mp hs
    exact ⟨p, r, hr⟩
  · rintro ⟨p, r, hr⟩
    exact ⟨p, hr.1.1, (h.satM hr.1.1 hu).mpr ⟨r, hr⟩⟩
theorem IR.canUp {σ τ : Nat → Nat → Nat} (h : IR σ τ) {up : Nat} (hu : up ≤ σ 0 2) : CanM σ up 0 ↔ chB τ (2 ^ up - 1) = true := by
  rw [h.can hu, chB_iff]
  simp only [and_all]
  constructor
  · rintro ⟨p, r, hr, hc⟩; exact ⟨p, r, hr, fun i hi => hc i hi (by omega)⟩
  · rintro ⟨p, r, hr, hc⟩; exact ⟨p, r, hr, fun i hi _ => hc i hi⟩
/-! the answers -/
theorem IR.a_can {σ τ : Nat → Nat → Nat} (h : IR σ τ) : canB σ (σ 0 2) 0 = chB τ (2 ^ (τ 0 15) - 1) := by
  refine bool_iff canB_iff ?_
  rw [h.canUp (Nat.le_refl _), h.cn]
theorem IR.a_wo {σ τ : Nat → Nat → Nat} (h : IR σ τ) {k : Nat} (hk : k < σ 0 2) : canB σ (σ 0 2) (k + 1) = chB τ ((2 ^ (τ 0 15) - 1) &&& (255 - 2 ^ k)) := by
  have h8 := h.ic.claims
  refine bool_iff canB_iff ?_
  rw [h.can (Nat.le_refl _), chB_iff, ← h.cn]
  simp only [and_but h8 (show k < 8 by omega)]
theorem fs_none {τ : Nat → Nat → Nat} : ∀ n k, (∀ j, k ≤ j → j < k + n → chB τ (2 * 2 ^ j - 1) = true) → fsL τ n k = 0
  | 0, _, _ => rfl
  | n + 1, k, h => by
    unfold fsL
    rw [if_pos (h k (by omega) (by omega))]
    exact fs_none n (k + 1) (fun j a b => h j (by omega) (by omega))
theorem fs_some {τ : Nat → Nat → Nat} {K : Nat} : ∀ n k, k ≤ K → K < k + n → (∀ j, k ≤ j → j < K → chB τ (2 * 2 ^ j - 1) = true) → ¬ chB τ (2 * 2 ^ K - 1) = true → fsL τ n k = K + 1
  | 0, k, a, b, _, _ => by omega
  | n + 1, k, a, b, h, hK => by
    unfold fsL
    rcases Nat.lt_or_ge k K with z | z
    · rw [if_pos (h k (by omega) z)]
      exact fs_some n (k + 1) z (by omega) (fun j a b => h j (by omega) b) hK
    · obtain rfl : k = K := by omega
      rw [if_neg hK]
theorem IR.a_first {σ τ : Nat → Nat → Nat} (h : IR σ τ) {r : Int32} (hr : (∃ k, k < σ 0 2 ∧ r = nI k ∧ ¬ CanM σ (k + 1) 0 ∧ ∀ j, j < k → CanM σ (j + 1) 0) ∨ (r = mI 0 ∧ ∀ j, j < σ 0 2 → CanM σ (j + 1) 0)) : r = mI (fsL τ (τ 0 15) 0) := by
  have e : ∀ j, j < σ 0 2 → (CanM σ (j + 1) 0 ↔ chB τ (2 * 2 ^ j - 1) = true) := fun j hj => by
    rw [h.canUp (by omega), Nat.pow_succ, Nat.mul_comm]
  have hc := h.cn
  rcases hr with ⟨k, hk, rfl, h1, h2⟩ | ⟨rfl, h1⟩
  · rw [fs_some (K := k) _ _ (by omega) (by omega) (fun j _ hj => (e j (by omega)).mp (h2 j hj)) (fun q => h1 ((e k hk).mpr q)), mI_succ]
  · rw [fs_none _ _ (fun j _ hj => (e j (by omega)).mp (h1 j (by omega)))]
theorem IR.canX {σ τ : Nat → Nat → Nat} (h : IR σ τ) {n : Nat} {f : Nat → Nat} (hf : ∀ i, i < n → litW σ (f i)) : canXB σ n f = true ↔ ∃ p r, InR p r ∧ HS τ (SetA τ) r ∧ ∀ i, i < n → RdL τ p r (f i) := by
  rw [canXB_iff]
  unfold HS SetA
  simp only [and_all, ← h.cn]
  constructor
  · rintro ⟨p, hp, hs⟩
    obtain ⟨r, hr⟩ := (h.satX hp hf).mp hs
    exact ⟨p, r, hr⟩
  · rintro ⟨p, r, hr⟩
    exact ⟨p, hr.1.1, (h.satX hr.1.1 hf).mpr ⟨r, hr⟩⟩
theorem IR.lit1 {σ τ : Nat → Nat → Nat} (h : IR σ τ) {t u : Nat} {b : Bool} (ht : t < σ 0 1) (hu : u < σ 0 1) (hs : σ 6 t = σ 6 u) : litW σ (litF t u b) ∧ ∀ p r, RdL τ p r (litF t u b) ↔ b = siB τ t u p r := by
  have h24 := h.ic.terms.2
  obtain ⟨-, l2, l3, l4⟩ := litF_ok b (show t < 24 by omega) (show u < 24 by omega)
  unfold litW RdL
  rw [l2, l3, l4]
  exact ⟨⟨ht, hu, hs⟩, fun _ _ => Iff.rfl⟩
theorem IR.can1 {σ τ : Nat → Nat → Nat} (h : IR σ τ) {t u : Nat} {b : Bool} (ht : t < σ 0 1) (hu : u < σ 0 1) (hs : σ 6 t = σ 6 u) : canXB σ 1 (fun _ => litF t u b) = true ↔ ∃ p r, InR p r ∧ HS τ (SetA τ) r ∧ b = siB τ t u p r := by
  have hl := h.lit1 (b := b) ht hu hs
  rw [h.canX (fun i _ => hl.1)]
  simp only [hl.2]
  constructor
  · rintro ⟨p, r, a, b, c⟩; exact ⟨p, r, a, b, c 0 (by omega)⟩
  · rintro ⟨p, r, a, b, c⟩; exact ⟨p, r, a, b, fun _ _ => c⟩
theorem IR.a_cant {σ τ : Nat → Nat → Nat} (h : IR σ τ) {t u : Nat} (ht : t < σ 0 1) (hu : u < σ 0 1) (hs : σ 6 t = σ 6 u) : (canXB σ 1 (fun _ => litF t u true) = true ∨ canXB σ 1 (fun _ => litF t u false) = true) ↔ chB τ (2 ^ (τ 0 15) - 1) = true := by
  rw [h.can1 ht hu hs, h.can1 ht hu hs, chB_iff]
  constructor
  · rintro (⟨p, r, a, b, c⟩ | ⟨p, r, a, b, c⟩)
    · exact ⟨p, r, a, b⟩
    · exact ⟨p, r, a, b⟩
  · rintro ⟨p, r, a, b⟩
    cases hs : siB τ t u p r with
    | true => exact Or.inl ⟨p, r, a, b, hs.symm⟩
    | false => exact Or.inr ⟨p, r, a, b, hs.symm⟩
theorem IR.a_same {σ τ : Nat → Nat → Nat} (h : IR σ τ) {t u : Nat} {r1 r2 : Int32} (ht : t < σ 0 1) (hu : u < σ 0 1) (hs : σ 6 t = σ 6 u)
    (h1 : (r1 = nI 2 ∧ canXB σ 1 (fun _ => litF t u true) = true ∧ canXB σ 1 (fun _ => litF t u false) = true) ∨ (r1 = nI 1 ∧ canXB σ 1 (fun _ => litF t u true) = true ∧ canXB σ 1 (fun _ => litF t u false) = false) ∨ (r1 = nI 0 ∧ canXB σ 1 (fun _ => litF t u true) = false ∧ canXB σ 1 (fun _ => litF t u false) = true))
    (h2 : (r2 = nI 1 ∧ ∀ p r, InR p r → smY τ t u p r) ∨ (r2 = nI 2 ∧ (¬ ∀ p r, InR p r → smY τ t u p r) ∧ ∃ p r, InR p r ∧ smX τ t u p r) ∨ (r2 = nI 0 ∧ (¬ ∀ p r, InR p r → smY τ t u p r) ∧ ¬ ∃ p r, InR p r ∧ smX τ t u p r)) : r1 = r2 := by
  have eT := h.can1 (b := true) ht hu hs
  have eF := h.can1 (b := false) ht hu hs
  have iT : (canXB σ 1 (fun _ => litF t u true) = true) ↔ ∃ p r, InR p r ∧ smX τ t u p r := by
    rw [eT]
    unfold smX
    constructor
    · rintro ⟨p, r, a, b, c⟩; exact ⟨p, r, a, b, c.symm⟩
    · rintro ⟨p, r, a, b, c⟩; exact ⟨p, r, a, b, c.symm⟩
  have iF : (canXB σ 1 (fun _ => litF t u false) = true) ↔ ¬ ∀ p r, InR p r → smY τ t u p r := by
    rw [eF]
    unfold smY
    constructor
    · rintro ⟨p, r, a, b, c⟩ q
      have := q p r a b
      rw [← c] at this; cases this
    · intro q
      refine Classical.byContradiction (fun z => q (fun p r a b => ?_))
      cases hs : siB τ t u p r with
      | true => rfl
      | false => exact absurd ⟨p, r, a, b, hs.symm⟩ z
  rw [← iT, ← iF] at h2
  have iF2 : (∀ p r, InR p r → smY τ t u p r) ↔ canXB σ 1 (fun _ => litF t u false) = false := by
    rw [← Bool.not_eq_true, iF, Classical.not_not]
  rw [iF2] at h2
  rcases h1 with ⟨rfl, a, b⟩ | ⟨rfl, a, b⟩ | ⟨rfl, a, b⟩ <;> rcases h2 with ⟨rfl, c⟩ | ⟨rfl, c, d⟩ | ⟨rfl, c, d⟩ <;> simp_all
theorem dhL_iff {τ : Nat → Nat → Nat} {p r : Nat} : ∀ n k b, dhL τ p r n k b = true ↔ b = true ∨ ∃ i, k ≤ i ∧ i < k + n ∧ bN (siB τ (τ 17 i) (τ 18 i) p r) = τ 19 i
  | 0, k, b => ⟨fun h => Or.inl h, fun h => h.elim id (fun ⟨i, a, b, _⟩ => by omega)⟩
  | n + 1, k, b => by
    unfold dhL
    by_cases hb : b = true
    · rw [if_pos hb, dhL_iff n (k + 1)]
      exact ⟨fun _ => Or.inl hb, fun _ => Or.inl rfl⟩
    · rw [if_neg hb, dhL_iff n (k + 1), decide_eq_true_eq]
      constructor
      · rintro (a | ⟨i, a, b, c⟩)
        · exact Or.inr ⟨k, by omega, by omega, a⟩
        · exact Or.inr ⟨i, by omega, by omega, c⟩
      · rintro (a | ⟨i, a, b, c⟩)
        · exact absurd a hb
        · rcases Nat.lt_or_ge k i with z | z
          · exact Or.inr ⟨i, z, by omega, c⟩
          · obtain rfl : i = k := by omega
            exact Or.inl c
theorem IR.dlit {σ τ : Nat → Nat → Nat} (h : IR σ τ) {k : Nat} (hk : k < σ 0 0) (p r : Nat) : RdL τ p r (σ 3 k) ↔ bN (siB τ (τ 17 k) (τ 18 k) p r) = τ 19 k := by
  have h3 := h.ic.draft
  obtain ⟨d1, d2, d3⟩ := h.im.dr (j := k) (by omega)
  obtain ⟨e, -⟩ := h.dt.2 k hk
  obtain ⟨-, l2, l3, l4⟩ := litF_ok (decide (τ 19 k = 1)) d1 d2
  unfold RdL
  rw [e, l2, l3, l4]
  rcases (show τ 19 k = 0 ∨ τ 19 k = 1 by omega) with z | z <;> rw [z] <;> cases siB τ (τ 17 k) (τ 18 k) p r <;> decide
theorem IR.dh {σ τ : Nat → Nat → Nat} (h : IR σ τ) (p r : Nat) : dhB τ p r = true ↔ ∃ k, k < σ 0 0 ∧ RdL τ p r (σ 3 k) := by
  have e := h.dt.1
  unfold dhB
  rw [dhL_iff, ← e]
  constructor
  · rintro (a | ⟨i, a, b, c⟩)
    · cases a
    · exact ⟨i, by omega, (h.dlit (by omega) p r).mpr c⟩
  · rintro ⟨i, a, b⟩
    exact Or.inr ⟨i, by omega, by omega, (h.dlit a p r).mp b⟩
theorem opp_rd {τ : Nat → Nat → Nat} {p r v : Nat} (hv : litOK v) : RdL τ p r (oppF v) ↔ ¬ RdL τ p r v := by
  obtain ⟨-, a, b, c⟩ := oppF_ok hv
  unfold RdL
  rw [a, b, c]
  cases saysB v <;> cases siB τ (v % 32) (v / 32 % 32) p r <;> decide
theorem opp_w {σ : Nat → Nat → Nat} {v : Nat} (hv : litOK v) : litW σ (oppF v) ↔ litW σ v := by
  obtain ⟨-, a, b, c⟩ := oppF_ok hv
  unfold litW
  rw [a, b]
theorem IR.a_foll {σ τ : Nat → Nat → Nat} (h : IR σ τ) : (!canXB σ (σ 0 0) (fun i => oppF (σ 3 i))) = follB τ := by
  have h3 := h.ic.draft
  have hf : ∀ i, i < σ 0 0 → litW σ (oppF (σ 3 i)) := fun i hi => (opp_w (h.ic.dlit (by omega))).mpr (h.dt.2 i hi).2
  refine bool_iff (P := ∀ p r, InR p r → flY τ p r) ?_ follB_iff
  rw [Bool.not_eq_true', ← Bool.not_eq_true, h.canX hf]
  unfold flY
  constructor
  · intro q p r hr hs
    refine (h.dh p r).mpr (Classical.byContradiction (fun z => q ⟨p, r, hr, hs, fun i hi => (opp_rd (h.ic.dlit (by omega))).mpr (fun y => z ⟨i, hi, y⟩)⟩))
  · rintro q ⟨p, r, hr, hs, hi⟩
    obtain ⟨k, hk, hl⟩ := (h.dh p r).mp (q p r hr hs)
    exact (opp_rd (h.ic.dlit (by omega))).mp (hi k hk) hl
theorem IR.sm {σ τ : Nat → Nat → Nat} (h : IR σ τ) {p : Nat} (hp : p < 5) : SatM σ p (σ 0 2) 0 ↔ SM τ p := by
  rw [h.satM hp (Nat.le_refl _)]
  unfold SM HS SetA InR
  simp only [and_all, ← h.cn]
  constructor
  · rintro ⟨r, ⟨-, a, b⟩, c⟩; exact ⟨r, a, b, fun i hi => c i hi (by omega)⟩
  · rintro ⟨r, a, b, c⟩; exact ⟨r, ⟨hp, a, b⟩, fun i hi _ => c i hi⟩
theorem IR.a_sat {σ τ : Nat → Nat → Nat} (h : IR σ τ) : (∃ w, w < 5 ∧ SatM σ w (σ 0 2) 0) ↔ chB τ (2 ^ (τ 0 15) - 1) = true := by
  rw [← h.cn]; exact h.canUp (Nat.le_refl _)
theorem IR.a_apf {σ τ : Nat → Nat → Nat} (h : IR σ τ) {k be : Nat} (hk : k < 3) (h1 : ∃ w, w < 5 ∧ difF w = 1 + k ∧ SatM σ w (σ 0 2) 0) (h2 : ∀ k1, k1 < k → ¬ ∃ w, w < 5 ∧ difF w = 1 + k1 ∧ SatM σ w (σ 0 2) 0) (hb : APF τ 5 be) : nI (1 + k) = nI be := by
  obtain ⟨b1, b2, b3⟩ := hb
  obtain ⟨w, w1, w2, w3⟩ := h1
  have hle := b3 w w1 ((h.sm w1).mp w3)
  rcases b2 with b2 | ⟨p, p1, p2, p3⟩
  · rw [show 1 + k = be by omega]
  · rcases Nat.lt_or_ge be (1 + k) with z | z
    · have := dif_le p p1
      exact absurd ⟨p, p1, by omega, (h.sm p1).mpr p2⟩ (h2 (be - 1) (by omega))
    · rw [show 1 + k = be by omega]
theorem IR.a_apm {σ τ : Nat → Nat → Nat} (h : IR σ τ) {k be : Nat} (hk : k < 3) (h1 : ∃ w, w < 5 ∧ difF w = 3 - k ∧ SatM σ w (σ 0 2) 0) (h2 : ∀ k1, k1 < k → ¬ ∃ w, w < 5 ∧ difF w = 3 - k1 ∧ SatM σ w (σ 0 2) 0) (hb : APM τ 5 be) : nI (3 - k) = nI be := by
  obtain ⟨b1, b2, b3⟩ := hb
  obtain ⟨w, w1, w2, w3⟩ := h1
  have hle := b3 w w1 ((h.sm w1).mp w3)
  rcases b2 with b2 | ⟨p, p1, p2, p3⟩
  · rw [show 3 - k = be by omega]
  · rcases Nat.lt_or_ge (3 - k) be with z | z
    · exact absurd ⟨p, p1, by omega, (h.sm p1).mpr p2⟩ (h2 (3 - be) (by omega))
    · rw [show 3 - k = be by omega]
theorem fd_eq {σ τ : Nat → Nat → Nat} {q a i x y : Nat} (hT : TT σ τ) (hq : (q = 1 ∧ y = 0 ∧ x = 0) ∨ (q = 2 ∧ y = x + 1)) : ∀ n t, 7 ≤ t → t + n ≤ σ 0 1 → findF σ q (a + 1) (i + 1) y n t = foundF τ q a i x n t
  | 0, _, _, _ => rfl
  | n + 1, t, h7, hn => by
    obtain ⟨f1, f2, f3, f4, f5⟩ := hT.2.2 t h7 (by omega)
    have hs := hT.2.1 t (by omega)
    unfold findF foundF
    rw [fd_eq hT hq n (t + 1) (by omega) (by omega), f1, ← hs, f2, f3]
    by_cases h1 : σ 6 t = q
    · rw [if_pos h1, if_pos h1]
      have e9 : σ 9 t = y ↔ τ 6 t = x := by
        rcases hq with ⟨rfl, rfl, rfl⟩ | ⟨rfl, rfl⟩
        · have := f4 h1; omega
        · have := f5 h1; omega
      have e7 : τ 4 t + 1 = a + 1 ↔ τ 4 t = a := by omega
      have e8 : τ 5 t + 1 = i + 1 ↔ τ 5 t = i := by omega
      simp only [e7, e8, e9]
    · rw [if_neg h1, if_neg h1]
