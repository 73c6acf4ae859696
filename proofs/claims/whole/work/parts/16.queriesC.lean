/-! ASKING: which claims are asked for -/
theorem addAL_eq {σ : Nat → Nat → Nat} {o : Nat} : ∀ (n k : Nat) (s : Nat → Nat → Nat), (∀ r, r ≠ 12 → addAL σ o n k s r = s r) ∧ ∀ j, addAL σ o n k s 12 j = if s 0 4 * 3 + k ≤ j ∧ j < s 0 4 * 3 + k + n then s 10 (o + (j - s 0 4 * 3)) else s 12 j
  | 0, k, s => ⟨fun _ _ => rfl, fun j => by rw [if_neg (by omega)]; rfl⟩
  | n + 1, k, s => by
    obtain ⟨a, b⟩ := addAL_eq (σ := σ) (o := o) n (k + 1) (sU s 12 (s 0 4 * 3 + k) (s 10 (o + k)))
    refine ⟨fun r hr => ?_, fun j => ?_⟩
    · show addAL σ o n (k + 1) (sU s 12 (s 0 4 * 3 + k) (s 10 (o + k))) r = s r
      rw [a r hr, sU_ne _ _ _ hr]
    · show addAL σ o n (k + 1) (sU s 12 (s 0 4 * 3 + k) (s 10 (o + k))) 12 j = _
      rw [b j, sU_ne _ _ _ (by decide : (0 : Nat) ≠ 12), sU_ne _ _ _ (by decide : (10 : Nat) ≠ 12), sU_at]
      by_cases h1 : s 0 4 * 3 + (k + 1) ≤ j ∧ j < s 0 4 * 3 + (k + 1) + n
      · rw [if_pos h1, if_pos (by omega)]
      · rw [if_neg h1]
        by_cases h2 : j = s 0 4 * 3 + k
        · rw [if_pos h2, if_pos (by omega), h2, Nat.add_sub_cancel_left]
        · rw [if_neg h2, if_neg (by omega)]
theorem addAF_rows {σ : Nat → Nat → Nat} {o z : Nat} : (∀ r, r ≠ 12 → r ≠ 13 → r ≠ 0 → addAF σ o z r = σ r) ∧ (∀ j, j ≠ 4 → addAF σ o z 0 j = σ 0 j) ∧ addAF σ o z 0 4 = σ 0 4 + 1 ∧ (∀ j, addAF σ o z 13 j = if j = σ 0 4 then z else σ 13 j) ∧ (∀ j, addAF σ o z 12 j = if σ 0 4 * 3 ≤ j ∧ j < σ 0 4 * 3 + z then σ 10 (o + (j - σ 0 4 * 3)) else σ 12 j) := by
  obtain ⟨a, b⟩ := addAL_eq (σ := σ) (o := o) z 0 σ
  have h4 : addAL σ o z 0 σ 0 4 = σ 0 4 := by rw [a 0 (by decide)]
  unfold addAF
  rw [h4]
  refine ⟨fun r h1 h2 h3 => ?_, fun j hj => ?_, ?_, fun j => ?_, fun j => ?_⟩
  · rw [sU_ne _ _ _ h3, sU_ne _ _ _ h2, a r h1]
  · rw [sU_at, if_neg hj, sU_ne _ _ _ (by decide), a 0 (by decide)]
  · rw [sU_at, if_pos rfl]
  · rw [sU_ne _ _ _ (by decide), sU_at, a 13 (by decide)]
  · rw [sU_ne _ _ _ (by decide), sU_ne _ _ _ (by decide), b j]
    rfl
/-- the state s asks for the claims below c of σ, but the one numbered lo - 1 -/
def AQ (σ s : Nat → Nat → Nat) (c lo : Nat) : Prop :=
  (∀ r, r ≠ 12 → r ≠ 13 → r ≠ 0 → s r = σ r) ∧ (∀ j, j ≠ 4 → s 0 j = σ 0 j) ∧ s 0 4 ≤ c ∧ (∀ j, j < 33 → litOK (s 12 j)) ∧ (∀ j, j < 11 → s 13 j ≤ 3) ∧
  (∀ L : Nat → Prop, (∀ cl, cl < s 0 4 → ∃ k, k < s 13 cl ∧ L (s 12 (cl * 3 + k))) ↔ (∀ c1, c1 < c → c1 + 1 ≠ lo → ∃ k, k < σ 11 c1 ∧ L (σ 10 (c1 * 3 + k)))) ∧
  (∀ L : Nat → Prop, (∀ c1, c1 < c → ∀ k, k < σ 11 c1 → L (σ 10 (c1 * 3 + k))) → ∀ cl, cl < s 0 4 → ∀ k, k < s 13 cl → L (s 12 (cl * 3 + k))) ∧
  (lo = 0 → s 0 4 = c ∧ ∀ cl, cl < c → s 13 cl = σ 11 cl ∧ ∀ k, k < σ 11 cl → s 12 (cl * 3 + k) = σ 10 (cl * 3 + k))
theorem AQ.ic {σ s : Nat → Nat → Nat} {c lo : Nat} (hI : IC σ) (hc : c ≤ 8) (h : AQ σ s c lo) : IC s := by
  obtain ⟨a, b, d, e, f, -, -, -⟩ := h
  unfold IC
  rw [a 6 (by decide) (by decide) (by decide), a 7 (by decide) (by decide) (by decide), a 8 (by decide) (by decide) (by decide), a 9 (by decide) (by decide) (by decide), a 3 (by decide) (by decide) (by decide), a 10 (by decide) (by decide) (by decide), a 11 (by decide) (by decide) (by decide), a 14 (by decide) (by decide) (by decide), a 15 (by decide) (by decide) (by decide), b 0 (by decide), b 1 (by decide), b 2 (by decide)]
  obtain ⟨h1, h2, h3, h4, h5, h6, h7, h8, h9, h10, h11, h12, h13, h14⟩ := hI
  exact ⟨h1, h2, h3, by omega, h5, h6, h7, h8, h9, h10, e, f, h13, h14⟩
theorem AQ.init {σ : Nat → Nat → Nat} {lo : Nat} (hI : IC σ) : AQ σ (if 0 < σ 0 4 then sU σ 0 4 0 else σ) 0 lo := by
  have e : ∀ r, r ≠ 0 → (if 0 < σ 0 4 then sU σ 0 4 0 else σ) r = σ r := fun r hr => by
    split
    · rw [sU_ne _ _ _ hr]
    · rfl
  have e4 : (if 0 < σ 0 4 then sU σ 0 4 0 else σ) 0 4 = 0 := by
    split
    · rw [sU_at, if_pos rfl]
    · omega
  refine ⟨fun r _ _ h => e r h, fun j hj => ?_, by omega, fun j hj => ?_, fun j hj => ?_, fun L => ?_, fun L _ cl hcl => ?_, fun _ => ⟨e4, fun cl h => by omega⟩⟩
  · split
    · rw [sU_at, if_neg hj]
    · rfl
  · rw [e 12 (by decide)]; exact hI.alit hj
  · rw [e 13 (by decide)]; exact hI.asize hj
  · exact ⟨fun _ c1 h => by omega, fun _ cl hcl => by omega⟩
  · omega
theorem AQ.skip {σ s : Nat → Nat → Nat} {c lo : Nat} (h : AQ σ s c lo) (hl : c + 1 = lo) : AQ σ s (c + 1) lo := by
  obtain ⟨a, b, d, e, f, g, i, -⟩ := h
  refine ⟨a, b, by omega, e, f, fun L => ?_, fun L hL => i L (fun c1 h1 => hL c1 (by omega)), fun q => by omega⟩
  rw [g L]
  constructor
  · intro q c1 h1 h2
    exact q c1 (by omega) h2
  · intro q c1 h1 h2
    exact q c1 (by omega) h2
theorem AQ.add {σ s : Nat → Nat → Nat} {c lo : Nat} (hI : IC σ) (hc : c < 8) (h : AQ σ s c lo) (hl : c + 1 ≠ lo) : AQ σ (addAF s (c * 3) (s 11 c)) (c + 1) lo := by
  obtain ⟨a, b, d, e, f, g, i, pz⟩ := h
  obtain ⟨r1, r2, r3, r4, r5⟩ := addAF_rows (σ := s) (o := c * 3) (z := s 11 c)
  have h11 := a 11 (by decide) (by decide) (by decide)
  have h10 := a 10 (by decide) (by decide) (by decide)
  have hz := hI.msize hc
  rw [h11] at r1 r2 r3 r4 r5 ⊢
  rw [h10] at r5
  have lold : ∀ cl, cl < s 0 4 → addAF s (c * 3) (σ 11 c) 13 cl = s 13 cl := fun cl h1 => by rw [r4, if_neg (by omega)]
  have llit : ∀ cl k, cl < s 0 4 → k < 3 → addAF s (c * 3) (σ 11 c) 12 (cl * 3 + k) = s 12 (cl * 3 + k) := fun cl k h1 h2 => by rw [r5, if_neg (by omega)]
  have lnew : addAF s (c * 3) (σ 11 c) 13 (s 0 4) = σ 11 c := by rw [r4, if_pos rfl]
  have nlit : ∀ k, k < σ 11 c → addAF s (c * 3) (σ 11 c) 12 (s 0 4 * 3 + k) = σ 10 (c * 3 + k) := fun k h2 => by rw [r5, if_pos (by omega), Nat.add_sub_cancel_left]
  refine ⟨fun r h1 h2 h3 => by rw [r1 r h1 h2 h3]; exact a r h1 h2 h3, fun j hj => by rw [r2 j hj]; exact b j hj, by omega, fun j hj => ?_, fun j hj => ?_, fun L => ?_, fun L hL cl hcl k hk => ?_, fun q => ?_⟩
  · rw [r5]; split
    · exact hI.mlit (by omega)
    · exact e j hj
  · rw [r4]; split
    · exact hz
    · exact f j hj
  · rw [r3]
    constructor
    · intro q c1 h1 h2
      rcases Nat.lt_or_ge c1 c with h3 | h3
      · refine (g L).mp (fun cl hcl => ?_) c1 h3 h2
        obtain ⟨k, k1, k2⟩ := q cl (by omega)
        rw [lold cl hcl] at k1
        have := f cl (by omega)
        rw [llit cl k hcl (by omega)] at k2
        exact ⟨k, k1, k2⟩
      · obtain rfl : c1 = c := by omega
        obtain ⟨k, k1, k2⟩ := q (s 0 4) (by omega)
        rw [lnew] at k1
        rw [nlit k k1] at k2
        exact ⟨k, k1, k2⟩
    · intro q cl hcl
      rcases Nat.lt_or_ge cl (s 0 4) with h3 | h3
      · obtain ⟨k, k1, k2⟩ := (g L).mpr (fun c1 h1 h2 => q c1 (by omega) h2) cl h3
        have := f cl (by omega)
        exact ⟨k, by rw [lold cl h3]; exact k1, by rw [llit cl k h3 (by omega)]; exact k2⟩
      · obtain rfl : cl = s 0 4 := by omega
        obtain ⟨k, k1, k2⟩ := q c (by omega) hl
        exact ⟨k, by rw [lnew]; exact k1, by rw [nlit k k1]; exact k2⟩
  · rw [r3] at hcl
    rcases Nat.lt_or_ge cl (s 0 4) with h3 | h3
    · rw [lold cl h3] at hk
      have := f cl (by omega)
      rw [llit cl k h3 (by omega)]
      exact i L (fun c1 h1 => hL c1 (by omega)) cl h3 k hk
    · obtain rfl : cl = s 0 4 := by omega
      rw [lnew] at hk
      rw [nlit k hk]
      exact hL c (by omega) k hk
  · obtain ⟨p1, p2⟩ := pz q
    refine ⟨by omega, fun cl hcl => ?_⟩
    rcases Nat.lt_or_ge cl c with h3 | h3
    · obtain ⟨p3, p4⟩ := p2 cl h3
      have hz3 := hI.msize (j := cl) (by omega)
      refine ⟨by rw [lold cl (by omega)]; exact p3, fun k hk => ?_⟩
      rw [llit cl k (by omega) (by omega)]
      exact p4 k hk
    · obtain rfl : cl = c := by omega
      exact ⟨by have h9 := lnew; rw [p1] at h9; exact h9, fun k hk => by have h9 := nlit k hk; rw [p1] at h9; exact h9⟩
/-- only what questions use has changed -/
def KS (σ u : Nat → Nat → Nat) : Prop := (∀ r, r ≠ 0 → r ≠ 12 → r ≠ 13 → r ≠ 14 → r ≠ 15 → u r = σ r) ∧ (∀ j, j ≠ 4 → u 0 j = σ 0 j) ∧ IC u
theorem KS.rf {σ : Nat → Nat → Nat} (hI : IC σ) : KS σ σ := ⟨fun _ _ _ _ _ _ => rfl, fun _ _ => rfl, hI⟩
theorem KS.tr {σ s u : Nat → Nat → Nat} (h1 : KS σ s) (h2 : KS s u) : KS σ u := ⟨fun r a b c d e => by rw [h2.1 r a b c d e]; exact h1.1 r a b c d e, fun j hj => by rw [h2.2.1 j hj]; exact h1.2.1 j hj, h2.2.2⟩
theorem KS.ofAQ {σ s : Nat → Nat → Nat} {c lo : Nat} (hI : IC σ) (hc : c ≤ 8) (h : AQ σ s c lo) : KS σ s := ⟨fun r a b c _ _ => h.1 r b c a, h.2.1, h.ic hI hc⟩
theorem KS.ofFinds {σ u : Nat → Nat → Nat} (hI : IC σ) (h : (∀ r, r ≠ 14 → r ≠ 15 → u r = σ r) ∧ (∀ j, j < 96 → u 14 j < 10) ∧ (∀ j, j < 10 → u 15 j ≤ 20)) : KS σ u := ⟨fun r _ _ _ d e => h.1 r d e, fun j _ => by rw [h.1 0 (by decide) (by decide)], hI.swap h.1 h.2.1 h.2.2⟩
/-- rows of the terms' table alone -/
theorem Pc_rows {σ u : Nat → Nat → Nat} (h6 : u 6 = σ 6) (h7 : u 7 = σ 7) (h8 : u 8 = σ 8) (h9 : u 9 = σ 9) (w : Nat) : ∀ n t j, PcF u w n t j = PcF σ w n t j
  | 0, _, _ => rfl
  | n + 1, t, j => by
    unfold PcF
    rw [h6, h7, h8, h9, Pc_rows h6 h7 h8 h9 w n, Pc_rows h6 h7 h8 h9 w n, Pc_rows h6 h7 h8 h9 w n]
theorem LD_rows {σ u : Nat → Nat → Nat} (h6 : u 6 = σ 6) (h7 : u 7 = σ 7) (h8 : u 8 = σ 8) (h9 : u 9 = σ 9) (w : Nat) (V : Nat → Nat) (v : Nat) : LD u w V v ↔ LD σ w V v := by
  have e : ∀ t j, den u w t j = den σ w t j := fun t j => Pc_rows h6 h7 h8 h9 w 25 t j
  unfold LD eqD
  simp only [e, h6]
def SatM (σ : Nat → Nat → Nat) (w up lo : Nat) : Prop := ∃ V : Nat → Nat, V 5 = 0 ∧ RngV V ∧ ∀ c, c < up → c + 1 ≠ lo → ∃ k, k < σ 11 c ∧ LD σ w V (σ 10 (c * 3 + k))
def CanM (σ : Nat → Nat → Nat) (up lo : Nat) : Prop := ∃ w, w < 5 ∧ SatM σ w up lo
noncomputable def canB (σ : Nat → Nat → Nat) (up lo : Nat) : Bool := @decide (CanM σ up lo) (Classical.propDecidable _)
theorem canB_iff {σ : Nat → Nat → Nat} {up lo : Nat} : canB σ up lo = true ↔ CanM σ up lo := @decide_eq_true_iff _ (Classical.propDecidable _)
theorem bool_iff {a b : Bool} {P : Prop} (h1 : a = true ↔ P) (h2 : b = true ↔ P) : a = b := by
  cases a <;> cases b <;> simp_all
def MadeW (σ : Nat → Nat → Nat) : Prop := ∀ c, c < σ 0 2 → ∀ k, k < σ 11 c → litW σ (σ 10 (c * 3 + k))
theorem KS.wf {σ u : Nat → Nat → Nat} (h : KS σ u) (hW : WF σ) : WF u := by
  unfold WF
  rw [h.1 6 (by decide) (by decide) (by decide) (by decide) (by decide), h.1 7 (by decide) (by decide) (by decide) (by decide) (by decide), h.1 9 (by decide) (by decide) (by decide) (by decide) (by decide), h.2.1 1 (by decide)]
  exact hW
theorem KS.litW {σ u : Nat → Nat → Nat} (h : KS σ u) {v : Nat} : litW u v ↔ litW σ v := by
  unfold Jvm.Pilot.@@N@@.litW
  rw [h.1 6 (by decide) (by decide) (by decide) (by decide) (by decide), h.2.1 1 (by decide)]
theorem KS.made {σ u : Nat → Nat → Nat} (h : KS σ u) (hM : MadeW σ) : MadeW u := by
  intro c hc k hk
  rw [h.2.1 2 (by decide)] at hc
  rw [h.1 11 (by decide) (by decide) (by decide) (by decide) (by decide)] at hk
  rw [h.1 10 (by decide) (by decide) (by decide) (by decide) (by decide)]
  exact h.litW.mpr (hM c hc k hk)
theorem KS.ld {σ u : Nat → Nat → Nat} (h : KS σ u) (w : Nat) (V : Nat → Nat) (v : Nat) : LD u w V v ↔ LD σ w V v :=
  LD_rows (h.1 6 (by decide) (by decide) (by decide) (by decide) (by decide)) (h.1 7 (by decide) (by decide) (by decide) (by decide) (by decide)) (h.1 8 (by decide) (by decide) (by decide) (by decide) (by decide)) (h.1 9 (by decide) (by decide) (by decide) (by decide) (by decide)) w V v
theorem KS.can {σ u : Nat → Nat → Nat} (h : KS σ u) (up lo : Nat) : CanM u up lo ↔ CanM σ up lo := by
  unfold CanM SatM
  rw [h.1 11 (by decide) (by decide) (by decide) (by decide) (by decide), h.1 10 (by decide) (by decide) (by decide) (by decide) (by decide)]
  simp only [h.ld]
theorem AQ.ask {σ s : Nat → Nat → Nat} {c lo : Nat} (hI : IC σ) (hc : c ≤ σ 0 2) (hM : MadeW σ) (h : AQ σ s c lo) : AskW s := by
  have hk := KS.ofAQ hI (by have := hI.claims; omega) h
  intro cl hcl k hk2
  exact h.2.2.2.2.2.2.1 (fun v => litW s v) (fun c1 h1 k h2 => hk.litW.mpr (hM c1 (by omega) k h2)) cl hcl k hk2
theorem AQ.sat {σ s : Nat → Nat → Nat} {c lo : Nat} (hI : IC σ) (hc : c ≤ 8) (h : AQ σ s c lo) (w : Nat) : SatA s w ↔ SatM σ w c lo := by
  have hk := KS.ofAQ hI hc h
  unfold SatA SatM
  constructor
  · rintro ⟨V, h1, h2, h3⟩
    refine ⟨V, h1, h2, ?_⟩
    have := (h.2.2.2.2.2.1 (fun v => LD s w V v)).mp h3
    simpa only [hk.ld] using this
  · rintro ⟨V, h1, h2, h3⟩
    refine ⟨V, h1, h2, ?_⟩
    exact (h.2.2.2.2.2.1 (fun v => LD s w V v)).mpr (by simpa only [hk.ld] using h3)
theorem dif13 : ∀ w, w < 5 → 1 ≤ difF w ∧ difF w ≤ 3 := by decide +kernel
theorem AQ.can {σ s : Nat → Nat → Nat} {c lo : Nat} (hI : IC σ) (hc : c ≤ 8) (h : AQ σ s c lo) : fdB s 1 3 = canB σ c lo := by
  refine bool_iff fdB_iff (canB_iff.trans ?_)
  unfold CanM fdP
  constructor
  · rintro ⟨w, h1, h2⟩
    exact ⟨w, h1, (dif13 w h1).1, (dif13 w h1).2, (h.sat hI hc w).mpr h2⟩
  · rintro ⟨w, h1, -, -, h2⟩
    exact ⟨w, h1, (h.sat hI hc w).mp h2⟩
theorem in_X4_askClaims_X4 : ∀ w ∈ wsX40, w ∈ wsX4_askClaims := by decide +kernel
theorem lk_X4_askClaims_33 : Cond.fieldLink RX4 33 "ArrayClaims" "asked" "LArrayClaims$ClaimList;" ∈ wsX4_askClaims := by decide +kernel
theorem lk_X4_askClaims_21 : Cond.fieldLink RX4 21 "ArrayClaims" "made" "LArrayClaims$ClaimList;" ∈ wsX4_askClaims := by decide +kernel
def rX4_askClaims : Room := { frames := 2, cells := 0, slots := 0, locals := 46 }
set_option maxHeartbeats 4000000 in
set_option maxRecDepth 100000 in
theorem c_X4_askClaims (l : Launch) (D : va_G) (cI : ClassId) (A : Nat → Prop) (ad : Nat → Nat) (σ : Nat → Nat → Nat) (up lo : Nat) (hI : IC σ) (hup : up ≤ σ 0 2) (hlo : lo ≤ 8) : Met l yX4_askClaims wsX4_askClaims rX4_askClaims (va_Pc [.ref (ad 0), .int (nI up), .int (mI lo)] (Wc D cI A ad σ)) (va_Qv (fun u => AQ σ u up lo) (fun u t => Wc D cI A ad u t) A) 0 0 A := by
  refine Met.ofW (cc := cX4_askClaims) (maxL := 4) (ret := none) (by decide) rfl ?_
  intro p e s m args below meth c s₁ B hml hv
  obtain ⟨rfl, hP, hK, hD, hN, hZ⟩ := hv
  have hx := B.exec
  have hb := B.bytes
  have hr := B.returns
  have hts := atoms_spec (ws := wsX4_askClaims) B.pre
  have hown : s.vm.findClass RX4 = some m.cls := findClass_of_methodNamed B.named
  have hlocks := B.notSynchronized
  have hS : va_S A s.heap s.heap [] := va_S.rf
  have hl := lv_entry ([.ref (ad 0), .int (nI up), .int (mI lo)]) (n := 4) (Nat.le_of_ble_eq_true rfl)
  rw [lg_entry_eq]
  generalize (lg_sl ([.ref (ad 0), .int (nI up), .int (mI lo)]) ++ List.replicate (4 - (lg_sl ([.ref (ad 0), .int (nI up), .int (mI lo)])).length) Slot.unset).toArray = ls at hl ⊢
  have hl : lv_has ls 4 [(0, .ref (ad 0)), (1, .int (nI up)), (2, .int (mI lo))] := hl
  have hcm := hI.claims
  refine lv_aload_n hx hb dX4_askClaims_0 rfl (lv_at hl 0 rfl) ?_
  refine va_get (D := D) (ci := 3) (v := .ref (ad 4)) (C := RX4) (T := TX4) (N := 6) hx hb hts in_X4_askClaims_X4 hown hK hP 0 rfl rfl 4 (by decide) (hts _ lk_X4_askClaims_33) (fun _ h9 => h9) rfl dX4_askClaims_1 ?_
  refine lv_iconst (v := nI 0) hx hb dX4_askClaims_4 (by decide) ?_
  refine va_callv (va_runV (As := [.int (nI 0)]) (rest := []) ⟨hx, hb, hml, hown, hts⟩ (c_X0_cutTo_asked l D cI A ad σ 0 hI (by omega)) (cwV 1 hts gX4_askClaims_X0_cutTo rfl rfl rfl (by decide +kernel) ⟨Nat.le_of_ble_eq_true rfl, Nat.le_of_ble_eq_true rfl⟩) ⟨Wc.blind, va_recv hK hP (ci := 0) (q0 := 4) rfl rfl, fun U hU hW => ⟨rfl, Wc.go hP hK hD hN hZ hS hU hW⟩⟩ rfl rfl hl.1 rfl (lv_room (Nat.le_of_ble_eq_true rfl)) dX4_askClaims_5 ⟨Nat.zero_le _, Nat.zero_le _⟩) hS (fun q _ h => h) (fun q h => h) (fun σ_1 t H1 locs ht hvm hwσ_1 hB hz1 hk1 hS => ?_)
  obtain ⟨hP, -, hD, -⟩ := hB
  rw [ht] at hP
  generalize H1 = H at hP hS ⊢
  refine lv_iconst (v := nI 0) hx hb dX4_askClaims_8 (by decide) ?_
  refine lv_istore_n (lv' := [(3, .int (nI 0)), (0, .ref (ad 0)), (1, .int (nI up)), (2, .int (mI lo))]) hx hb dX4_askClaims_9 rfl hl (by decide) rfl (fun ls hl => ?_)
  have lp10 : ∀ (n : Nat) (c1 : Nat) (σ_2 : Nat → Nat → Nat) (H : Heap) (locs : List Loc) (ls : Array Slot), (c1 + n = up) → (AQ σ σ_2 c1 lo) → va_P D vwCl (WC ad cI σ_2) H → va_D A (WC ad cI σ_2) → va_S A s.heap H locs → lv_has ls 4 [(3, .int (nI c1)), (0, .ref (ad 0)), (1, .int (nI up)), (2, .int (mI lo))] → W p l e rX4_askClaims s m (([.ref (ad 0), .int (nI up), .int (mI lo)] : List Value).toArray) below meth c H locs 0 0 (MQ below (va_Qv (fun u => AQ σ u up lo) (fun u t => Wc D cI A ad u t) A) (([.ref (ad 0), .int (nI up), .int (mI lo)] : List Value).toArray) s 0 0 A) (F0 m 10 ls []) := by
    intro n
    induction n with
    | zero =>
      intro c1 σ_2 H locs ls hF1 hQ hP hD hS hl
      obtain rfl : c1 = up := by omega
      refine lv_iload_n hx hb dX4_askClaims_10 rfl (lv_at hl 0 rfl) ?_
      refine lv_iload_n hx hb dX4_askClaims_11 rfl (lv_at hl 2 rfl) ?_
      refine n_icmp_ge hx hb (tgt := 38) (by omega) (by omega) dX4_askClaims_12 (by decide) (fun c_12 => ?_) (fun c_12 => ?_)
      · exact W.vret hx hb hr (fun t ht hW => ⟨⟨_, rfl, (hQ), Wc.go hP hK hD hN hZ hS ht hW⟩, hS.F ht⟩) hS.2.2 dX4_askClaims_38
      · omega
    | succ n ih10 =>
      intro c1 σ_2 H locs ls hF1 hQ hP hD hS hl
      refine lv_iload_n hx hb dX4_askClaims_10 rfl (lv_at hl 0 rfl) ?_
      refine lv_iload_n hx hb dX4_askClaims_11 rfl (lv_at hl 2 rfl) ?_
      refine n_icmp_ge hx hb (tgt := 38) (by omega) (by omega) dX4_askClaims_12 (by decide) (fun c_12 => ?_) (fun c_12 => ?_)
      · omega
      · refine lv_iload_n hx hb dX4_askClaims_15 rfl (lv_at hl 0 rfl) ?_
        refine lv_iload_n hx hb dX4_askClaims_16 rfl (lv_at hl 3 rfl) ?_
        refine q_icmp_eq hx hb (tgt := 32) (nm_eq (by omega) (by omega)) dX4_askClaims_17 (by decide) (fun c_17 => ?_) (fun c_17 => ?_)
        · refine lv_iinc (v := nI (c1 + 1)) (lv' := [(3, .int (nI (c1 + 1))), (0, .ref (ad 0)), (1, .int (nI up)), (2, .int (mI lo))]) hx hb dX4_askClaims_32 hl (k := 0) rfl (nI_add _ _) (by decide) rfl (fun ls hl => ?_)
          refine lv_goto (tgt := 10) hx hb dX4_askClaims_35 (by decide) ?_
          exact ih10 (c1 + 1)  _ _ _ _  (by omega) (hQ.skip c_17.symm) hP hD hS (lv_sub hl [0, 1, 2, 3] rfl)
        · refine lv_aload_n hx hb dX4_askClaims_20 rfl (lv_at hl 1 rfl) ?_
          refine va_get (D := D) (ci := 3) (v := .ref (ad 4)) (C := RX4) (T := TX4) (N := 6) hx hb hts in_X4_askClaims_X4 hown hK hP 0 rfl rfl 4 (by decide) (hts _ lk_X4_askClaims_33) (fun _ h9 => h9) rfl dX4_askClaims_21 ?_
          refine lv_aload_n hx hb dX4_askClaims_24 rfl (lv_at hl 1 rfl) ?_
          refine va_get (D := D) (ci := 3) (v := .ref (ad 2)) (C := RX4) (T := TX4) (N := 6) hx hb hts in_X4_askClaims_X4 hown hK hP 0 rfl rfl 1 (by decide) (hts _ lk_X4_askClaims_21) (fun _ h9 => h9) rfl dX4_askClaims_25 ?_
          refine lv_iload_n hx hb dX4_askClaims_28 rfl (lv_at hl 0 rfl) ?_
          refine va_callv (va_runV (As := [.ref (ad 2), .int (nI c1)]) (rest := []) ⟨hx, hb, hml, hown, hts⟩ (c_X0_addFrom l D cI A ad σ_2 c1 (hQ.ic hI (by omega)) (by have := hQ.2.2.1; omega) (by omega)) (cwV 2 hts gX4_askClaims_X0_addFrom rfl rfl rfl (by decide +kernel) ⟨Nat.le_of_ble_eq_true rfl, Nat.le_of_ble_eq_true rfl⟩) ⟨Wc.blind, va_recv hK hP (ci := 0) (q0 := 4) rfl rfl, fun U hU hW => ⟨rfl, Wc.go hP hK hD hN hZ hS hU hW⟩⟩ rfl rfl hl.1 rfl (lv_room (Nat.le_of_ble_eq_true rfl)) dX4_askClaims_29 ⟨Nat.zero_le _, Nat.zero_le _⟩) hS (fun q _ h => h) (fun q h => h) (fun σ_3 t H1 locs ht hvm hwσ_3 hB hz1 hk1 hS => ?_)
          obtain ⟨hP, -, hD, -⟩ := hB
          rw [ht] at hP
          generalize H1 = H at hP hS ⊢
          refine lv_iinc (v := nI (c1 + 1)) (lv' := [(3, .int (nI (c1 + 1))), (0, .ref (ad 0)), (1, .int (nI up)), (2, .int (mI lo))]) hx hb dX4_askClaims_32 hl (k := 0) rfl (nI_add _ _) (by decide) rfl (fun ls hl => ?_)
          refine lv_goto (tgt := 10) hx hb dX4_askClaims_35 (by decide) ?_
          exact ih10 (c1 + 1)  _ _ _ _  (by omega) (by rw [hwσ_3]; exact hQ.add hI (by omega) (fun q => c_17 q.symm)) hP hD hS (lv_sub hl [0, 1, 2, 3] rfl)
  exact lp10 up 0  _ _ _ _ (by omega) (by rw [hwσ_1]; exact AQ.init hI) hP hD hS (lv_sub hl [0, 1, 2, 3] rfl)
theorem in_X4_isPossible_X4 : ∀ w ∈ wsX40, w ∈ wsX4_isPossible := by decide +kernel
theorem lk_X4_isPossible_39 : Cond.fieldLink RX4 39 "ArrayClaims" "search" "LArrayClaims$ReadingSearch;" ∈ wsX4_isPossible := by decide +kernel
theorem lk_X4_isPossible_12 : Cond.fieldLink RX4 12 "ArrayClaims" "known" "LArrayClaims$TermTable;" ∈ wsX4_isPossible := by decide +kernel
theorem lk_X4_isPossible_33 : Cond.fieldLink RX4 33 "ArrayClaims" "asked" "LArrayClaims$ClaimList;" ∈ wsX4_isPossible := by decide +kernel
def rX4_isPossible : Room := { frames := 15, cells := 0, slots := 0, locals := 484 }
set_option maxHeartbeats 4000000 in
set_option maxRecDepth 100000 in
theorem c_X4_isPossible (l : Launch) (D : va_G) (cI : ClassId) (A : Nat → Prop) (ad : Nat → Nat) (σ : Nat → Nat → Nat)  (hI : IC σ) (hW0 : WF σ) (hA0 : AskW σ) : Met l yX4_isPossible wsX4_isPossible rX4_isPossible (va_Pc [.ref (ad 0)] (Wc D cI A ad σ)) (va_Qi (fun r u => r = bI (fdB σ 1 3) ∧ (∀ r, r ≠ 14 → r ≠ 15 → u r = σ r) ∧ (∀ j, j < 96 → u 14 j < 10) ∧ (∀ j, j < 10 → u 15 j ≤ 20)) (fun u t => Wc D cI A ad u t) A) 0 0 A := by
  refine Met.ofW (cc := cX4_isPossible) (maxL := 1) (ret := (some .boolean)) (by decide) rfl ?_
  intro p e s m args below meth c s₁ B hml hv
  obtain ⟨rfl, hP, hK, hD, hN, hZ⟩ := hv
  have hx := B.exec
  have hb := B.bytes
  have hr := B.returns
  have hts := atoms_spec (ws := wsX4_isPossible) B.pre
  have hown : s.vm.findClass RX4 = some m.cls := findClass_of_methodNamed B.named
  have hlocks := B.notSynchronized
  have hS : va_S A s.heap s.heap [] := va_S.rf
  have hl := lv_entry ([.ref (ad 0)]) (n := 1) (Nat.le_of_ble_eq_true rfl)
  rw [lg_entry_eq]
  generalize (lg_sl ([.ref (ad 0)]) ++ List.replicate (1 - (lg_sl ([.ref (ad 0)])).length) Slot.unset).toArray = ls at hl ⊢
  have hl : lv_has ls 1 [(0, .ref (ad 0))] := hl
  refine lv_aload_n hx hb dX4_isPossible_0 rfl (lv_at hl 0 rfl) ?_
  refine va_get (D := D) (ci := 3) (v := .ref (ad 5)) (C := RX4) (T := TX4) (N := 6) hx hb hts in_X4_isPossible_X4 hown hK hP 0 rfl rfl 5 (by decide) (hts _ lk_X4_isPossible_39) (fun _ h9 => h9) rfl dX4_isPossible_1 ?_
  refine lv_aload_n hx hb dX4_isPossible_4 rfl (lv_at hl 0 rfl) ?_
  refine va_get (D := D) (ci := 3) (v := .ref (ad 1)) (C := RX4) (T := TX4) (N := 6) hx hb hts in_X4_isPossible_X4 hown hK hP 0 rfl rfl 0 (by decide) (hts _ lk_X4_isPossible_12) (fun _ h9 => h9) rfl dX4_isPossible_5 ?_
  refine lv_aload_n hx hb dX4_isPossible_8 rfl (lv_at hl 0 rfl) ?_
  refine va_get (D := D) (ci := 3) (v := .ref (ad 4)) (C := RX4) (T := TX4) (N := 6) hx hb hts in_X4_isPossible_X4 hown hK hP 0 rfl rfl 4 (by decide) (hts _ lk_X4_isPossible_33) (fun _ h9 => h9) rfl dX4_isPossible_9 ?_
  refine lv_iconst (v := nI 1) hx hb dX4_isPossible_12 (by decide) ?_
  refine lv_iconst (v := nI 3) hx hb dX4_isPossible_13 (by decide) ?_
  refine va_calli (va_runV (As := [.ref (ad 1), .ref (ad 4), .int (nI 1), .int (nI 3)]) (rest := []) ⟨hx, hb, hml, hown, hts⟩ (c_X2_finds l D cI A ad σ 1 3 hI hW0 hA0 (by omega) (by omega)) (cwV 4 hts gX4_isPossible_X2_finds rfl rfl rfl (by decide +kernel) ⟨Nat.le_of_ble_eq_true rfl, Nat.le_of_ble_eq_true rfl⟩) ⟨Wc.blind, va_recv hK hP (ci := 1) (q0 := 5) rfl rfl, fun U hU hW => ⟨rfl, Wc.go hP hK hD hN hZ hS hU hW⟩⟩ rfl rfl hl.1 rfl (lv_room (Nat.le_of_ble_eq_true rfl)) dX4_isPossible_14 ⟨Nat.zero_le _, Nat.zero_le _⟩) hS (fun q _ h => h) (fun q h => h) (fun r_2 σ_1 t H1 locs ht hvm hwσ_1 hB hz1 hk1 hS => ?_)
  obtain ⟨hr_2, hwσ_1⟩ := hwσ_1
  refine n_to (w := bI (fdB σ 1 3)) (hr_2) ?_
  obtain ⟨hP, -, hD, -⟩ := hB
  rw [ht] at hP
  generalize H1 = H at hP hS ⊢
  exact W.zret (v := bI (fdB σ 1 3)) hx hb hr (bI_nar _) (fun t ht hW => ⟨⟨_, σ_1, rfl, (⟨rfl, hwσ_1⟩), Wc.go hP hK hD hN hZ hS ht hW⟩, hS.F ht⟩) hS.2.2 dX4_isPossible_17
theorem in_X4_can_X4 : ∀ w ∈ wsX40, w ∈ wsX4_can := by decide +kernel
theorem lk_X4_can_21 : Cond.fieldLink RX4 21 "ArrayClaims" "made" "LArrayClaims$ClaimList;" ∈ wsX4_can := by decide +kernel
theorem in_X4_can_X0 : ∀ w ∈ wsX00, w ∈ wsX4_can := by decide +kernel
def rX4_can : Room := { frames := 16, cells := 0, slots := 0, locals := 504 }
set_option maxHeartbeats 4000000 in
set_option maxRecDepth 100000 in
theorem c_X4_can (l : Launch) (D : va_G) (cI : ClassId) (A : Nat → Prop) (ad : Nat → Nat) (σ : Nat → Nat → Nat)  (hI : IC σ) (hW0 : WF σ) (hM0 : MadeW σ) : Met l yX4_can wsX4_can rX4_can (va_Pc [.ref (ad 0)] (Wc D cI A ad σ)) (va_Qi (fun r u => r = bI (canB σ (σ 0 2) 0) ∧ KS σ u) (fun u t => Wc D cI A ad u t) A) 0 0 A := by
  refine Met.ofW (cc := cX4_can) (maxL := 1) (ret := (some .boolean)) (by decide) rfl ?_
  intro p e s m args below meth c s₁ B hml hv
  obtain ⟨rfl, hP, hK, hD, hN, hZ⟩ := hv
  have hx := B.exec
  have hb := B.bytes
  have hr := B.returns
  have hts := atoms_spec (ws := wsX4_can) B.pre
  have hown : s.vm.findClass RX4 = some m.cls := findClass_of_methodNamed B.named
  have hlocks := B.notSynchronized
  have hS : va_S A s.heap s.heap [] := va_S.rf
  have hl := lv_entry ([.ref (ad 0)]) (n := 1) (Nat.le_of_ble_eq_true rfl)
  rw [lg_entry_eq]
  generalize (lg_sl ([.ref (ad 0)]) ++ List.replicate (1 - (lg_sl ([.ref (ad 0)])).length) Slot.unset).toArray = ls at hl ⊢
  have hl : lv_has ls 1 [(0, .ref (ad 0))] := hl
  have hcm := hI.claims
  refine lv_aload_n hx hb dX4_can_0 rfl (lv_at hl 0 rfl) ?_
  refine lv_aload_n hx hb dX4_can_1 rfl (lv_at hl 0 rfl) ?_
  refine va_get (D := D) (ci := 3) (v := .ref (ad 2)) (C := RX4) (T := TX4) (N := 6) hx hb hts in_X4_can_X4 hown hK hP 0 rfl rfl 1 (by decide) (hts _ lk_X4_can_21) (fun _ h9 => h9) rfl dX4_can_2 ?_
  refine va_getN (D := D) (ci := 0) (v := .int (nI (σ 0 2))) (C := RX0) (T := TX0) (N := 3) hx hb hts in_X4_can_X0 hown hK hP 2 rfl rfl 2 (by decide) (hN.use 7 rfl) (fun _ h9 => h9) rfl dX4_can_5 ?_
  refine lv_iconst (v := mI 0) hx hb dX4_can_8 (by decide) ?_
  refine va_callv (va_runV (As := [.int (nI (σ 0 2)), .int (mI 0)]) (rest := []) ⟨hx, hb, hml, hown, hts⟩ (c_X4_askClaims l D cI A ad σ (σ 0 2) 0 hI (Nat.le_refl _) (by omega)) (cwV 2 hts gX4_can_X4_askClaims rfl rfl rfl (by decide +kernel) ⟨Nat.le_of_ble_eq_true rfl, Nat.le_of_ble_eq_true rfl⟩) ⟨Wc.blind, va_recv hK hP (ci := 3) (q0 := 0) rfl rfl, fun U hU hW => ⟨rfl, Wc.go hP hK hD hN hZ hS hU hW⟩⟩ rfl rfl hl.1 rfl (lv_room (Nat.le_of_ble_eq_true rfl)) dX4_can_9 ⟨Nat.zero_le _, Nat.zero_le _⟩) hS (fun q _ h => h) (fun q h => h) (fun σ_1 t H1 locs ht hvm hwσ_1 hB hz1 hk1 hS => ?_)
  obtain ⟨hP, -, hD, -⟩ := hB
  rw [ht] at hP
  generalize H1 = H at hP hS ⊢
  have hkq := KS.ofAQ hI (by omega) hwσ_1
  have hIq := hkq.2.2
  have hcb := AQ.can hI (by omega) hwσ_1
  have hAk := AQ.ask hI (Nat.le_refl _) hM0 hwσ_1
  refine lv_aload_n hx hb dX4_can_12 rfl (lv_at hl 0 rfl) ?_
  refine va_calli (va_runV (As := []) (rest := []) ⟨hx, hb, hml, hown, hts⟩ (c_X4_isPossible l D cI A ad σ_1 hIq (hkq.wf hW0) hAk) (cwV 0 hts gX4_can_X4_isPossible rfl rfl rfl (by decide +kernel) ⟨Nat.le_of_ble_eq_true rfl, Nat.le_of_ble_eq_true rfl⟩) ⟨Wc.blind, va_recv hK hP (ci := 3) (q0 := 0) rfl rfl, fun U hU hW => ⟨rfl, Wc.go hP hK hD hN hZ hS hU hW⟩⟩ rfl rfl hl.1 rfl (lv_room (Nat.le_of_ble_eq_true rfl)) dX4_can_13 ⟨Nat.zero_le _, Nat.zero_le _⟩) hS (fun q _ h => h) (fun q h => h) (fun r_3 σ_2 t H1 locs ht hvm hwσ_2 hB hz1 hk1 hS => ?_)
  obtain ⟨hr_3, hwσ_2⟩ := hwσ_2
  refine n_to (w := bI (canB σ (σ 0 2) 0)) (by rw [hr_3, hcb]) ?_
  obtain ⟨hP, -, hD, -⟩ := hB
  rw [ht] at hP
  generalize H1 = H at hP hS ⊢
  exact W.zret (v := bI (canB σ (σ 0 2) 0)) hx hb hr (bI_nar _) (fun t ht hW => ⟨⟨_, σ_2, rfl, (⟨rfl, hkq.tr (KS.ofFinds hIq hwσ_2)⟩), Wc.go hP hK hD hN hZ hS ht hW⟩, hS.F ht⟩) hS.2.2 dX4_can_16
theorem in_X4_first_X4 : ∀ w ∈ wsX40, w ∈ wsX4_first := by decide +kernel
theorem lk_X4_first_21 : Cond.fieldLink RX4 21 "ArrayClaims" "made" "LArrayClaims$ClaimList;" ∈ wsX4_first := by decide +kernel
theorem in_X4_first_X0 : ∀ w ∈ wsX00, w ∈ wsX4_first := by decide +kernel
def rX4_first : Room := { frames := 16, cells := 0, slots := 0, locals := 504 }
set_option maxHeartbeats 4000000 in
set_option maxRecDepth 100000 in
theorem c_X4_first (l : Launch) (D : va_G) (cI : ClassId) (A : Nat → Prop) (ad : Nat → Nat) (σ : Nat → Nat → Nat)  (hI : IC σ) (hW0 : WF σ) (hM0 : MadeW σ) : Met l yX4_first wsX4_first rX4_first (va_Pc [.ref (ad 0)] (Wc D cI A ad σ)) (va_Qi (fun r u => ((∃ k, k < σ 0 2 ∧ r = nI k ∧ ¬ CanM σ (k + 1) 0 ∧ ∀ j, j < k → CanM σ (j + 1) 0) ∨ (r = mI 0 ∧ ∀ j, j < σ 0 2 → CanM σ (j + 1) 0)) ∧ KS σ u) (fun u t => Wc D cI A ad u t) A) 0 0 A := by
  refine Met.ofW (cc := cX4_first) (maxL := 2) (ret := (some .int)) (by decide) rfl ?_
  intro p e s m args below meth c s₁ B hml hv
  obtain ⟨rfl, hP, hK, hD, hN, hZ⟩ := hv
  have hx := B.exec
  have hb := B.bytes
  have hr := B.returns
  have hts := atoms_spec (ws := wsX4_first) B.pre
  have hown : s.vm.findClass RX4 = some m.cls := findClass_of_methodNamed B.named
  have hlocks := B.notSynchronized
  have hS : va_S A s.heap s.heap [] := va_S.rf
  have hl := lv_entry ([.ref (ad 0)]) (n := 2) (Nat.le_of_ble_eq_true rfl)
  rw [lg_entry_eq]
  generalize (lg_sl ([.ref (ad 0)]) ++ List.replicate (2 - (lg_sl ([.ref (ad 0)])).length) Slot.unset).toArray = ls at hl ⊢
  have hl : lv_has ls 2 [(0, .ref (ad 0))] := hl
  have hcm := hI.claims
  refine lv_iconst (v := nI 0) hx hb dX4_first_0 (by decide) ?_
  refine lv_istore_n (lv' := [(1, .int (nI 0)), (0, .ref (ad 0))]) hx hb dX4_first_1 rfl hl (by decide) rfl (fun ls hl => ?_)
  have lp2 : ∀ (n : Nat) (k : Nat) (σ_1 : Nat → Nat → Nat) (H : Heap) (locs : List Loc) (ls : Array Slot), (k + n = σ 0 2) → (KS σ σ_1) → (∀ j, j < k → CanM σ (j + 1) 0) → va_P D vwCl (WC ad cI σ_1) H → va_D A (WC ad cI σ_1) → va_S A s.heap H locs → lv_has ls 2 [(1, .int (nI k)), (0, .ref (ad 0))] → W p l e rX4_first s m (([.ref (ad 0)] : List Value).toArray) below meth c H locs 0 0 (MQ below (va_Qi (fun r u => ((∃ k, k < σ 0 2 ∧ r = nI k ∧ ¬ CanM σ (k + 1) 0 ∧ ∀ j, j < k → CanM σ (j + 1) 0) ∨ (r = mI 0 ∧ ∀ j, j < σ 0 2 → CanM σ (j + 1) 0)) ∧ KS σ u) (fun u t => Wc D cI A ad u t) A) (([.ref (ad 0)] : List Value).toArray) s 0 0 A) (F0 m 2 ls []) := by
    intro n
    induction n with
    | zero =>
      intro k σ_1 H locs ls hF1 hks hX hP hD hS hl
      have h02 : σ_1 0 2 = σ 0 2 := hks.2.1 2 (by decide)
      refine lv_iload_n hx hb dX4_first_2 rfl (lv_at hl 0 rfl) ?_
      refine lv_aload_n hx hb dX4_first_3 rfl (lv_at hl 1 rfl) ?_
      refine va_get (D := D) (ci := 3) (v := .ref (ad 2)) (C := RX4) (T := TX4) (N := 6) hx hb hts in_X4_first_X4 hown hK hP 0 rfl rfl 1 (by decide) (hts _ lk_X4_first_21) (fun _ h9 => h9) rfl dX4_first_4 ?_
      refine va_getN (D := D) (ci := 0) (v := .int (nI (σ_1 0 2))) (C := RX0) (T := TX0) (N := 3) hx hb hts in_X4_first_X0 hown hK hP 2 rfl rfl 2 (by decide) (hN.use 7 rfl) (fun _ h9 => h9) rfl dX4_first_7 ?_
      refine n_icmp_ge hx hb (tgt := 36) (by omega) (by omega) dX4_first_10 (by decide) (fun c_10 => ?_) (fun c_10 => ?_)
      · refine lv_iconst (v := mI 0) hx hb dX4_first_36 (by decide) ?_
        exact W.iret (v := mI 0) hx hb hr (fun t ht hW => ⟨⟨_, σ_1, rfl, (⟨Or.inr ⟨rfl, fun j q => hX j (by omega)⟩, hks⟩), Wc.go hP hK hD hN hZ hS ht hW⟩, hS.F ht⟩) hS.2.2 dX4_first_37
      · omega
    | succ n ih2 =>
      intro k σ_1 H locs ls hF1 hks hX hP hD hS hl
      have h02 : σ_1 0 2 = σ 0 2 := hks.2.1 2 (by decide)
      have hIs := hks.2.2
      have hcs := hks.can (k + 1) 0
      refine lv_iload_n hx hb dX4_first_2 rfl (lv_at hl 0 rfl) ?_
      refine lv_aload_n hx hb dX4_first_3 rfl (lv_at hl 1 rfl) ?_
      refine va_get (D := D) (ci := 3) (v := .ref (ad 2)) (C := RX4) (T := TX4) (N := 6) hx hb hts in_X4_first_X4 hown hK hP 0 rfl rfl 1 (by decide) (hts _ lk_X4_first_21) (fun _ h9 => h9) rfl dX4_first_4 ?_
      refine va_getN (D := D) (ci := 0) (v := .int (nI (σ_1 0 2))) (C := RX0) (T := TX0) (N := 3) hx hb hts in_X4_first_X0 hown hK hP 2 rfl rfl 2 (by decide) (hN.use 7 rfl) (fun _ h9 => h9) rfl dX4_first_7 ?_
      refine n_icmp_ge hx hb (tgt := 36) (by omega) (by omega) dX4_first_10 (by decide) (fun c_10 => ?_) (fun c_10 => ?_)
      · omega
      · refine lv_aload_n hx hb dX4_first_13 rfl (lv_at hl 1 rfl) ?_
        refine lv_iload_n hx hb dX4_first_14 rfl (lv_at hl 0 rfl) ?_
        refine lv_iconst (v := nI 1) hx hb dX4_first_15 (by decide) ?_
        refine n_add hx hb dX4_first_16 ?_
        refine lv_iconst (v := mI 0) hx hb dX4_first_17 (by decide) ?_
        refine va_callv (va_runV (As := [.int (nI (k + 1)), .int (mI 0)]) (rest := []) ⟨hx, hb, hml, hown, hts⟩ (c_X4_askClaims l D cI A ad σ_1 (k + 1) 0 hIs (by omega) (by omega)) (cwV 2 hts gX4_first_X4_askClaims rfl rfl rfl (by decide +kernel) ⟨Nat.le_of_ble_eq_true rfl, Nat.le_of_ble_eq_true rfl⟩) ⟨Wc.blind, va_recv hK hP (ci := 3) (q0 := 0) rfl rfl, fun U hU hW => ⟨rfl, Wc.go hP hK hD hN hZ hS hU hW⟩⟩ rfl rfl hl.1 rfl (lv_room (Nat.le_of_ble_eq_true rfl)) dX4_first_18 ⟨Nat.zero_le _, Nat.zero_le _⟩) hS (fun q _ h => h) (fun q h => h) (fun σ_2 t H1 locs ht hvm hwσ_2 hB hz1 hk1 hS => ?_)
        obtain ⟨hP, -, hD, -⟩ := hB
        rw [ht] at hP
        generalize H1 = H at hP hS ⊢
        have hkq := KS.ofAQ hIs (by omega) hwσ_2
        have hIq := hkq.2.2
        have hcb := AQ.can hIs (by omega) hwσ_2
        have hAk := AQ.ask hIs (by omega) (hks.made hM0) hwσ_2
        refine lv_aload_n hx hb dX4_first_21 rfl (lv_at hl 1 rfl) ?_
        refine va_calli (va_runV (As := []) (rest := []) ⟨hx, hb, hml, hown, hts⟩ (c_X4_isPossible l D cI A ad σ_2 hIq ((hks.tr hkq).wf hW0) hAk) (cwV 0 hts gX4_first_X4_isPossible rfl rfl rfl (by decide +kernel) ⟨Nat.le_of_ble_eq_true rfl, Nat.le_of_ble_eq_true rfl⟩) ⟨Wc.blind, va_recv hK hP (ci := 3) (q0 := 0) rfl rfl, fun U hU hW => ⟨rfl, Wc.go hP hK hD hN hZ hS hU hW⟩⟩ rfl rfl hl.1 rfl (lv_room (Nat.le_of_ble_eq_true rfl)) dX4_first_22 ⟨Nat.zero_le _, Nat.zero_le _⟩) hS (fun q _ h => h) (fun q h => h) (fun r_4 σ_3 t H1 locs ht hvm hwσ_3 hB hz1 hk1 hS => ?_)
        obtain ⟨hr_4, hwσ_3⟩ := hwσ_3
        refine n_to (w := bI (canB σ_1 (k + 1) 0)) (by rw [hr_4, hcb]) ?_
        obtain ⟨hP, -, hD, -⟩ := hB
        rw [ht] at hP
        generalize H1 = H at hP hS ⊢
        have hks2 := hks.tr (hkq.tr (KS.ofFinds hIq hwσ_3))
        refine q_if_ne hx hb (tgt := 30) (bI_z) dX4_first_25 (by decide) (fun c_25 => ?_) (fun c_25 => ?_)
        · refine lv_iinc (v := nI (k + 1)) (lv' := [(1, .int (nI (k + 1))), (0, .ref (ad 0))]) hx hb dX4_first_30 hl (k := 0) rfl (nI_add _ _) (by decide) rfl (fun ls hl => ?_)
          refine lv_goto (tgt := 2) hx hb dX4_first_33 (by decide) ?_
          exact ih2 (k + 1)  _ _ _ _  (by omega) (hks2) (fun j q => by rcases Nat.lt_or_ge j k with z | z; exact hX j z; (obtain rfl : j = k := by omega); exact hcs.mp (canB_iff.mp (ts_nf c_25))) hP hD hS (lv_sub hl [0, 1] rfl)
        · refine lv_iload_n hx hb dX4_first_28 rfl (lv_at hl 0 rfl) ?_
          exact W.iret (v := nI k) hx hb hr (fun t ht hW => ⟨⟨_, σ_3, rfl, (⟨Or.inl ⟨k, by omega, rfl, fun q => absurd (canB_iff.mpr (hcs.mpr q)) (by rw [c_25]; decide), hX⟩, hks2⟩), Wc.go hP hK hD hN hZ hS ht hW⟩, hS.F ht⟩) hS.2.2 dX4_first_29
  exact lp2 (σ 0 2) 0  _ _ _ _ (by omega) (KS.rf hI) (fun j q => absurd q (by omega)) hP hD hS (lv_sub hl [0, 1] rfl)
theorem in_X4_terms_X4 : ∀ w ∈ wsX40, w ∈ wsX4_terms := by decide +kernel
theorem lk_X4_terms_12 : Cond.fieldLink RX4 12 "ArrayClaims" "known" "LArrayClaims$TermTable;" ∈ wsX4_terms := by decide +kernel
theorem in_X4_terms_X3 : ∀ w ∈ wsX30, w ∈ wsX4_terms := by decide +kernel
def rX4_terms : Room := { frames := 0, cells := 0, slots := 0, locals := 0 }
set_option maxHeartbeats 4000000 in
set_option maxRecDepth 100000 in
theorem c_X4_terms (l : Launch) (D : va_G) (cI : ClassId) (A : Nat → Prop) (ad : Nat → Nat) (σ : Nat → Nat → Nat)   : Met l yX4_terms wsX4_terms rX4_terms (va_Pc [.ref (ad 0)] (Wc D cI A ad σ)) (vp_Si (fun r => r = nI (σ 0 1))) 0 0 (fun _ => False) := by
  refine Met.ofW (cc := cX4_terms) (maxL := 1) (ret := (some .int)) (by decide) rfl ?_
  intro p e s m args below meth c s₁ B hml hv
  obtain ⟨rfl, hP, hK, hD, hN, hZ⟩ := hv
  have hx := B.exec
  have hb := B.bytes
  have hr := B.returns
  have hts := atoms_spec (ws := wsX4_terms) B.pre
  have hown : s.vm.findClass RX4 = some m.cls := findClass_of_methodNamed B.named
  have hlocks := B.notSynchronized
  have hS : va_S A s.heap s.heap [] := va_S.rf
  have hl := lv_entry ([.ref (ad 0)]) (n := 1) (Nat.le_of_ble_eq_true rfl)
  rw [lg_entry_eq]
  generalize (lg_sl ([.ref (ad 0)]) ++ List.replicate (1 - (lg_sl ([.ref (ad 0)])).length) Slot.unset).toArray = ls at hl ⊢
  have hl : lv_has ls 1 [(0, .ref (ad 0))] := hl
  refine lv_aload_n hx hb dX4_terms_0 rfl (lv_at hl 0 rfl) ?_
  refine va_get (D := D) (ci := 3) (v := .ref (ad 1)) (C := RX4) (T := TX4) (N := 6) hx hb hts in_X4_terms_X4 hown hK hP 0 rfl rfl 0 (by decide) (hts _ lk_X4_terms_12) (fun _ h9 => h9) rfl dX4_terms_1 ?_
  refine va_getN (D := D) (ci := 2) (v := .int (nI (σ 0 1))) (C := RX3) (T := TX3) (N := 5) hx hb hts in_X4_terms_X3 hown hK hP 1 rfl rfl 4 (by decide) (hN.use 4 rfl) (fun _ h9 => h9) rfl dX4_terms_4 ?_
  exact W.iret (v := nI (σ 0 1)) hx hb hr (fun t ht hW => ⟨_, rfl, rfl, ht⟩) no_locs dX4_terms_7
theorem in_X4_draft_X4 : ∀ w ∈ wsX40, w ∈ wsX4_draft := by decide +kernel
theorem lk_X4_draft_29 : Cond.fieldLink RX4 29 "ArrayClaims" "draftSize" "I" ∈ wsX4_draft := by decide +kernel
def rX4_draft : Room := { frames := 0, cells := 0, slots := 0, locals := 0 }
set_option maxHeartbeats 4000000 in
set_option maxRecDepth 100000 in
theorem c_X4_draft (l : Launch) (D : va_G) (cI : ClassId) (A : Nat → Prop) (ad : Nat → Nat) (σ : Nat → Nat → Nat)   : Met l yX4_draft wsX4_draft rX4_draft (va_Pc [.ref (ad 0)] (Wc D cI A ad σ)) (vp_Si (fun r => r = nI (σ 0 0))) 0 0 (fun _ => False) := by
  refine Met.ofW (cc := cX4_draft) (maxL := 1) (ret := (some .int)) (by decide) rfl ?_
  intro p e s m args below meth c s₁ B hml hv
  obtain ⟨rfl, hP, hK, hD, hN, hZ⟩ := hv
  have hx := B.exec
  have hb := B.bytes
  have hr := B.returns
  have hts := atoms_spec (ws := wsX4_draft) B.pre
  have hown : s.vm.findClass RX4 = some m.cls := findClass_of_methodNamed B.named
  have hlocks := B.notSynchronized
  have hS : va_S A s.heap s.heap [] := va_S.rf
  have hl := lv_entry ([.ref (ad 0)]) (n := 1) (Nat.le_of_ble_eq_true rfl)
  rw [lg_entry_eq]
  generalize (lg_sl ([.ref (ad 0)]) ++ List.replicate (1 - (lg_sl ([.ref (ad 0)])).length) Slot.unset).toArray = ls at hl ⊢
  have hl : lv_has ls 1 [(0, .ref (ad 0))] := hl
  refine lv_aload_n hx hb dX4_draft_0 rfl (lv_at hl 0 rfl) ?_
  refine va_get (D := D) (ci := 3) (v := .int (nI (σ 0 0))) (C := RX4) (T := TX4) (N := 6) hx hb hts in_X4_draft_X4 hown hK hP 0 rfl rfl 3 (by decide) (hts _ lk_X4_draft_29) (fun _ h9 => h9) rfl dX4_draft_1 ?_
  exact W.iret (v := nI (σ 0 0)) hx hb hr (fun t ht hW => ⟨_, rfl, rfl, ht⟩) no_locs dX4_draft_4
theorem in_X4_claims_X4 : ∀ w ∈ wsX40, w ∈ wsX4_claims := by decide +kernel
theorem lk_X4_claims_21 : Cond.fieldLink RX4 21 "ArrayClaims" "made" "LArrayClaims$ClaimList;" ∈ wsX4_claims := by decide +kernel
theorem in_X4_claims_X0 : ∀ w ∈ wsX00, w ∈ wsX4_claims := by decide +kernel
def rX4_claims : Room := { frames := 0, cells := 0, slots := 0, locals := 0 }
set_option maxHeartbeats 4000000 in
set_option maxRecDepth 100000 in
theorem c_X4_claims (l : Launch) (D : va_G) (cI : ClassId) (A : Nat → Prop) (ad : Nat → Nat) (σ : Nat → Nat → Nat)   : Met l yX4_claims wsX4_claims rX4_claims (va_Pc [.ref (ad 0)] (Wc D cI A ad σ)) (vp_Si (fun r => r = nI (σ 0 2))) 0 0 (fun _ => False) := by
  refine Met.ofW (cc := cX4_claims) (maxL := 1) (ret := (some .int)) (by decide) rfl ?_
  intro p e s m args below meth c s₁ B hml hv
  obtain ⟨rfl, hP, hK, hD, hN, hZ⟩ := hv
  have hx := B.exec
  have hb := B.bytes
  have hr := B.returns
  have hts := atoms_spec (ws := wsX4_claims) B.pre
  have hown : s.vm.findClass RX4 = some m.cls := findClass_of_methodNamed B.named
  have hlocks := B.notSynchronized
  have hS : va_S A s.heap s.heap [] := va_S.rf
  have hl := lv_entry ([.ref (ad 0)]) (n := 1) (Nat.le_of_ble_eq_true rfl)
  rw [lg_entry_eq]
  generalize (lg_sl ([.ref (ad 0)]) ++ List.replicate (1 - (lg_sl ([.ref (ad 0)])).length) Slot.unset).toArray = ls at hl ⊢
  have hl : lv_has ls 1 [(0, .ref (ad 0))] := hl
  refine lv_aload_n hx hb dX4_claims_0 rfl (lv_at hl 0 rfl) ?_
  refine va_get (D := D) (ci := 3) (v := .ref (ad 2)) (C := RX4) (T := TX4) (N := 6) hx hb hts in_X4_claims_X4 hown hK hP 0 rfl rfl 1 (by decide) (hts _ lk_X4_claims_21) (fun _ h9 => h9) rfl dX4_claims_1 ?_
  refine va_getN (D := D) (ci := 0) (v := .int (nI (σ 0 2))) (C := RX0) (T := TX0) (N := 3) hx hb hts in_X4_claims_X0 hown hK hP 2 rfl rfl 2 (by decide) (hN.use 7 rfl) (fun _ h9 => h9) rfl dX4_claims_4 ?_
  exact W.iret (v := nI (σ 0 2)) hx hb hr (fun t ht hW => ⟨_, rfl, rfl, ht⟩) no_locs dX4_claims_7
theorem in_X4_sort_X4 : ∀ w ∈ wsX40, w ∈ wsX4_sort := by decide +kernel
theorem lk_X4_sort_12 : Cond.fieldLink RX4 12 "ArrayClaims" "known" "LArrayClaims$TermTable;" ∈ wsX4_sort := by decide +kernel
def rX4_sort_in : Room := { frames := 2, cells := 0, slots := 0, locals := 42 }
set_option maxHeartbeats 4000000 in
set_option maxRecDepth 100000 in
theorem c_X4_sort_in (l : Launch) (D : va_G) (cI : ClassId) (A : Nat → Prop) (ad : Nat → Nat) (σ : Nat → Nat → Nat) (j : Nat) (hj : j < σ 0 1) (hc : σ 0 1 ≤ 24) : Met l yX4_sort wsX4_sort rX4_sort_in (va_Pc [.ref (ad 0), .int (nI j)] (Wc D cI A ad σ)) (vp_Si (fun r => r = nI (σ 6 j))) 0 0 (fun _ => False) := by
  refine Met.ofW (cc := cX4_sort) (maxL := 2) (ret := (some .int)) (by decide) rfl ?_
  intro p e s m args below meth c s₁ B hml hv
  obtain ⟨rfl, hP, hK, hD, hN, hZ⟩ := hv
  have hx := B.exec
  have hb := B.bytes
  have hr := B.returns
  have hts := atoms_spec (ws := wsX4_sort) B.pre
  have hown : s.vm.findClass RX4 = some m.cls := findClass_of_methodNamed B.named
  have hlocks := B.notSynchronized
  have hS : va_S A s.heap s.heap [] := va_S.rf
  have hl := lv_entry ([.ref (ad 0), .int (nI j)]) (n := 2) (Nat.le_of_ble_eq_true rfl)
  rw [lg_entry_eq]
  generalize (lg_sl ([.ref (ad 0), .int (nI j)]) ++ List.replicate (2 - (lg_sl ([.ref (ad 0), .int (nI j)])).length) Slot.unset).toArray = ls at hl ⊢
  have hl : lv_has ls 2 [(0, .ref (ad 0)), (1, .int (nI j))] := hl
  refine lv_aload_n hx hb dX4_sort_0 rfl (lv_at hl 0 rfl) ?_
  refine va_get (D := D) (ci := 3) (v := .ref (ad 1)) (C := RX4) (T := TX4) (N := 6) hx hb hts in_X4_sort_X4 hown hK hP 0 rfl rfl 0 (by decide) (hts _ lk_X4_sort_12) (fun _ h9 => h9) rfl dX4_sort_1 ?_
  refine lv_iload_n hx hb dX4_sort_4 rfl (lv_at hl 1 rfl) ?_
  refine vp_callSi (va_Run.run (va_runV (As := [.int (nI j)]) (rest := []) ⟨hx, hb, hml, hown, hts⟩ (c_X3_sortOf_in l D cI A ad σ j hj hc) (cwV 1 hts gX4_sort_X3_sortOf rfl rfl rfl (by decide +kernel) ⟨Nat.le_of_ble_eq_true rfl, Nat.le_of_ble_eq_true rfl⟩) ⟨Wc.blind, va_recv hK hP (ci := 2) (q0 := 1) rfl rfl, fun U hU hW => ⟨rfl, Wc.go hP hK hD hN hZ hS hU hW⟩⟩ rfl rfl hl.1 rfl (lv_room (Nat.le_of_ble_eq_true rfl)) dX4_sort_5 ⟨Nat.zero_le _, Nat.zero_le _⟩)) (fun r_1 hr_1 => ?_)
  refine n_to (w := nI (σ 6 j)) (hr_1.trans rfl) ?_
  exact W.iret (v := nI (σ 6 j)) hx hb hr (fun t ht hW => ⟨_, rfl, rfl, ht⟩) no_locs dX4_sort_8
def rX4_sort_out : Room := { frames := 2, cells := 0, slots := 0, locals := 42 }
set_option maxHeartbeats 4000000 in
set_option maxRecDepth 100000 in
theorem c_X4_sort_out (l : Launch) (D : va_G) (cI : ClassId) (A : Nat → Prop) (ad : Nat → Nat) (σ : Nat → Nat → Nat) (x : Int32) (hxo : x < 0 ∨ nI (σ 0 1) ≤ x) : Met l yX4_sort wsX4_sort rX4_sort_out (va_Pc [.ref (ad 0), .int x] (Wc D cI A ad σ)) (vp_Si (fun r => r = mI 0)) 0 0 (fun _ => False) := by
  refine Met.ofW (cc := cX4_sort) (maxL := 2) (ret := (some .int)) (by decide) rfl ?_
  intro p e s m args below meth c s₁ B hml hv
  obtain ⟨rfl, hP, hK, hD, hN, hZ⟩ := hv
  have hx := B.exec
  have hb := B.bytes
  have hr := B.returns
  have hts := atoms_spec (ws := wsX4_sort) B.pre
  have hown : s.vm.findClass RX4 = some m.cls := findClass_of_methodNamed B.named
  have hlocks := B.notSynchronized
  have hS : va_S A s.heap s.heap [] := va_S.rf
  have hl := lv_entry ([.ref (ad 0), .int x]) (n := 2) (Nat.le_of_ble_eq_true rfl)
  rw [lg_entry_eq]
  generalize (lg_sl ([.ref (ad 0), .int x]) ++ List.replicate (2 - (lg_sl ([.ref (ad 0), .int x])).length) Slot.unset).toArray = ls at hl ⊢
  have hl : lv_has ls 2 [(0, .ref (ad 0)), (1, .int x)] := hl
  refine lv_aload_n hx hb dX4_sort_0 rfl (lv_at hl 0 rfl) ?_
  refine va_get (D := D) (ci := 3) (v := .ref (ad 1)) (C := RX4) (T := TX4) (N := 6) hx hb hts in_X4_sort_X4 hown hK hP 0 rfl rfl 0 (by decide) (hts _ lk_X4_sort_12) (fun _ h9 => h9) rfl dX4_sort_1 ?_
  refine lv_iload_n hx hb dX4_sort_4 rfl (lv_at hl 1 rfl) ?_
  refine vp_callSi (va_Run.run (va_runV (As := [.int x]) (rest := []) ⟨hx, hb, hml, hown, hts⟩ (c_X3_sortOf_out l D cI A ad σ x hxo) (cwV 1 hts gX4_sort_X3_sortOf rfl rfl rfl (by decide +kernel) ⟨Nat.le_of_ble_eq_true rfl, Nat.le_of_ble_eq_true rfl⟩) ⟨Wc.blind, va_recv hK hP (ci := 2) (q0 := 1) rfl rfl, fun U hU hW => ⟨rfl, Wc.go hP hK hD hN hZ hS hU hW⟩⟩ rfl rfl hl.1 rfl (lv_room (Nat.le_of_ble_eq_true rfl)) dX4_sort_5 ⟨Nat.zero_le _, Nat.zero_le _⟩)) (fun r_1 hr_1 => ?_)
  refine n_to (w := mI 0) (hr_1.trans rfl) ?_
  exact W.iret (v := mI 0) hx hb hr (fun t ht hW => ⟨_, rfl, rfl, ht⟩) no_locs dX4_sort_8
theorem in_X4_clear_X4 : ∀ w ∈ wsX40, w ∈ wsX4_clear := by decide +kernel
theorem lk_X4_clear_29 : Cond.fieldLink RX4 29 "ArrayClaims" "draftSize" "I" ∈ wsX4_clear := by decide +kernel
def rX4_clear : Room := { frames := 0, cells := 0, slots := 0, locals := 0 }
set_option maxHeartbeats 4000000 in
set_option maxRecDepth 100000 in
theorem c_X4_clear (l : Launch) (D : va_G) (cI : ClassId) (A : Nat → Prop) (ad : Nat → Nat) (σ : Nat → Nat → Nat)   : Met l yX4_clear wsX4_clear rX4_clear (va_Pc [.ref (ad 0)] (Wc D cI A ad σ)) (va_Qv (fun u => u = sU σ 0 0 0) (fun u t => Wc D cI A ad u t) A) 0 0 A := by
  refine Met.ofW (cc := cX4_clear) (maxL := 1) (ret := none) (by decide) rfl ?_
  intro p e s m args below meth c s₁ B hml hv
  obtain ⟨rfl, hP, hK, hD, hN, hZ⟩ := hv
  have hx := B.exec
  have hb := B.bytes
  have hr := B.returns
  have hts := atoms_spec (ws := wsX4_clear) B.pre
  have hown : s.vm.findClass RX4 = some m.cls := findClass_of_methodNamed B.named
  have hlocks := B.notSynchronized
  have hS : va_S A s.heap s.heap [] := va_S.rf
  have hl := lv_entry ([.ref (ad 0)]) (n := 1) (Nat.le_of_ble_eq_true rfl)
  rw [lg_entry_eq]
  generalize (lg_sl ([.ref (ad 0)]) ++ List.replicate (1 - (lg_sl ([.ref (ad 0)])).length) Slot.unset).toArray = ls at hl ⊢
  have hl : lv_has ls 1 [(0, .ref (ad 0))] := hl
  refine lv_aload_n hx hb dX4_clear_0 rfl (lv_at hl 0 rfl) ?_
  refine lv_iconst (v := nI 0) hx hb dX4_clear_1 (by decide) ?_
  refine va_put (D := D) (ci := 3) (v := .int (nI 0)) (ty := .int) (C := RX4) (T := TX4) (N := 6) hx hb hts in_X4_clear_X4 tyX4 tyX4_ok nmX4 hown hK hP hD hS 0 rfl rfl 3 (by decide) (hts _ lk_X4_clear_29) (fun _ h9 => h9) rfl (by decide +kernel) rfl rfl (Nat.le_of_ble_eq_true rfl) dX4_clear_2 (fun H locs hP hD hS => ?_)
  have hP : va_P D vwCl (WC ad cI (sU σ 0 0 0)) H := hP
  have hD : va_D A (WC ad cI (sU σ 0 0 0)) := hD
  exact W.vret hx hb hr (fun t ht hW => ⟨⟨_, rfl, (rfl), Wc.go hP hK hD hN hZ hS ht hW⟩, hS.F ht⟩) hS.2.2 dX4_clear_5
theorem in_X4_keep_X4 : ∀ w ∈ wsX40, w ∈ wsX4_keep := by decide +kernel
theorem lk_X4_keep_21 : Cond.fieldLink RX4 21 "ArrayClaims" "made" "LArrayClaims$ClaimList;" ∈ wsX4_keep := by decide +kernel
theorem in_X4_keep_X0 : ∀ w ∈ wsX00, w ∈ wsX4_keep := by decide +kernel
def rX4_keep_in : Room := { frames := 1, cells := 0, slots := 0, locals := 21 }
set_option maxHeartbeats 4000000 in
set_option maxRecDepth 100000 in
theorem c_X4_keep_in (l : Launch) (D : va_G) (cI : ClassId) (A : Nat → Prop) (ad : Nat → Nat) (σ : Nat → Nat → Nat) (k : Nat) (hI : IC σ) (hk : k ≤ σ 0 2) : Met l yX4_keep wsX4_keep rX4_keep_in (va_Pc [.ref (ad 0), .int (nI k)] (Wc D cI A ad σ)) (va_Qi (fun r u => r = bI true ∧ u = if k < σ 0 2 then sU σ 0 2 k else σ) (fun u t => Wc D cI A ad u t) A) 0 0 A := by
  refine Met.ofW (cc := cX4_keep) (maxL := 2) (ret := (some .boolean)) (by decide) rfl ?_
  intro p e s m args below meth c s₁ B hml hv
  obtain ⟨rfl, hP, hK, hD, hN, hZ⟩ := hv
  have hx := B.exec
  have hb := B.bytes
  have hr := B.returns
  have hts := atoms_spec (ws := wsX4_keep) B.pre
  have hown : s.vm.findClass RX4 = some m.cls := findClass_of_methodNamed B.named
  have hlocks := B.notSynchronized
  have hS : va_S A s.heap s.heap [] := va_S.rf
  have hl := lv_entry ([.ref (ad 0), .int (nI k)]) (n := 2) (Nat.le_of_ble_eq_true rfl)
  rw [lg_entry_eq]
  generalize (lg_sl ([.ref (ad 0), .int (nI k)]) ++ List.replicate (2 - (lg_sl ([.ref (ad 0), .int (nI k)])).length) Slot.unset).toArray = ls at hl ⊢
  have hl : lv_has ls 2 [(0, .ref (ad 0)), (1, .int (nI k))] := hl
  have hcm := hI.claims
  refine lv_iload_n hx hb dX4_keep_0 rfl (lv_at hl 1 rfl) ?_
  refine lv_if_lt hx hb (tgt := 15) dX4_keep_1 (by decide) (fun c_1 => ?_) (fun c_1 => ?_)
  · exact absurd c_1 (nI_pos (by omega))
  · refine lv_iload_n hx hb dX4_keep_4 rfl (lv_at hl 1 rfl) ?_
    refine lv_aload_n hx hb dX4_keep_5 rfl (lv_at hl 0 rfl) ?_
    refine va_get (D := D) (ci := 3) (v := .ref (ad 2)) (C := RX4) (T := TX4) (N := 6) hx hb hts in_X4_keep_X4 hown hK hP 0 rfl rfl 1 (by decide) (hts _ lk_X4_keep_21) (fun _ h9 => h9) rfl dX4_keep_6 ?_
    refine va_getN (D := D) (ci := 0) (v := .int (nI (σ 0 2))) (C := RX0) (T := TX0) (N := 3) hx hb hts in_X4_keep_X0 hown hK hP 2 rfl rfl 2 (by decide) (hN.use 7 rfl) (fun _ h9 => h9) rfl dX4_keep_9 ?_
    refine n_icmp_le hx hb (tgt := 17) (by omega) (by omega) dX4_keep_12 (by decide) (fun c_12 => ?_) (fun c_12 => ?_)
    · refine lv_aload_n hx hb dX4_keep_17 rfl (lv_at hl 0 rfl) ?_
      refine va_get (D := D) (ci := 3) (v := .ref (ad 2)) (C := RX4) (T := TX4) (N := 6) hx hb hts in_X4_keep_X4 hown hK hP 0 rfl rfl 1 (by decide) (hts _ lk_X4_keep_21) (fun _ h9 => h9) rfl dX4_keep_18 ?_
      refine lv_iload_n hx hb dX4_keep_21 rfl (lv_at hl 1 rfl) ?_
      refine va_callv (va_runV (As := [.int (nI k)]) (rest := []) ⟨hx, hb, hml, hown, hts⟩ (c_X0_cutTo_made l D cI A ad σ k hI (by omega)) (cwV 1 hts gX4_keep_X0_cutTo rfl rfl rfl (by decide +kernel) ⟨Nat.le_of_ble_eq_true rfl, Nat.le_of_ble_eq_true rfl⟩) ⟨Wc.blind, va_recv hK hP (ci := 0) (q0 := 2) rfl rfl, fun U hU hW => ⟨rfl, Wc.go hP hK hD hN hZ hS hU hW⟩⟩ rfl rfl hl.1 rfl (lv_room (Nat.le_of_ble_eq_true rfl)) dX4_keep_22 ⟨Nat.zero_le _, Nat.zero_le _⟩) hS (fun q _ h => h) (fun q h => h) (fun σ_1 t H1 locs ht hvm hwσ_1 hB hz1 hk1 hS => ?_)
      obtain ⟨hP, -, hD, -⟩ := hB
      rw [ht] at hP
      generalize H1 = H at hP hS ⊢
      refine lv_iconst (v := nI 1) hx hb dX4_keep_25 (by decide) ?_
      exact W.zret (v := nI 1) hx hb hr (n_nar1) (fun t ht hW => ⟨⟨_, σ_1, rfl, (⟨rfl, hwσ_1⟩), Wc.go hP hK hD hN hZ hS ht hW⟩, hS.F ht⟩) hS.2.2 dX4_keep_26
    · omega
def rX4_keep_out : Room := { frames := 0, cells := 0, slots := 0, locals := 0 }
set_option maxHeartbeats 4000000 in
set_option maxRecDepth 100000 in
theorem c_X4_keep_out (l : Launch) (D : va_G) (cI : ClassId) (A : Nat → Prop) (ad : Nat → Nat) (σ : Nat → Nat → Nat) (x : Int32) (hxo : x < 0 ∨ ¬ x ≤ nI (σ 0 2)) : Met l yX4_keep wsX4_keep rX4_keep_out (va_Pc [.ref (ad 0), .int x] (Wc D cI A ad σ)) (vp_Si (fun r => r = bI false)) 0 0 (fun _ => False) := by
  refine Met.ofW (cc := cX4_keep) (maxL := 2) (ret := (some .boolean)) (by decide) rfl ?_
  intro p e s m args below meth c s₁ B hml hv
  obtain ⟨rfl, hP, hK, hD, hN, hZ⟩ := hv
  have hx := B.exec
  have hb := B.bytes
  have hr := B.returns
  have hts := atoms_spec (ws := wsX4_keep) B.pre
  have hown : s.vm.findClass RX4 = some m.cls := findClass_of_methodNamed B.named
  have hlocks := B.notSynchronized
  have hS : va_S A s.heap s.heap [] := va_S.rf
  have hl := lv_entry ([.ref (ad 0), .int x]) (n := 2) (Nat.le_of_ble_eq_true rfl)
  rw [lg_entry_eq]
  generalize (lg_sl ([.ref (ad 0), .int x]) ++ List.replicate (2 - (lg_sl ([.ref (ad 0), .int x])).length) Slot.unset).toArray = ls at hl ⊢
  have hl : lv_has ls 2 [(0, .ref (ad 0)), (1, .int x)] := hl
  refine lv_iload_n hx hb dX4_keep_0 rfl (lv_at hl 1 rfl) ?_
  refine lv_if_lt hx hb (tgt := 15) dX4_keep_1 (by decide) (fun c_1 => ?_) (fun c_1 => ?_)
  · refine lv_iconst (v := nI 0) hx hb dX4_keep_15 (by decide) ?_
    exact W.zret (v := nI 0) hx hb hr (n_nar0) (fun t ht hW => ⟨_, rfl, rfl, ht⟩) no_locs dX4_keep_16
  · refine lv_iload_n hx hb dX4_keep_4 rfl (lv_at hl 1 rfl) ?_
    refine lv_aload_n hx hb dX4_keep_5 rfl (lv_at hl 0 rfl) ?_
    refine va_get (D := D) (ci := 3) (v := .ref (ad 2)) (C := RX4) (T := TX4) (N := 6) hx hb hts in_X4_keep_X4 hown hK hP 0 rfl rfl 1 (by decide) (hts _ lk_X4_keep_21) (fun _ h9 => h9) rfl dX4_keep_6 ?_
    refine va_getN (D := D) (ci := 0) (v := .int (nI (σ 0 2))) (C := RX0) (T := TX0) (N := 3) hx hb hts in_X4_keep_X0 hown hK hP 2 rfl rfl 2 (by decide) (hN.use 7 rfl) (fun _ h9 => h9) rfl dX4_keep_9 ?_
    refine lv_icmp_le hx hb (tgt := 17) dX4_keep_12 (by decide) (fun c_12 => ?_) (fun c_12 => ?_)
    · exact absurd hxo (fun q => q.elim c_1 (fun z => z c_12))
    · refine lv_iconst (v := nI 0) hx hb dX4_keep_15 (by decide) ?_
      exact W.zret (v := nI 0) hx hb hr (n_nar0) (fun t ht hW => ⟨_, rfl, rfl, ht⟩) no_locs dX4_keep_16
