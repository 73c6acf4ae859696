/-! WHAT TERMS ARE in a way: their spots, by the terms' table alone; what 'finds' answers -/
def WF (σ : Nat → Nat → Nat) : Prop := σ 6 0 = 0 ∧ σ 6 1 = 0 ∧ σ 6 2 = 0 ∧ σ 6 3 = 1 ∧ σ 6 4 = 1 ∧ σ 6 5 = 2 ∧ σ 6 6 = 2 ∧ ∀ t, 7 ≤ t → t < σ 0 1 → σ 6 (σ 7 t - 1) = 2 ∧ (σ 6 t ≠ 1 → σ 6 (σ 9 t - 1) = 1)
def PcF (σ : Nat → Nat → Nat) (w : Nat) : Nat → Nat → Nat → Nat
  | 0, _, _ => 0
  | n + 1, t, j => if t < 3 then lowF (w * 3 + t) else if t < 5 then t - 3 else if t < 7 then 2 + (t - 5) * 4 + lpF w j else if σ 6 t = 1 then PcF σ w n (σ 7 t - 1) (lowF (w * 3 + (σ 8 t - 1))) else if j ≠ 3 ∧ lowF (w * 3 + j) = lowF (w * 3 + (σ 8 t - 1)) then PcF σ w n (σ 9 t - 1) 0 else PcF σ w n (σ 7 t - 1) j
def den (σ : Nat → Nat → Nat) (w t j : Nat) : Nat := PcF σ w 25 t j
theorem Pc_of {σ : Nat → Nat → Nat} {w : Nat} {P : Nat → Nat} (hI : IC σ) (hW : WF σ) (hN : PN w P) (hT : ∀ t, 7 ≤ t → t < σ 0 1 → PT σ w P t) : ∀ n t j, t < n → t < σ 0 1 → j < 4 → (σ 6 t ≠ 2 → j = 0) → P (t * 4 + j) = PcF σ w n t j := by
  intro n
  induction n with
  | zero => intro t j h; omega
  | succ n ih =>
    intro t j hn ht hj hs
    obtain ⟨s0, s1, s2, s3, s4, s5, s6, hw⟩ := id hW
    unfold PcF
    by_cases h3 : t < 3
    · rw [if_pos h3]
      have : j = 0 := hs (by rcases (show t = 0 ∨ t = 1 ∨ t = 2 by omega) with rfl | rfl | rfl <;> omega)
      rw [this]; exact hN.1 t h3
    · rw [if_neg h3]
      by_cases h5 : t < 5
      · rw [if_pos h5]
        have : j = 0 := hs (by rcases (show t = 3 ∨ t = 4 by omega) with rfl | rfl <;> omega)
        rw [this]
        have := hN.2.1 (t - 3) (by omega)
        rw [show (3 + (t - 3)) * 4 = t * 4 + 0 by omega] at this
        exact this
      · rw [if_neg h5]
        by_cases h7 : t < 7
        · rw [if_pos h7]
          have := hN.2.2 (t - 5) (by omega) j hj
          rw [show (5 + (t - 5)) * 4 = t * 4 by omega] at this
          exact this
        · rw [if_neg h7]
          have hm := hI.made (j := t) (by omega) ht
          obtain ⟨w1, w2⟩ := hw t (by omega) ht
          obtain ⟨p1, p2⟩ := hT t (by omega) ht
          by_cases hq : σ 6 t = 1
          · rw [if_pos hq]
            have : j = 0 := hs (by omega)
            rw [this]
            have hl := lowF_le (w * 3 + (σ 8 t - 1))
            rw [← ih (σ 7 t - 1) _ (by omega) (by omega) (by omega) (fun q => absurd w1 q)]
            exact p1 hq
          · rw [if_neg hq]
            rw [p2 hq j hj]
            unfold sv
            split
            · rw [← ih (σ 9 t - 1) 0 (by omega) (by omega) (by omega) (fun _ => rfl)]
              rfl
            · rw [← ih (σ 7 t - 1) j (by omega) (by omega) hj (fun q => absurd w1 q)]
def eqD (σ : Nat → Nat → Nat) (w : Nat) (V : Nat → Nat) (t u : Nat) : Prop := (σ 6 t = 0 → den σ w t 0 = den σ w u 0) ∧ (σ 6 t ≠ 0 → ∀ j, j < widF (σ 6 t) → V (den σ w t j) = V (den σ w u j))
def LD (σ : Nat → Nat → Nat) (w : Nat) (V : Nat → Nat) (v : Nat) : Prop := saysB v = true ↔ eqD σ w V (v % 32) (v / 32 % 32)
/-- a literal about terms that are there, of one sort -/
def litW (σ : Nat → Nat → Nat) (v : Nat) : Prop := v % 32 < σ 0 1 ∧ v / 32 % 32 < σ 0 1 ∧ σ 6 (v % 32) = σ 6 (v / 32 % 32)
def AskW (σ : Nat → Nat → Nat) : Prop := ∀ cl, cl < σ 0 4 → ∀ k, k < σ 13 cl → litW σ (σ 12 (cl * 3 + k))
def SatA (σ : Nat → Nat → Nat) (w : Nat) : Prop := ∃ V : Nat → Nat, V 5 = 0 ∧ RngV V ∧ ∀ cl, cl < σ 0 4 → ∃ k, k < σ 13 cl ∧ LD σ w V (σ 12 (cl * 3 + k))
def fdP (σ : Nat → Nat → Nat) (lo hi : Nat) : Prop := ∃ w, w < 5 ∧ lo ≤ difF w ∧ difF w ≤ hi ∧ SatA σ w
noncomputable def fdB (σ : Nat → Nat → Nat) (lo hi : Nat) : Bool := @decide (fdP σ lo hi) (Classical.propDecidable _)
theorem fdB_t {σ : Nat → Nat → Nat} {lo hi : Nat} (h : fdP σ lo hi) : fdB σ lo hi = true := @decide_eq_true _ (Classical.propDecidable _) h
theorem fdB_f {σ : Nat → Nat → Nat} {lo hi : Nat} (h : ¬ fdP σ lo hi) : fdB σ lo hi = false := @decide_eq_false _ (Classical.propDecidable _) h
theorem fdB_iff {σ : Nat → Nat → Nat} {lo hi : Nat} : fdB σ lo hi = true ↔ fdP σ lo hi := by
  by_cases h : fdP σ lo hi
  · exact ⟨fun _ => h, fun _ => fdB_t h⟩
  · constructor
    · intro q; rw [fdB_f h] at q; cases q
    · intro q; exact absurd q h
theorem lit_eq {σ u : Nat → Nat → Nat} {w v : Nat} {V : Nat → Nat} (hI : IC σ) (hW : WF σ) (hO : ∀ r, r ≠ 14 → r ≠ 15 → u r = σ r) (hN : PN w (u 14)) (hT : ∀ t, 7 ≤ t → t < σ 0 1 → PT σ w (u 14) t) (hl : litW σ v) : LTV u V v ↔ LD σ w V v := by
  obtain ⟨h1, h2, h3⟩ := hl
  have hc := hI.terms
  have e : ∀ t, t < σ 0 1 → ∀ j, j < 4 → (σ 6 t ≠ 2 → j = 0) → u 14 (t * 4 + j) = den σ w t j := fun t ht j hj hs => Pc_of hI hW hN hT 25 t j (by omega) ht hj hs
  have h6 := hO 6 (by decide) (by decide)
  have hw := widF_le (σ 6 (v % 32))
  have hw2 : σ 6 (v % 32) ≠ 2 → widF (σ 6 (v % 32)) = 1 := fun q => by unfold widF; rw [if_neg q]
  unfold LTV LD eqV eqD
  rw [h6]
  have a0 : u 14 (v % 32 * 4) = den σ w (v % 32) 0 := e _ h1 0 (by omega) (fun _ => rfl)
  have b0 : u 14 (v / 32 % 32 * 4) = den σ w (v / 32 % 32) 0 := e _ h2 0 (by omega) (fun _ => rfl)
  have aj : ∀ j, j < widF (σ 6 (v % 32)) → u 14 (v % 32 * 4 + j) = den σ w (v % 32) j := fun j hj => e _ h1 j (by omega) (fun q => by have := hw2 q; omega)
  have bj : ∀ j, j < widF (σ 6 (v % 32)) → u 14 (v / 32 % 32 * 4 + j) = den σ w (v / 32 % 32) j := fun j hj => e _ h2 j (by omega) (fun q => by have := hw2 (by rw [h3]; exact q); omega)
  rw [a0, b0]
  constructor
  · intro h
    rw [h]
    exact ⟨fun q => ⟨q.1, fun z j hj => by rw [← aj j hj, ← bj j hj]; exact q.2 z j hj⟩, fun q => ⟨q.1, fun z j hj => by rw [aj j hj, bj j hj]; exact q.2 z j hj⟩⟩
  · intro h
    rw [h]
    exact ⟨fun q => ⟨q.1, fun z j hj => by rw [aj j hj, bj j hj]; exact q.2 z j hj⟩, fun q => ⟨q.1, fun z j hj => by rw [← aj j hj, ← bj j hj]; exact q.2 z j hj⟩⟩
theorem IC.swap {σ u : Nat → Nat → Nat} (hI : IC σ) (hO : ∀ r, r ≠ 14 → r ≠ 15 → u r = σ r) (hB : ∀ j, j < 96 → u 14 j < 10) (hC : ∀ j, j < 10 → u 15 j ≤ 20) : IC u := by
  unfold IC
  rw [hO 0 (by decide) (by decide), hO 6 (by decide) (by decide), hO 7 (by decide) (by decide), hO 8 (by decide) (by decide), hO 9 (by decide) (by decide), hO 3 (by decide) (by decide), hO 10 (by decide) (by decide), hO 11 (by decide) (by decide), hO 12 (by decide) (by decide), hO 13 (by decide) (by decide)]
  obtain ⟨h1, h2, h3, h4, h5, h6, h7, h8, h9, h10, h11, h12, h13, h14⟩ := hI
  exact ⟨h1, h2, h3, h4, h5, h6, h7, h8, h9, h10, h11, h12, hB, hC⟩
/-- the state in which the search begins -/
theorem begun {σ u : Nat → Nat → Nat} {w : Nat} (hI : IC σ) (hW : WF σ) (hA : AskW σ) (hO : ∀ r, r ≠ 14 → r ≠ 15 → u r = σ r) (hB : ∀ j, j < 96 → u 14 j < 10) (hN : PN w (u 14)) (hT : ∀ t, 7 ≤ t → t < σ 0 1 → PT σ w (u 14) t) (h15 : ∀ j, j < 10 → u 15 j = if j = 5 then 1 else 0) : IC u ∧ opn u = 9 ∧ (cmpF 10 u 2 = true ↔ SatA σ w) := by
  have hC : ∀ j, j < 10 → u 15 j ≤ 20 := fun j hj => by rw [h15 j hj]; split <;> omega
  have hIu := hI.swap hO hB hC
  have ho : opn u = 9 := by unfold opn; rw [h15 0 (by omega), h15 1 (by omega), h15 2 (by omega), h15 3 (by omega), h15 4 (by omega), h15 5 (by omega), h15 6 (by omega), h15 7 (by omega), h15 8 (by omega), h15 9 (by omega)]; rfl
  refine ⟨hIu, ho, ?_⟩
  have hCh : ChS u 2 := ⟨by rw [h15 5 (by omega)]; rfl, by rw [h15 9 (by omega)]; decide, by omega, fun j hj h5 h9 h0 => absurd (by rw [h15 j hj, if_neg h5]) h0⟩
  rw [cmp_iff hIu hCh (by omega) (by omega)]
  have h0 : u 0 4 = σ 0 4 := by rw [hO 0 (by decide) (by decide)]
  have h12 := hO 12 (by decide) (by decide)
  have h13 := hO 13 (by decide) (by decide)
  constructor
  · rintro ⟨V, hE, hR, hV⟩
    refine ⟨V, ?_, hR, fun cl hc => ?_⟩
    · have := hE 5 (by omega) (by rw [h15 5 (by omega)]; decide)
      rw [h15 5 (by omega)] at this
      have e : (if (5 : Nat) = 5 then 1 else 0) = 1 := rfl
      omega
    · obtain ⟨k, hk, hl⟩ := hV cl (by omega)
      rw [h13] at hk
      rw [h12] at hl
      exact ⟨k, hk, (lit_eq hI hW hO hN hT (hA cl hc k hk)).mp hl⟩
  · rintro ⟨V, h5, hR, hV⟩
    refine ⟨V, fun j hj h0 => ?_, hR, fun cl hc => ?_⟩
    · rw [h15 j hj] at h0 ⊢
      split at h0
      · rename_i q; rw [if_pos q, q, h5]
      · exact absurd rfl h0
    · obtain ⟨k, hk, hl⟩ := hV cl (by omega)
      refine ⟨k, by rw [h13]; exact hk, ?_⟩
      rw [h12]
      exact (lit_eq hI hW hO hN hT (hA cl (by omega) k hk)).mpr hl
theorem difF_le (w : Nat) : difF w ≤ 3 := by
  by_cases h : w < 5
  · revert w; decide +kernel
  · have hl : difT.length = 5 := rfl
    unfold difF
    rw [List.getD_eq_getElem?_getD, List.getElem?_eq_none (by omega)]
    exact Nat.zero_le _
theorem PT_rows {σ s : Nat → Nat → Nat} {w t : Nat} {P : Nat → Nat} (hO : ∀ r, r ≠ 14 → r ≠ 15 → s r = σ r) (h : PT s w P t) : PT σ w P t := by
  unfold PT sv at h ⊢
  rw [hO 6 (by decide) (by decide), hO 7 (by decide) (by decide), hO 8 (by decide) (by decide), hO 9 (by decide) (by decide)] at h
  exact h
theorem lk_X2_finds_18 : Cond.fieldLink RX2 18 "ArrayClaims$ReadingSearch" "DIFFERENT" "[I" ∈ wsX2_finds := by decide +kernel
theorem in_X2_finds_X2 : ∀ w ∈ wsX20, w ∈ wsX2_finds := by decide +kernel
theorem lk_X2_finds_15 : Cond.fieldLink RX2 15 "ArrayClaims$ReadingSearch" "chosen" "[I" ∈ wsX2_finds := by decide +kernel
def rX2_finds : Room := { frames := 14, cells := 0, slots := 0, locals := 459 }
set_option maxHeartbeats 4000000 in
set_option maxRecDepth 100000 in
theorem c_X2_finds (l : Launch) (D : va_G) (cI : ClassId) (A : Nat → Prop) (ad : Nat → Nat) (σ : Nat → Nat → Nat) (lo hi : Nat) (hI : IC σ) (hW0 : WF σ) (hA0 : AskW σ) (hlo : lo ≤ 3) (hhi : hi ≤ 3) : Met l yX2_finds wsX2_finds rX2_finds (va_Pc [.ref (ad 5), .ref (ad 1), .ref (ad 4), .int (nI lo), .int (nI hi)] (Wc D cI A ad σ)) (va_Qi (fun r u => r = bI (fdB σ lo hi) ∧ (∀ r, r ≠ 14 → r ≠ 15 → u r = σ r) ∧ (∀ j, j < 96 → u 14 j < 10) ∧ (∀ j, j < 10 → u 15 j ≤ 20)) (fun u t => Wc D cI A ad u t) A) 0 0 A := by
  refine Met.ofW (cc := cX2_finds) (maxL := 6) (ret := (some .boolean)) (by decide) rfl ?_
  intro p e s m args below meth c s₁ B hml hv
  obtain ⟨rfl, hP, hK, hD, hN, hZ⟩ := hv
  have hx := B.exec
  have hb := B.bytes
  have hr := B.returns
  have hts := atoms_spec (ws := wsX2_finds) B.pre
  have hown : s.vm.findClass RX2 = some m.cls := findClass_of_methodNamed B.named
  have hlocks := B.notSynchronized
  have hS : va_S A s.heap s.heap [] := va_S.rf
  have hl := lv_entry ([.ref (ad 5), .ref (ad 1), .ref (ad 4), .int (nI lo), .int (nI hi)]) (n := 6) (Nat.le_of_ble_eq_true rfl)
  rw [lg_entry_eq]
  generalize (lg_sl ([.ref (ad 5), .ref (ad 1), .ref (ad 4), .int (nI lo), .int (nI hi)]) ++ List.replicate (6 - (lg_sl ([.ref (ad 5), .ref (ad 1), .ref (ad 4), .int (nI lo), .int (nI hi)])).length) Slot.unset).toArray = ls at hl ⊢
  have hl : lv_has ls 6 [(0, .ref (ad 5)), (1, .ref (ad 1)), (2, .ref (ad 4)), (3, .int (nI lo)), (4, .int (nI hi))] := hl
  refine lv_iconst (v := nI 0) hx hb dX2_finds_0 (by decide) ?_
  refine lv_istore (lv' := [(5, .int (nI 0)), (0, .ref (ad 5)), (1, .ref (ad 1)), (2, .ref (ad 4)), (3, .int (nI lo)), (4, .int (nI hi))]) hx hb dX2_finds_1 hl (by decide) rfl (fun ls hl => ?_)
  have lp3 : ∀ (n : Nat) (w : Nat) (σ_1 : Nat → Nat → Nat) (H : Heap) (locs : List Loc) (ls : Array Slot), (w + n = 5) → (∀ r, r ≠ 14 → r ≠ 15 → σ_1 r = σ r) → (∀ j, j < 96 → σ_1 14 j < 10) → (∀ j, j < 10 → σ_1 15 j ≤ 20) → (∀ w1, w1 < w → lo ≤ difF w1 → difF w1 ≤ hi → ¬ SatA σ w1) → va_P D vwCl (WC ad cI σ_1) H → va_D A (WC ad cI σ_1) → va_S A s.heap H locs → lv_has ls 6 [(5, .int (nI w)), (0, .ref (ad 5)), (1, .ref (ad 1)), (2, .ref (ad 4)), (3, .int (nI lo)), (4, .int (nI hi))] → W p l e rX2_finds s m (([.ref (ad 5), .ref (ad 1), .ref (ad 4), .int (nI lo), .int (nI hi)] : List Value).toArray) below meth c H locs 0 0 (MQ below (va_Qi (fun r u => r = bI (fdB σ lo hi) ∧ (∀ r, r ≠ 14 → r ≠ 15 → u r = σ r) ∧ (∀ j, j < 96 → u 14 j < 10) ∧ (∀ j, j < 10 → u 15 j ≤ 20)) (fun u t => Wc D cI A ad u t) A) (([.ref (ad 5), .ref (ad 1), .ref (ad 4), .int (nI lo), .int (nI hi)] : List Value).toArray) s 0 0 A) (F0 m 3 ls []) := by
    intro n
    induction n with
    | zero =>
      intro w σ_1 H locs ls hF1 hO hB hC hX hP hD hS hl
      refine lv_iload hx hb dX2_finds_3 (lv_at hl 0 rfl) ?_
      refine lv_iconst (v := nI 5) hx hb dX2_finds_5 (by decide) ?_
      refine n_icmp_ge hx hb (tgt := 71) (by omega) (by omega) dX2_finds_6 (by decide) (fun c_6 => ?_) (fun c_6 => ?_)
      · have hsat : fdB σ lo hi = false := fdB_f (fun ⟨w1, q, q1, q2, q3⟩ => hX w1 (by omega) q1 q2 q3)
        refine lv_iconst (v := nI 0) hx hb dX2_finds_71 (by decide) ?_
        exact W.zret (v := nI 0) hx hb hr (n_nar0) (fun t ht hW => ⟨⟨_, σ_1, rfl, (⟨by rw [hsat]; rfl, hO, hB, hC⟩), Wc.go hP hK hD hN hZ hS ht hW⟩, hS.F ht⟩) hS.2.2 dX2_finds_72
      · omega
    | succ n ih3 =>
      intro w σ_1 H locs ls hF1 hO hB hC hX hP hD hS hl
      have hdf := difF_le w
      refine lv_iload hx hb dX2_finds_3 (lv_at hl 0 rfl) ?_
      refine lv_iconst (v := nI 5) hx hb dX2_finds_5 (by decide) ?_
      refine n_icmp_ge hx hb (tgt := 71) (by omega) (by omega) dX2_finds_6 (by decide) (fun c_6 => ?_) (fun c_6 => ?_)
      · omega
      · obtain ⟨t1, t2, hZ1, hT1, hZ2, hT2⟩ := id hZ
        refine va_gets hx hb hZ2 hS hown (hts _ lk_X2_finds_18) (fun _ h9 => h9) dX2_finds_9 ?_
        refine lv_iload hx hb dX2_finds_12 (lv_at hl 0 rfl) ?_
        refine n_tld hx hb hT2 hS (i := w) (by omega) (by decide) dX2_finds_14 ?_
        refine lv_iload_n hx hb dX2_finds_15 rfl (lv_at hl 4 rfl) ?_
        refine n_icmp_lt hx hb (tgt := 65) (by omega) (by omega) dX2_finds_16 (by decide) (fun c_16 => ?_) (fun c_16 => ?_)
        · refine lv_iinc (v := nI (w + 1)) (lv' := [(5, .int (nI (w + 1))), (0, .ref (ad 5)), (1, .ref (ad 1)), (2, .ref (ad 4)), (3, .int (nI lo)), (4, .int (nI hi))]) hx hb dX2_finds_65 hl (k := 0) rfl (nI_add _ _) (by decide) rfl (fun ls hl => ?_)
          refine lv_goto (tgt := 3) hx hb dX2_finds_68 (by decide) ?_
          exact ih3 (w + 1)  _ _ _ _  (by omega) (hO) (hB) (hC) (fun w1 q q1 q2 => by rcases Nat.lt_or_ge w1 w with z | z; exact hX w1 z q1 q2; (obtain rfl : w1 = w := by omega); omega) hP hD hS (lv_sub hl [0, 1, 2, 3, 4, 5] rfl)
        · refine va_gets hx hb hZ2 hS hown (hts _ lk_X2_finds_18) (fun _ h9 => h9) dX2_finds_19 ?_
          refine lv_iload hx hb dX2_finds_22 (lv_at hl 0 rfl) ?_
          refine n_tld hx hb hT2 hS (i := w) (by omega) (by decide) dX2_finds_24 ?_
          refine lv_iload hx hb dX2_finds_25 (lv_at hl 5 rfl) ?_
          refine n_icmp_gt hx hb (tgt := 65) (by omega) (by omega) dX2_finds_27 (by decide) (fun c_27 => ?_) (fun c_27 => ?_)
          · refine lv_iinc (v := nI (w + 1)) (lv' := [(5, .int (nI (w + 1))), (0, .ref (ad 5)), (1, .ref (ad 1)), (2, .ref (ad 4)), (3, .int (nI lo)), (4, .int (nI hi))]) hx hb dX2_finds_65 hl (k := 0) rfl (nI_add _ _) (by decide) rfl (fun ls hl => ?_)
            refine lv_goto (tgt := 3) hx hb dX2_finds_68 (by decide) ?_
            exact ih3 (w + 1)  _ _ _ _  (by omega) (hO) (hB) (hC) (fun w1 q q1 q2 => by rcases Nat.lt_or_ge w1 w with z | z; exact hX w1 z q1 q2; (obtain rfl : w1 = w := by omega); omega) hP hD hS (lv_sub hl [0, 1, 2, 3, 4, 5] rfl)
          · refine lv_aload_n hx hb dX2_finds_30 rfl (lv_at hl 1 rfl) ?_
            refine lv_aload_n hx hb dX2_finds_31 rfl (lv_at hl 2 rfl) ?_
            refine lv_iload hx hb dX2_finds_32 (lv_at hl 0 rfl) ?_
            refine va_callv (va_runV (As := [.ref (ad 1), .int (nI w)]) (rest := []) ⟨hx, hb, hml, hown, hts⟩ (c_X2_spellOut l D cI A ad σ_1 w (hI.swap hO hB hC) (by omega)) (cwV 2 hts gX2_finds_X2_spellOut rfl rfl rfl (by decide +kernel) ⟨Nat.le_of_ble_eq_true rfl, Nat.le_of_ble_eq_true rfl⟩) ⟨Wc.blind, va_recv hK hP (ci := 1) (q0 := 5) rfl rfl, fun U hU hW => ⟨rfl, Wc.go hP hK hD hN hZ hS hU hW⟩⟩ rfl rfl hl.1 rfl (lv_room (Nat.le_of_ble_eq_true rfl)) dX2_finds_34 ⟨Nat.zero_le _, Nat.zero_le _⟩) hS (fun q _ h => h) (fun q h => h) (fun σ_2 t H1 locs ht hvm hwσ_2 hB hz1 hk1 hS => ?_)
            obtain ⟨hP, -, hD, -⟩ := hB
            rw [ht] at hP
            generalize H1 = H at hP hS ⊢
            refine lv_aload_n hx hb dX2_finds_37 rfl (lv_at hl 1 rfl) ?_
            refine va_get (D := D) (ci := 1) (v := .ref (ad 15)) (C := RX2) (T := TX2) (N := 2) hx hb hts in_X2_finds_X2 hown hK hP 5 rfl rfl 1 (by decide) (hts _ lk_X2_finds_15) (fun _ h9 => h9) rfl dX2_finds_38 ?_
            refine lv_iconst (v := mI 0) hx hb dX2_finds_41 (by decide) ?_
            refine va_callv (va_runS (As := [.ref (ad 15), .int (mI 0)]) (rest := []) ⟨hx, hb, hml, hown, hts⟩ (c_J7_fill_53178 l D cI A ad σ_2 ) (va_cwS 2 hts gX2_finds_J7_fill_53178 rfl rfl rfl (by decide +kernel) ⟨Nat.le_of_ble_eq_true rfl, Nat.le_of_ble_eq_true rfl⟩) ⟨Wc.blind, fun U hU hW => ⟨rfl, Wc.go hP hK hD hN hZ hS hU hW⟩⟩ rfl rfl hl.1 rfl (lv_room (Nat.le_of_ble_eq_true rfl)) dX2_finds_42 ⟨Nat.zero_le _, Nat.zero_le _⟩) hS (fun q _ h => h) (fun q h => h) (fun σ_3 t H1 locs ht hvm hwσ_3 hB hz1 hk1 hS => ?_)
            obtain ⟨hP, -, hD, -⟩ := hB
            rw [ht] at hP
            generalize H1 = H at hP hS ⊢
            refine lv_aload_n hx hb dX2_finds_45 rfl (lv_at hl 1 rfl) ?_
            refine va_get (D := D) (ci := 1) (v := .ref (ad 15)) (C := RX2) (T := TX2) (N := 2) hx hb hts in_X2_finds_X2 hown hK hP 5 rfl rfl 1 (by decide) (hts _ lk_X2_finds_15) (fun _ h9 => h9) rfl dX2_finds_46 ?_
            refine lv_iconst (v := nI 5) hx hb dX2_finds_49 (by decide) ?_
            refine lv_iconst (v := nI 0) hx hb dX2_finds_50 (by decide) ?_
            refine n_to (mI_succ _).symm ?_
            refine n_ast (ws' := WC ad cI (sU σ_3 15 5 (0 + 1))) hx hb hK hP hD hS 15 0 rfl rfl (i := 5) (by omega) (by decide) (WCs15 ..) dX2_finds_51 (fun H locs hP hD hS => ?_)
            obtain ⟨u1, hu1⟩ : ∃ z, z = sU σ_3 15 5 (0 + 1) := ⟨_, rfl⟩
            rw [← hu1] at hP hD
            have hOu : ∀ r, r ≠ 14 → r ≠ 15 → u1 r = σ r := fun r h14 h15 => by rw [hu1, sU_ne _ _ _ h15, hwσ_3.1 r h15, hwσ_2.1 r h14]; exact hO r h14 h15
            have h14u : u1 14 = σ_2 14 := by rw [hu1, sU_ne _ _ _ (by decide), hwσ_3.1 14 (by decide)]
            have hBu : ∀ j, j < 96 → u1 14 j < 10 := fun j hj => by rw [h14u]; exact hwσ_2.2.1 j hj
            have h15u : ∀ j, j < 10 → u1 15 j = if j = 5 then 1 else 0 := fun j hj => by rw [hu1, sU_at]; split; rfl; exact hwσ_3.2 j hj
            have hCu : ∀ j, j < 10 → u1 15 j ≤ 20 := fun j hj => by rw [h15u j hj]; split <;> omega
            obtain ⟨hIu, hop, hbg⟩ := begun (w := w) hI hW0 hA0 hOu hBu (by rw [h14u]; exact hwσ_2.2.2.1) (fun t q1 q2 => by rw [h14u]; exact PT_rows hO (hwσ_2.2.2.2 t q1 (by rw [hO 0 (by decide) (by decide)]; exact q2))) h15u
            refine lv_aload_n hx hb dX2_finds_52 rfl (lv_at hl 1 rfl) ?_
            refine lv_aload_n hx hb dX2_finds_53 rfl (lv_at hl 2 rfl) ?_
            refine lv_aload_n hx hb dX2_finds_54 rfl (lv_at hl 3 rfl) ?_
            refine lv_iconst (v := nI 2) hx hb dX2_finds_55 (by decide) ?_
            refine lv_iconst (v := nI 0) hx hb dX2_finds_56 (by decide) ?_
            refine va_calli (va_runV (As := [.ref (ad 1), .ref (ad 4), .int (nI 2), .int (nI 0)]) (rest := []) ⟨hx, hb, hml, hown, hts⟩ (c_X2_completes l D cI A ad 10 (u1) 2 0 hIu (by omega) (by omega) (by omega) (by omega)) (cwV 4 hts gX2_finds_X2_completes rfl rfl rfl (by decide +kernel) ⟨Nat.le_of_ble_eq_true rfl, Nat.le_of_ble_eq_true rfl⟩) ⟨Wc.blind, va_recv hK hP (ci := 1) (q0 := 5) rfl rfl, fun U hU hW => ⟨rfl, Wc.go hP hK hD hN hZ hS hU hW⟩⟩ rfl rfl hl.1 rfl (lv_room (Nat.le_of_ble_eq_true rfl)) dX2_finds_57 ⟨Nat.zero_le _, Nat.zero_le _⟩) hS (fun q _ h => h) (fun q h => h) (fun r_5 σ_4 t H1 locs ht hvm hwσ_4 hB hz1 hk1 hS => ?_)
            obtain ⟨hr_5, hwσ_4⟩ := hwσ_4
            refine n_to (w := bI (cmpF 10 (u1) 2)) (hr_5) ?_
            obtain ⟨hP, -, hD, -⟩ := hB
            rw [ht] at hP
            generalize H1 = H at hP hS ⊢
            refine q_if_eq hx hb (tgt := 65) (bI_z) dX2_finds_60 (by decide) (fun c_60 => ?_) (fun c_60 => ?_)
            · have huu := hwσ_4.1 c_60
              rw [huu] at hP hD
              refine lv_iinc (v := nI (w + 1)) (lv' := [(5, .int (nI (w + 1))), (0, .ref (ad 5)), (1, .ref (ad 1)), (2, .ref (ad 4)), (3, .int (nI lo)), (4, .int (nI hi))]) hx hb dX2_finds_65 hl (k := 0) rfl (nI_add _ _) (by decide) rfl (fun ls hl => ?_)
              refine lv_goto (tgt := 3) hx hb dX2_finds_68 (by decide) ?_
              exact ih3 (w + 1)  _ _ _ _  (by omega) (hOu) (hBu) (hCu) (fun w1 q q1 q2 => by rcases Nat.lt_or_ge w1 w with z | z; exact hX w1 z q1 q2; (obtain rfl : w1 = w := by omega); exact fun s => absurd (hbg.mpr s) (by rw [c_60]; decide)) hP hD hS (lv_sub hl [0, 1, 2, 3, 4, 5] rfl)
            · have hsat : fdB σ lo hi = true := fdB_t ⟨w, by omega, c_16, c_27, hbg.mp (ts_nf c_60)⟩
              refine lv_iconst (v := nI 1) hx hb dX2_finds_63 (by decide) ?_
              exact W.zret (v := nI 1) hx hb hr (n_nar1) (fun t ht hW => ⟨⟨_, σ_4, rfl, (⟨by rw [hsat]; rfl, fun r h14 h15 => by rw [hwσ_4.2.1 r h15]; exact hOu r h14 h15, fun j hj => by rw [hwσ_4.2.1 14 (by decide)]; exact hBu j hj, hwσ_4.2.2⟩), Wc.go hP hK hD hN hZ hS ht hW⟩, hS.F ht⟩) hS.2.2 dX2_finds_64
  exact lp3 5 0  _ _ _ _ (by omega) (fun _ _ _ => rfl) (fun j hj => hI.parts hj) (fun j hj => hI.chosen hj) (fun w1 q => absurd q (by omega)) hP hD hS (lv_sub hl [0, 1, 2, 3, 4, 5] rfl)
