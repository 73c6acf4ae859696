/-! SPELLING OUT: what 'parts' is, by equations -/
theorem mI_pos {v : Nat} (h : 1 ≤ v) : mI v = nI (v - 1) := by
  obtain ⟨k, rfl⟩ : ∃ k, v = k + 1 := ⟨v - 1, by omega⟩
  rw [mI_succ]; rfl
theorem lowF_le (j : Nat) : lowF j ≤ 2 := by
  by_cases h : j < 15
  · revert j; decide +kernel
  · have hl : lowT.length = 15 := rfl
    unfold lowF
    rw [List.getD_eq_getElem?_getD, List.getElem?_eq_none (by omega)]
    exact Nat.zero_le _
def lpF (w pl : Nat) : Nat := if pl = 3 then 3 else lowF (w * 3 + pl)
def PN (w : Nat) (P : Nat → Nat) : Prop := (∀ t, t < 3 → P (t * 4) = lowF (w * 3 + t)) ∧ (∀ k, k < 2 → P ((3 + k) * 4) = k) ∧ (∀ k, k < 2 → ∀ j, j < 4 → P ((5 + k) * 4 + j) = 2 + k * 4 + lpF w j)
def sv (σ : Nat → Nat → Nat) (w : Nat) (P : Nat → Nat) (t j : Nat) : Nat := if j ≠ 3 ∧ lowF (w * 3 + j) = lowF (w * 3 + (σ 8 t - 1)) then P ((σ 9 t - 1) * 4) else P ((σ 7 t - 1) * 4 + j)
def PT (σ : Nat → Nat → Nat) (w : Nat) (P : Nat → Nat) (t : Nat) : Prop := (σ 6 t = 1 → P (t * 4) = P ((σ 7 t - 1) * 4 + lowF (w * 3 + (σ 8 t - 1)))) ∧ (σ 6 t ≠ 1 → ∀ j, j < 4 → P (t * 4 + j) = sv σ w P t j)
theorem PN_keep {w : Nat} {P P' : Nat → Nat} (h : PN w P) (hk : ∀ j, j < 28 → P' j = P j) : PN w P' := by
  refine ⟨fun t ht => ?_, fun k hk2 => ?_, fun k hk2 j hj => ?_⟩
  · rw [hk _ (by omega)]; exact h.1 t ht
  · rw [hk _ (by omega)]; exact h.2.1 k hk2
  · rw [hk _ (by omega)]; exact h.2.2 k hk2 j hj
theorem sv_keep {σ : Nat → Nat → Nat} {w t i : Nat} {P P' : Nat → Nat} (hI : IC σ) (h7 : 7 ≤ t) (ht : t < σ 0 1) (hs : σ 6 t ≠ 1) (hi : i < 4) (hk : ∀ j, j < t * 4 → P' j = P j) : sv σ w P' t i = sv σ w P t i := by
  have hm := hI.made h7 ht
  unfold sv
  rw [hk _ (by omega), hk _ (by omega)]
theorem PT_keep {σ : Nat → Nat → Nat} {w t : Nat} {P P' : Nat → Nat} (hI : IC σ) (h7 : 7 ≤ t) (ht : t < σ 0 1) (hk : ∀ j, j < t * 4 + 4 → P' j = P j) (h : PT σ w P t) : PT σ w P' t := by
  have hm := hI.made h7 ht
  have hl := lowF_le (w * 3 + (σ 8 t - 1))
  refine ⟨fun h1 => ?_, fun h1 j hj => ?_⟩
  · rw [hk _ (by omega), hk _ (by omega)]; exact h.1 h1
  · rw [hk _ (by omega), sv_keep hI h7 ht h1 hj (fun j hj => hk j (by omega))]; exact h.2 h1 j hj
theorem h4_step {σ S : Nat → Nat → Nat} {w t j v : Nat} (hI : IC σ) (h7 : 7 ≤ t) (ht : t < σ 0 1) (hs : σ 6 t ≠ 1) (hj : j < 4) (hv : v = sv σ w (S 14) t j) (h4 : ∀ i, i < j → S 14 (t * 4 + i) = sv σ w (S 14) t i) : ∀ i, i < j + 1 → (sU S 14 (t * 4 + j) v) 14 (t * 4 + i) = sv σ w ((sU S 14 (t * 4 + j) v) 14) t i := by
  intro i hi
  have hk : ∀ z, z < t * 4 → (sU S 14 (t * 4 + j) v) 14 z = S 14 z := fun z hz => by rw [sU_at, if_neg (by omega)]
  rw [sv_keep hI h7 ht hs (by omega) hk, sU_at]
  split
  · obtain rfl : i = j := by omega
    exact hv
  · exact h4 i (by omega)
theorem hO_step {σ S : Nat → Nat → Nat} {k i v : Nat} (h : ∀ r, r ≠ k → S r = σ r) : ∀ r, r ≠ k → (sU S k i v) r = σ r := fun r hr => by rw [sU_ne _ _ _ hr]; exact h r hr
theorem hB_step {S : Nat → Nat → Nat} {k i v N b : Nat} (hv : v < b) (h : ∀ j, j < N → S k j < b) : ∀ j, j < N → (sU S k i v) k j < b := fun j hj => by
  rw [sU_at]; split
  · exact hv
  · exact h j hj
theorem sU_lo {S : Nat → Nat → Nat} {k i v N : Nat} (h : N ≤ i) : ∀ j, j < N → (sU S k i v) k j = S k j := fun j hj => by rw [sU_at, if_neg (by omega)]
/-- the search, as a function -/
def scF (σ : Nat → Nat → Nat) : Nat → Nat → Option Nat
  | 0, un => some un
  | n + 1, un => if holdF σ n (σ 13 n) 0 0 = 0 then none else if holdF σ n (σ 13 n) 0 0 = 2 then scF σ n (n + 1) else scF σ n un
def anyF (P : Nat → Bool) : Nat → Nat → Bool
  | 0, _ => false
  | n + 1, el => if P el = true then true else anyF P n (el + 1)
def frF (sp : Nat) : Nat := if sp - 1 = 9 then 0 else 2
def toF (sp f : Nat) : Nat := if sp - 1 = 9 then 1 else f
def cmpF : Nat → (Nat → Nat → Nat) → Nat → Bool
  | 0, _, _ => false
  | d + 1, σ, f => match scF σ (σ 0 4) 0 with
    | none => false
    | some 0 => true
    | some (c + 1) => if osF σ c (σ 13 c) 0 = 0 then false else anyF (fun el => cmpF d (sU σ 15 (osF σ c (σ 13 c) 0 - 1) (el + 1)) (if el = f then f + 1 else f)) (toF (osF σ c (σ 13 c) 0) f + 1 - frF (osF σ c (σ 13 c) 0)) (frF (osF σ c (σ 13 c) 0))
theorem cmpF_none {d : Nat} {σ : Nat → Nat → Nat} {f : Nat} (h : scF σ (σ 0 4) 0 = none) : cmpF (d + 1) σ f = false := by rw [cmpF, h]
theorem cmpF_zero {d : Nat} {σ : Nat → Nat → Nat} {f : Nat} (h : scF σ (σ 0 4) 0 = some 0) : cmpF (d + 1) σ f = true := by rw [cmpF, h]
theorem cmpF_some {d : Nat} {σ : Nat → Nat → Nat} {f c : Nat} (h : scF σ (σ 0 4) 0 = some (c + 1)) : cmpF (d + 1) σ f = if osF σ c (σ 13 c) 0 = 0 then false else anyF (fun el => cmpF d (sU σ 15 (osF σ c (σ 13 c) 0 - 1) (el + 1)) (if el = f then f + 1 else f)) (toF (osF σ c (σ 13 c) 0) f + 1 - frF (osF σ c (σ 13 c) 0)) (frF (osF σ c (σ 13 c) 0)) := by rw [cmpF, h]
def opn (σ : Nat → Nat → Nat) : Nat := (if σ 15 0 = 0 then 1 else 0) + (if σ 15 1 = 0 then 1 else 0) + (if σ 15 2 = 0 then 1 else 0) + (if σ 15 3 = 0 then 1 else 0) + (if σ 15 4 = 0 then 1 else 0) + (if σ 15 5 = 0 then 1 else 0) + (if σ 15 6 = 0 then 1 else 0) + (if σ 15 7 = 0 then 1 else 0) + (if σ 15 8 = 0 then 1 else 0) + (if σ 15 9 = 0 then 1 else 0)
theorem opn_set {σ : Nat → Nat → Nat} {i v : Nat} (hi : i < 10) (h0 : σ 15 i = 0) (hv : v ≠ 0) : opn (sU σ 15 i v) + 1 = opn σ := by
  rcases (show i = 0 ∨ i = 1 ∨ i = 2 ∨ i = 3 ∨ i = 4 ∨ i = 5 ∨ i = 6 ∨ i = 7 ∨ i = 8 ∨ i = 9 by omega) with rfl | rfl | rfl | rfl | rfl | rfl | rfl | rfl | rfl | rfl <;> simp [opn, sU_at, h0, hv] <;> omega
theorem IC.set15 {σ : Nat → Nat → Nat} {i v : Nat} (hI : IC σ) (hv : v ≤ 20) : IC (sU σ 15 i v) := by
  obtain ⟨h1, h2, h3, h4, h5, h6, h7, h8, h9, h10, h11, h12, h13, h14⟩ := hI
  refine ⟨h1, h2, h3, h4, h5, h6, h7, h8, h9, h10, h11, h12, h13, fun j hj => ?_⟩
  rw [sU_at]; split
  · exact hv
  · exact h14 j hj
theorem osoF_open {σ : Nat → Nat → Nat} {q t u : Nat} (hI : IC σ) (ht : t < 24) (hu : u < 24) : ∀ n j, j + n ≤ 4 → osoF σ q t u n j ≠ 0 → osoF σ q t u n j - 1 < 10 ∧ σ 15 (osoF σ q t u n j - 1) = 0
  | 0, _, _ => fun h => absurd rfl h
  | n + 1, j, hj => by
    unfold osoF
    have hx := hI.parts (j := t * 4 + j) (by omega)
    have hy := hI.parts (j := u * 4 + j) (by omega)
    split
    · rename_i h2
      split
      · rename_i h0
        intro _
        exact ⟨by omega, by rw [Nat.add_sub_cancel]; exact h0⟩
      · rename_i h0
        intro _
        refine ⟨by omega, ?_⟩
        rw [Nat.add_sub_cancel]
        unfold plF at h2
        repeat' split at h2
        all_goals first | omega | assumption
    · exact osoF_open hI ht hu n (j + 1) (by omega)
theorem osF_open {σ : Nat → Nat → Nat} {cl : Nat} (hI : IC σ) : ∀ n k, cl * 3 + k + n ≤ 33 → osF σ cl n k ≠ 0 → osF σ cl n k - 1 < 10 ∧ σ 15 (osF σ cl n k - 1) = 0
  | 0, _, _ => fun h => absurd rfl h
  | n + 1, k, hk => by
    have hl := hI.alit (j := cl * 3 + k) (by omega)
    unfold osF
    split
    · refine osoF_open hI hl.2.1 hl.2.2 _ _ ?_
      unfold widF; split <;> omega
    · exact osF_open hI n (k + 1) (by omega)
theorem sU_sU (σ : Nat → Nat → Nat) (k i a b : Nat) : sU (sU σ k i a) k i b = sU σ k i b := by
  funext r
  by_cases h : r = k
  · subst h
    funext j
    rw [sU_at, sU_at, sU_at]
    split <;> rfl
  · rw [sU_ne _ _ _ h, sU_ne _ _ _ h, sU_ne _ _ _ h]
theorem sU_id {σ : Nat → Nat → Nat} {k i v : Nat} (h : σ k i = v) : sU σ k i v = σ := by
  funext r
  by_cases h2 : r = k
  · subst h2
    funext j
    rw [sU_at]
    split
    · rename_i h3; rw [h3, h]
    · rfl
  · rw [sU_ne _ _ _ h2]
theorem in_X2_spellOutNames_X2 : ∀ w ∈ wsX20, w ∈ wsX2_spellOutNames := by decide +kernel
theorem lk_X2_spellOutNames_11 : Cond.fieldLink RX2 11 "ArrayClaims$ReadingSearch" "parts" "[I" ∈ wsX2_spellOutNames := by decide +kernel
def rX2_spellOutNames : Room := { frames := 1, cells := 0, slots := 0, locals := 21 }
set_option maxHeartbeats 4000000 in
set_option maxRecDepth 100000 in
theorem c_X2_spellOutNames (l : Launch) (D : va_G) (cI : ClassId) (A : Nat → Prop) (ad : Nat → Nat) (σ : Nat → Nat → Nat) (w : Nat) (hI : IC σ) (hw5 : w < 5) : Met l yX2_spellOutNames wsX2_spellOutNames rX2_spellOutNames (va_Pc [.ref (ad 5), .int (nI w)] (Wc D cI A ad σ)) (va_Qv (fun u => (∀ r, r ≠ 14 → u r = σ r) ∧ (∀ j, j < 96 → u 14 j < 10) ∧ PN w (u 14)) (fun u t => Wc D cI A ad u t) A) 0 0 A := by
  refine Met.ofW (cc := cX2_spellOutNames) (maxL := 6) (ret := none) (by decide) rfl ?_
  intro p e s m args below meth c s₁ B hml hv
  obtain ⟨rfl, hP, hK, hD, hN, hZ⟩ := hv
  have hx := B.exec
  have hb := B.bytes
  have hr := B.returns
  have hts := atoms_spec (ws := wsX2_spellOutNames) B.pre
  have hown : s.vm.findClass RX2 = some m.cls := findClass_of_methodNamed B.named
  have hlocks := B.notSynchronized
  have hS : va_S A s.heap s.heap [] := va_S.rf
  have hl := lv_entry ([.ref (ad 5), .int (nI w)]) (n := 6) (Nat.le_of_ble_eq_true rfl)
  rw [lg_entry_eq]
  generalize (lg_sl ([.ref (ad 5), .int (nI w)]) ++ List.replicate (6 - (lg_sl ([.ref (ad 5), .int (nI w)])).length) Slot.unset).toArray = ls at hl ⊢
  have hl : lv_has ls 6 [(0, .ref (ad 5)), (1, .int (nI w))] := hl
  refine lv_iconst (v := nI 0) hx hb dX2_spellOutNames_0 (by decide) ?_
  refine lv_istore_n (lv' := [(2, .int (nI 0)), (0, .ref (ad 5)), (1, .int (nI w))]) hx hb dX2_spellOutNames_1 rfl hl (by decide) rfl (fun ls hl => ?_)
  have lp2 : ∀ (n : Nat) (t : Nat) (σ_1 : Nat → Nat → Nat) (H : Heap) (locs : List Loc) (ls : Array Slot), (t + n = 3) → (∀ r, r ≠ 14 → σ_1 r = σ r) → (∀ j, j < 96 → σ_1 14 j < 10) → (∀ t1, t1 < t → σ_1 14 (t1 * 4) = lowF (w * 3 + t1)) → va_P D vwCl (WC ad cI σ_1) H → va_D A (WC ad cI σ_1) → va_S A s.heap H locs → lv_has ls 6 [(2, .int (nI t)), (0, .ref (ad 5)), (1, .int (nI w))] → W p l e rX2_spellOutNames s m (([.ref (ad 5), .int (nI w)] : List Value).toArray) below meth c H locs 0 0 (MQ below (va_Qv (fun u => (∀ r, r ≠ 14 → u r = σ r) ∧ (∀ j, j < 96 → u 14 j < 10) ∧ PN w (u 14)) (fun u t => Wc D cI A ad u t) A) (([.ref (ad 5), .int (nI w)] : List Value).toArray) s 0 0 A) (F0 m 2 ls []) := by
    intro n
    induction n with
    | zero =>
      intro t σ_1 H locs ls hF1 hO hB h1 hP hD hS hl
      obtain rfl : t = 3 := by omega
      refine lv_iload_n hx hb dX2_spellOutNames_2 rfl (lv_at hl 0 rfl) ?_
      refine lv_iconst (v := nI 3) hx hb dX2_spellOutNames_3 (by decide) ?_
      refine n_icmp_ge hx hb (tgt := 26) (by omega) (by omega) dX2_spellOutNames_4 (by decide) (fun c_4 => ?_) (fun c_4 => ?_)
      · refine lv_iconst (v := nI 0) hx hb dX2_spellOutNames_26 (by decide) ?_
        refine lv_istore_n (lv' := [(2, .int (nI 0)), (0, .ref (ad 5)), (1, .int (nI w))]) hx hb dX2_spellOutNames_27 rfl hl (by decide) rfl (fun ls hl => ?_)
        have lp28 : ∀ (n : Nat) (k : Nat) (σ_2 : Nat → Nat → Nat) (H : Heap) (locs : List Loc) (ls : Array Slot), (k + n = 2) → (∀ r, r ≠ 14 → σ_2 r = σ r) → (∀ j, j < 96 → σ_2 14 j < 10) → (∀ t1, t1 < 3 → σ_2 14 (t1 * 4) = lowF (w * 3 + t1)) → (∀ k1, k1 < k → σ_2 14 ((3 + k1) * 4) = k1) → va_P D vwCl (WC ad cI σ_2) H → va_D A (WC ad cI σ_2) → va_S A s.heap H locs → lv_has ls 6 [(2, .int (nI k)), (0, .ref (ad 5)), (1, .int (nI w))] → W p l e rX2_spellOutNames s m (([.ref (ad 5), .int (nI w)] : List Value).toArray) below meth c H locs 0 0 (MQ below (va_Qv (fun u => (∀ r, r ≠ 14 → u r = σ r) ∧ (∀ j, j < 96 → u 14 j < 10) ∧ PN w (u 14)) (fun u t => Wc D cI A ad u t) A) (([.ref (ad 5), .int (nI w)] : List Value).toArray) s 0 0 A) (F0 m 28 ls []) := by
          intro n
          induction n with
          | zero =>
            intro k σ_2 H locs ls hF1 hO hB h1 h2 hP hD hS hl
            obtain rfl : k = 2 := by omega
            refine lv_iload_n hx hb dX2_spellOutNames_28 rfl (lv_at hl 0 rfl) ?_
            refine lv_iconst (v := nI 2) hx hb dX2_spellOutNames_29 (by decide) ?_
            refine n_icmp_ge hx hb (tgt := 50) (by omega) (by omega) dX2_spellOutNames_30 (by decide) (fun c_30 => ?_) (fun c_30 => ?_)
            · refine lv_iconst (v := nI 0) hx hb dX2_spellOutNames_50 (by decide) ?_
              refine lv_istore_n (lv' := [(2, .int (nI 0)), (0, .ref (ad 5)), (1, .int (nI w))]) hx hb dX2_spellOutNames_51 rfl hl (by decide) rfl (fun ls hl => ?_)
              have lp52 : ∀ (n : Nat) (k : Nat) (σ_3 : Nat → Nat → Nat) (H : Heap) (locs : List Loc) (ls : Array Slot), (k + n = 2) → (∀ r, r ≠ 14 → σ_3 r = σ r) → (∀ j, j < 96 → σ_3 14 j < 10) → (∀ t1, t1 < 3 → σ_3 14 (t1 * 4) = lowF (w * 3 + t1)) → (∀ k1, k1 < 2 → σ_3 14 ((3 + k1) * 4) = k1) → (∀ k1, k1 < k → ∀ j, j < 4 → σ_3 14 ((5 + k1) * 4 + j) = 2 + k1 * 4 + lpF w j) → va_P D vwCl (WC ad cI σ_3) H → va_D A (WC ad cI σ_3) → va_S A s.heap H locs → lv_has ls 6 [(2, .int (nI k)), (0, .ref (ad 5)), (1, .int (nI w))] → W p l e rX2_spellOutNames s m (([.ref (ad 5), .int (nI w)] : List Value).toArray) below meth c H locs 0 0 (MQ below (va_Qv (fun u => (∀ r, r ≠ 14 → u r = σ r) ∧ (∀ j, j < 96 → u 14 j < 10) ∧ PN w (u 14)) (fun u t => Wc D cI A ad u t) A) (([.ref (ad 5), .int (nI w)] : List Value).toArray) s 0 0 A) (F0 m 52 ls []) := by
                intro n
                induction n with
                | zero =>
                  intro k σ_3 H locs ls hF1 hO hB h1 h2 h3 hP hD hS hl
                  obtain rfl : k = 2 := by omega
                  refine lv_iload_n hx hb dX2_spellOutNames_52 rfl (lv_at hl 0 rfl) ?_
                  refine lv_iconst (v := nI 2) hx hb dX2_spellOutNames_53 (by decide) ?_
                  refine n_icmp_ge hx hb (tgt := 119) (by omega) (by omega) dX2_spellOutNames_54 (by decide) (fun c_54 => ?_) (fun c_54 => ?_)
                  · exact W.vret hx hb hr (fun t ht hW => ⟨⟨_, rfl, (⟨hO, hB, h1, h2, h3⟩), Wc.go hP hK hD hN hZ hS ht hW⟩, hS.F ht⟩) hS.2.2 dX2_spellOutNames_119
                  · omega
                | succ n ih52 =>
                  intro k σ_3 H locs ls hF1 hO hB h1 h2 h3 hP hD hS hl
                  refine lv_iload_n hx hb dX2_spellOutNames_52 rfl (lv_at hl 0 rfl) ?_
                  refine lv_iconst (v := nI 2) hx hb dX2_spellOutNames_53 (by decide) ?_
                  refine n_icmp_ge hx hb (tgt := 119) (by omega) (by omega) dX2_spellOutNames_54 (by decide) (fun c_54 => ?_) (fun c_54 => ?_)
                  · omega
                  · refine lv_iconst (v := nI 2) hx hb dX2_spellOutNames_57 (by decide) ?_
                    refine lv_iload_n hx hb dX2_spellOutNames_58 rfl (lv_at hl 0 rfl) ?_
                    refine lv_iconst (v := nI 4) hx hb dX2_spellOutNames_59 (by decide) ?_
                    refine n_mul hx hb dX2_spellOutNames_60 ?_
                    refine n_add hx hb dX2_spellOutNames_61 ?_
                    refine lv_istore_n (lv' := [(3, .int (nI (2 + (k * 4)))), (2, .int (nI k)), (0, .ref (ad 5)), (1, .int (nI w))]) hx hb dX2_spellOutNames_62 rfl hl (by decide) rfl (fun ls hl => ?_)
                    refine lv_iconst (v := nI 0) hx hb dX2_spellOutNames_63 (by decide) ?_
                    refine lv_istore (lv' := [(4, .int (nI 0)), (3, .int (nI (2 + (k * 4)))), (2, .int (nI k)), (0, .ref (ad 5)), (1, .int (nI w))]) hx hb dX2_spellOutNames_64 hl (by decide) rfl (fun ls hl => ?_)
                    have lp66 : ∀ (n : Nat) (j : Nat) (σ_4 : Nat → Nat → Nat) (H : Heap) (locs : List Loc) (ls : Array Slot), (j + n = 4) → (∀ r, r ≠ 14 → σ_4 r = σ r) → (∀ j, j < 96 → σ_4 14 j < 10) → (∀ t1, t1 < 3 → σ_4 14 (t1 * 4) = lowF (w * 3 + t1)) → (∀ k1, k1 < 2 → σ_4 14 ((3 + k1) * 4) = k1) → (∀ k1, k1 < k → ∀ j, j < 4 → σ_4 14 ((5 + k1) * 4 + j) = 2 + k1 * 4 + lpF w j) → (∀ j1, j1 < j → σ_4 14 ((5 + k) * 4 + j1) = 2 + k * 4 + lpF w j1) → va_P D vwCl (WC ad cI σ_4) H → va_D A (WC ad cI σ_4) → va_S A s.heap H locs → lv_has ls 6 [(4, .int (nI j)), (3, .int (nI (2 + (k * 4)))), (2, .int (nI k)), (0, .ref (ad 5)), (1, .int (nI w))] → W p l e rX2_spellOutNames s m (([.ref (ad 5), .int (nI w)] : List Value).toArray) below meth c H locs 0 0 (MQ below (va_Qv (fun u => (∀ r, r ≠ 14 → u r = σ r) ∧ (∀ j, j < 96 → u 14 j < 10) ∧ PN w (u 14)) (fun u t => Wc D cI A ad u t) A) (([.ref (ad 5), .int (nI w)] : List Value).toArray) s 0 0 A) (F0 m 66 ls []) := by
                      intro n
                      induction n with
                      | zero =>
                        intro j σ_4 H locs ls hF2 hO hB h1 h2 h3 h4 hP hD hS hl
                        refine lv_iload hx hb dX2_spellOutNames_66 (lv_at hl 0 rfl) ?_
                        refine lv_iconst (v := nI 4) hx hb dX2_spellOutNames_68 (by decide) ?_
                        refine n_icmp_ge hx hb (tgt := 113) (by omega) (by omega) dX2_spellOutNames_69 (by decide) (fun c_69 => ?_) (fun c_69 => ?_)
                        · refine lv_iinc (v := nI (k + 1)) (lv' := [(2, .int (nI (k + 1))), (4, .int (nI j)), (3, .int (nI (2 + (k * 4)))), (0, .ref (ad 5)), (1, .int (nI w))]) hx hb dX2_spellOutNames_113 hl (k := 2) rfl (nI_add _ _) (by decide) rfl (fun ls hl => ?_)
                          refine lv_goto (tgt := 52) hx hb dX2_spellOutNames_116 (by decide) ?_
                          exact ih52 (k + 1)  _ _ _ _  (by omega) (hO) (hB) (h1) (h2) (fun k1 hk1 j1 hj1 => by rcases Nat.lt_or_ge k1 k with q | q; exact h3 k1 q j1 hj1; (obtain rfl : k1 = k := by omega); exact h4 j1 (by omega)) hP hD hS (lv_sub hl [0, 3, 4] rfl)
                        · omega
                      | succ n ih66 =>
                        intro j σ_4 H locs ls hF2 hO hB h1 h2 h3 h4 hP hD hS hl
                        have hlw := lowF_le (w * 3 + j)
                        have hlp : lpF w j = if j = 3 then 3 else lowF (w * 3 + j) := rfl
                        refine lv_iload hx hb dX2_spellOutNames_66 (lv_at hl 0 rfl) ?_
                        refine lv_iconst (v := nI 4) hx hb dX2_spellOutNames_68 (by decide) ?_
                        refine n_icmp_ge hx hb (tgt := 113) (by omega) (by omega) dX2_spellOutNames_69 (by decide) (fun c_69 => ?_) (fun c_69 => ?_)
                        · omega
                        · refine lv_iload hx hb dX2_spellOutNames_72 (lv_at hl 0 rfl) ?_
                          refine lv_iconst (v := nI 3) hx hb dX2_spellOutNames_74 (by decide) ?_
                          refine q_icmp_ne hx hb (tgt := 82) (nI_eq (by omega) (by omega)) dX2_spellOutNames_75 (by decide) (fun c_75 => ?_) (fun c_75 => ?_)
                          · refine lv_iload_n hx hb dX2_spellOutNames_82 rfl (lv_at hl 4 rfl) ?_
                            refine lv_iload hx hb dX2_spellOutNames_83 (lv_at hl 0 rfl) ?_
                            refine vp_callSi (va_Run.run (va_runS (As := [.int (nI w), .int (nI j)]) (rest := []) ⟨hx, hb, hml, hown, hts⟩ (c_X2_lowest l D cI A ad σ_4 w (j) (by omega)) (va_cwS 2 hts gX2_spellOutNames_X2_lowest rfl rfl rfl (by decide +kernel) ⟨Nat.le_of_ble_eq_true rfl, Nat.le_of_ble_eq_true rfl⟩) ⟨Wc.blind, fun U hU hW => ⟨rfl, Wc.go hP hK hD hN hZ hS hU hW⟩⟩ rfl rfl hl.1 rfl (lv_room (Nat.le_of_ble_eq_true rfl)) dX2_spellOutNames_85 ⟨Nat.zero_le _, Nat.zero_le _⟩)) (fun r_5 hr_5 => ?_)
                            refine n_to (w := nI (lowF (w * 3 + j))) (hr_5.trans rfl) ?_
                            refine lv_istore (lv' := [(5, .int (nI (lowF (w * 3 + j)))), (4, .int (nI j)), (3, .int (nI (2 + (k * 4)))), (2, .int (nI k)), (0, .ref (ad 5)), (1, .int (nI w))]) hx hb dX2_spellOutNames_88 hl (by decide) rfl (fun ls hl => ?_)
                            refine lv_aload_n hx hb dX2_spellOutNames_90 rfl (lv_at hl 4 rfl) ?_
                            refine va_get (D := D) (ci := 1) (v := .ref (ad 14)) (C := RX2) (T := TX2) (N := 2) hx hb hts in_X2_spellOutNames_X2 hown hK hP 5 rfl rfl 0 (by decide) (hts _ lk_X2_spellOutNames_11) (fun _ h9 => h9) rfl dX2_spellOutNames_91 ?_
                            refine lv_iconst (v := nI 5) hx hb dX2_spellOutNames_94 (by decide) ?_
                            refine lv_iload_n hx hb dX2_spellOutNames_95 rfl (lv_at hl 3 rfl) ?_
                            refine n_add hx hb dX2_spellOutNames_96 ?_
                            refine lv_iconst (v := nI 4) hx hb dX2_spellOutNames_97 (by decide) ?_
                            refine n_mul hx hb dX2_spellOutNames_98 ?_
                            refine lv_iload hx hb dX2_spellOutNames_99 (lv_at hl 1 rfl) ?_
                            refine n_add hx hb dX2_spellOutNames_101 ?_
                            refine lv_iload_n hx hb dX2_spellOutNames_102 rfl (lv_at hl 2 rfl) ?_
                            refine lv_iload hx hb dX2_spellOutNames_103 (lv_at hl 0 rfl) ?_
                            refine n_add hx hb dX2_spellOutNames_105 ?_
                            refine n_ast (ws' := WC ad cI (sU σ_4 14 (((5 + k) * 4) + j) ((2 + (k * 4)) + (lowF (w * 3 + j))))) hx hb hK hP hD hS 14 0 rfl rfl (i := ((5 + k) * 4) + j) (by omega) (by decide) (WCs14 ..) dX2_spellOutNames_106 (fun H locs hP hD hS => ?_)
                            refine lv_iinc (v := nI (j + 1)) (lv' := [(4, .int (nI (j + 1))), (5, .int (nI (lowF (w * 3 + j)))), (3, .int (nI (2 + (k * 4)))), (2, .int (nI k)), (0, .ref (ad 5)), (1, .int (nI w))]) hx hb dX2_spellOutNames_107 hl (k := 1) rfl (nI_add _ _) (by decide) rfl (fun ls hl => ?_)
                            refine lv_goto (tgt := 66) hx hb dX2_spellOutNames_110 (by decide) ?_
                            exact ih66 (j + 1)  _ _ _ _  (by omega) (hO_step hO) (hB_step (by omega) hB) (fun t1 ht1 => by rw [sU_at, if_neg (by omega)]; exact h1 t1 ht1) (fun k1 hk1 => by rw [sU_at, if_neg (by omega)]; exact h2 k1 hk1) (fun k1 hk1 j1 hj1 => by rw [sU_at, if_neg (by omega)]; exact h3 k1 hk1 j1 hj1) (fun j1 hj1 => by rw [sU_at]; split; (obtain rfl : j1 = j := by omega); simp [lpF, c_75]; exact h4 j1 (by omega)) hP hD hS (lv_sub hl [0, 2, 3, 4, 5] rfl)
                          · refine lv_iconst (v := nI 3) hx hb dX2_spellOutNames_78 (by decide) ?_
                            refine lv_goto (tgt := 88) hx hb dX2_spellOutNames_79 (by decide) ?_
                            refine lv_istore (lv' := [(5, .int (nI 3)), (4, .int (nI j)), (3, .int (nI (2 + (k * 4)))), (2, .int (nI k)), (0, .ref (ad 5)), (1, .int (nI w))]) hx hb dX2_spellOutNames_88 hl (by decide) rfl (fun ls hl => ?_)
                            refine lv_aload_n hx hb dX2_spellOutNames_90 rfl (lv_at hl 4 rfl) ?_
                            refine va_get (D := D) (ci := 1) (v := .ref (ad 14)) (C := RX2) (T := TX2) (N := 2) hx hb hts in_X2_spellOutNames_X2 hown hK hP 5 rfl rfl 0 (by decide) (hts _ lk_X2_spellOutNames_11) (fun _ h9 => h9) rfl dX2_spellOutNames_91 ?_
                            refine lv_iconst (v := nI 5) hx hb dX2_spellOutNames_94 (by decide) ?_
                            refine lv_iload_n hx hb dX2_spellOutNames_95 rfl (lv_at hl 3 rfl) ?_
                            refine n_add hx hb dX2_spellOutNames_96 ?_
                            refine lv_iconst (v := nI 4) hx hb dX2_spellOutNames_97 (by decide) ?_
                            refine n_mul hx hb dX2_spellOutNames_98 ?_
                            refine lv_iload hx hb dX2_spellOutNames_99 (lv_at hl 1 rfl) ?_
                            refine n_add hx hb dX2_spellOutNames_101 ?_
                            refine lv_iload_n hx hb dX2_spellOutNames_102 rfl (lv_at hl 2 rfl) ?_
                            refine lv_iload hx hb dX2_spellOutNames_103 (lv_at hl 0 rfl) ?_
                            refine n_add hx hb dX2_spellOutNames_105 ?_
                            refine n_ast (ws' := WC ad cI (sU σ_4 14 (((5 + k) * 4) + j) ((2 + (k * 4)) + 3))) hx hb hK hP hD hS 14 0 rfl rfl (i := ((5 + k) * 4) + j) (by omega) (by decide) (WCs14 ..) dX2_spellOutNames_106 (fun H locs hP hD hS => ?_)
                            refine lv_iinc (v := nI (j + 1)) (lv' := [(4, .int (nI (j + 1))), (5, .int (nI 3)), (3, .int (nI (2 + (k * 4)))), (2, .int (nI k)), (0, .ref (ad 5)), (1, .int (nI w))]) hx hb dX2_spellOutNames_107 hl (k := 1) rfl (nI_add _ _) (by decide) rfl (fun ls hl => ?_)
                            refine lv_goto (tgt := 66) hx hb dX2_spellOutNames_110 (by decide) ?_
                            exact ih66 (j + 1)  _ _ _ _  (by omega) (hO_step hO) (hB_step (by omega) hB) (fun t1 ht1 => by rw [sU_at, if_neg (by omega)]; exact h1 t1 ht1) (fun k1 hk1 => by rw [sU_at, if_neg (by omega)]; exact h2 k1 hk1) (fun k1 hk1 j1 hj1 => by rw [sU_at, if_neg (by omega)]; exact h3 k1 hk1 j1 hj1) (fun j1 hj1 => by rw [sU_at]; split; (obtain rfl : j1 = j := by omega); simp [lpF, c_75]; exact h4 j1 (by omega)) hP hD hS (lv_sub hl [0, 2, 3, 4, 5] rfl)
                    exact lp66 4 0  _ _ _ _ (by omega) (hO) (hB) (h1) (h2) (h3) (fun t1 h => absurd h (by omega)) hP hD hS (lv_sub hl [0, 1, 2, 3, 4] rfl)
              exact lp52 2 0  _ _ _ _ (by omega) (hO) (hB) (h1) (h2) (fun t1 h => absurd h (by omega)) hP hD hS (lv_sub hl [0, 1, 2] rfl)
            · omega
          | succ n ih28 =>
            intro k σ_2 H locs ls hF1 hO hB h1 h2 hP hD hS hl
            refine lv_iload_n hx hb dX2_spellOutNames_28 rfl (lv_at hl 0 rfl) ?_
            refine lv_iconst (v := nI 2) hx hb dX2_spellOutNames_29 (by decide) ?_
            refine n_icmp_ge hx hb (tgt := 50) (by omega) (by omega) dX2_spellOutNames_30 (by decide) (fun c_30 => ?_) (fun c_30 => ?_)
            · omega
            · refine lv_aload_n hx hb dX2_spellOutNames_33 rfl (lv_at hl 1 rfl) ?_
              refine va_get (D := D) (ci := 1) (v := .ref (ad 14)) (C := RX2) (T := TX2) (N := 2) hx hb hts in_X2_spellOutNames_X2 hown hK hP 5 rfl rfl 0 (by decide) (hts _ lk_X2_spellOutNames_11) (fun _ h9 => h9) rfl dX2_spellOutNames_34 ?_
              refine lv_iconst (v := nI 3) hx hb dX2_spellOutNames_37 (by decide) ?_
              refine lv_iload_n hx hb dX2_spellOutNames_38 rfl (lv_at hl 0 rfl) ?_
              refine n_add hx hb dX2_spellOutNames_39 ?_
              refine lv_iconst (v := nI 4) hx hb dX2_spellOutNames_40 (by decide) ?_
              refine n_mul hx hb dX2_spellOutNames_41 ?_
              refine lv_iload_n hx hb dX2_spellOutNames_42 rfl (lv_at hl 0 rfl) ?_
              refine n_ast (ws' := WC ad cI (sU σ_2 14 ((3 + k) * 4) k)) hx hb hK hP hD hS 14 0 rfl rfl (i := (3 + k) * 4) (by omega) (by decide) (WCs14 ..) dX2_spellOutNames_43 (fun H locs hP hD hS => ?_)
              refine lv_iinc (v := nI (k + 1)) (lv' := [(2, .int (nI (k + 1))), (0, .ref (ad 5)), (1, .int (nI w))]) hx hb dX2_spellOutNames_44 hl (k := 0) rfl (nI_add _ _) (by decide) rfl (fun ls hl => ?_)
              refine lv_goto (tgt := 28) hx hb dX2_spellOutNames_47 (by decide) ?_
              exact ih28 (k + 1)  _ _ _ _  (by omega) (hO_step hO) (hB_step (by omega) hB) (fun t1 ht1 => by rw [sU_at, if_neg (by omega)]; exact h1 t1 ht1) (fun k1 hk1 => by rw [sU_at]; split; omega; exact h2 k1 (by omega)) hP hD hS (lv_sub hl [0, 1, 2] rfl)
        exact lp28 2 0  _ _ _ _ (by omega) (hO) (hB) (h1) (fun t1 h => absurd h (by omega)) hP hD hS (lv_sub hl [0, 1, 2] rfl)
      · omega
    | succ n ih2 =>
      intro t σ_1 H locs ls hF1 hO hB h1 hP hD hS hl
      have hlw := lowF_le (w * 3 + t)
      refine lv_iload_n hx hb dX2_spellOutNames_2 rfl (lv_at hl 0 rfl) ?_
      refine lv_iconst (v := nI 3) hx hb dX2_spellOutNames_3 (by decide) ?_
      refine n_icmp_ge hx hb (tgt := 26) (by omega) (by omega) dX2_spellOutNames_4 (by decide) (fun c_4 => ?_) (fun c_4 => ?_)
      · omega
      · refine lv_aload_n hx hb dX2_spellOutNames_7 rfl (lv_at hl 1 rfl) ?_
        refine va_get (D := D) (ci := 1) (v := .ref (ad 14)) (C := RX2) (T := TX2) (N := 2) hx hb hts in_X2_spellOutNames_X2 hown hK hP 5 rfl rfl 0 (by decide) (hts _ lk_X2_spellOutNames_11) (fun _ h9 => h9) rfl dX2_spellOutNames_8 ?_
        refine lv_iload_n hx hb dX2_spellOutNames_11 rfl (lv_at hl 0 rfl) ?_
        refine lv_iconst (v := nI 4) hx hb dX2_spellOutNames_12 (by decide) ?_
        refine n_mul hx hb dX2_spellOutNames_13 ?_
        refine lv_iload_n hx hb dX2_spellOutNames_14 rfl (lv_at hl 2 rfl) ?_
        refine lv_iload_n hx hb dX2_spellOutNames_15 rfl (lv_at hl 0 rfl) ?_
        refine vp_callSi (va_Run.run (va_runS (As := [.int (nI w), .int (nI t)]) (rest := [.int (nI (t * 4)), .ref (ad 14)]) ⟨hx, hb, hml, hown, hts⟩ (c_X2_lowest l D cI A ad σ_1 w (t) (by omega)) (va_cwS 2 hts gX2_spellOutNames_X2_lowest rfl rfl rfl (by decide +kernel) ⟨Nat.le_of_ble_eq_true rfl, Nat.le_of_ble_eq_true rfl⟩) ⟨Wc.blind, fun U hU hW => ⟨rfl, Wc.go hP hK hD hN hZ hS hU hW⟩⟩ rfl rfl hl.1 rfl (lv_room (Nat.le_of_ble_eq_true rfl)) dX2_spellOutNames_16 ⟨Nat.zero_le _, Nat.zero_le _⟩)) (fun r_6 hr_6 => ?_)
        refine n_to (w := nI (lowF (w * 3 + t))) (hr_6.trans rfl) ?_
        refine n_ast (ws' := WC ad cI (sU σ_1 14 (t * 4) (lowF (w * 3 + t)))) hx hb hK hP hD hS 14 0 rfl rfl (i := t * 4) (by omega) (by decide) (WCs14 ..) dX2_spellOutNames_19 (fun H locs hP hD hS => ?_)
        refine lv_iinc (v := nI (t + 1)) (lv' := [(2, .int (nI (t + 1))), (0, .ref (ad 5)), (1, .int (nI w))]) hx hb dX2_spellOutNames_20 hl (k := 0) rfl (nI_add _ _) (by decide) rfl (fun ls hl => ?_)
        refine lv_goto (tgt := 2) hx hb dX2_spellOutNames_23 (by decide) ?_
        exact ih2 (t + 1)  _ _ _ _  (by omega) (hO_step hO) (hB_step (by omega) hB) (fun t1 ht1 => by rw [sU_at]; split; exact congrArg (fun z => lowF (w * 3 + z)) (by omega); exact h1 t1 (by omega)) hP hD hS (lv_sub hl [0, 1, 2] rfl)
  exact lp2 3 0  _ _ _ _ (by omega) (fun _ _ => rfl) (fun j hj => hI.parts hj) (fun t1 h => absurd h (by omega)) hP hD hS (lv_sub hl [0, 1, 2] rfl)
theorem in_X2_spellOut_X3 : ∀ w ∈ wsX30, w ∈ wsX2_spellOut := by decide +kernel
theorem in_X2_spellOut_X2 : ∀ w ∈ wsX20, w ∈ wsX2_spellOut := by decide +kernel
theorem lk_X2_spellOut_11 : Cond.fieldLink RX2 11 "ArrayClaims$ReadingSearch" "parts" "[I" ∈ wsX2_spellOut := by decide +kernel
def rX2_spellOut : Room := { frames := 2, cells := 0, slots := 0, locals := 46 }
set_option maxHeartbeats 4000000 in
set_option maxRecDepth 100000 in
theorem c_X2_spellOut (l : Launch) (D : va_G) (cI : ClassId) (A : Nat → Prop) (ad : Nat → Nat) (σ : Nat → Nat → Nat) (w : Nat) (hI : IC σ) (hw5 : w < 5) : Met l yX2_spellOut wsX2_spellOut rX2_spellOut (va_Pc [.ref (ad 5), .ref (ad 1), .int (nI w)] (Wc D cI A ad σ)) (va_Qv (fun u => (∀ r, r ≠ 14 → u r = σ r) ∧ (∀ j, j < 96 → u 14 j < 10) ∧ PN w (u 14) ∧ ∀ t, 7 ≤ t → t < σ 0 1 → PT σ w (u 14) t) (fun u t => Wc D cI A ad u t) A) 0 0 A := by
  refine Met.ofW (cc := cX2_spellOut) (maxL := 9) (ret := none) (by decide) rfl ?_
  intro p e s m args below meth c s₁ B hml hv
  obtain ⟨rfl, hP, hK, hD, hN, hZ⟩ := hv
  have hx := B.exec
  have hb := B.bytes
  have hr := B.returns
  have hts := atoms_spec (ws := wsX2_spellOut) B.pre
  have hown : s.vm.findClass RX2 = some m.cls := findClass_of_methodNamed B.named
  have hlocks := B.notSynchronized
  have hS : va_S A s.heap s.heap [] := va_S.rf
  have hl := lv_entry ([.ref (ad 5), .ref (ad 1), .int (nI w)]) (n := 9) (Nat.le_of_ble_eq_true rfl)
  rw [lg_entry_eq]
  generalize (lg_sl ([.ref (ad 5), .ref (ad 1), .int (nI w)]) ++ List.replicate (9 - (lg_sl ([.ref (ad 5), .ref (ad 1), .int (nI w)])).length) Slot.unset).toArray = ls at hl ⊢
  have hl : lv_has ls 9 [(0, .ref (ad 5)), (1, .ref (ad 1)), (2, .int (nI w))] := hl
  have hc := hI.terms
  refine lv_aload_n hx hb dX2_spellOut_0 rfl (lv_at hl 0 rfl) ?_
  refine lv_iload_n hx hb dX2_spellOut_1 rfl (lv_at hl 2 rfl) ?_
  refine va_callv (va_runV (As := [.int (nI w)]) (rest := []) ⟨hx, hb, hml, hown, hts⟩ (c_X2_spellOutNames l D cI A ad σ w hI hw5) (cwV 1 hts gX2_spellOut_X2_spellOutNames rfl rfl rfl (by decide +kernel) ⟨Nat.le_of_ble_eq_true rfl, Nat.le_of_ble_eq_true rfl⟩) ⟨Wc.blind, va_recv hK hP (ci := 1) (q0 := 5) rfl rfl, fun U hU hW => ⟨rfl, Wc.go hP hK hD hN hZ hS hU hW⟩⟩ rfl rfl hl.1 rfl (lv_room (Nat.le_of_ble_eq_true rfl)) dX2_spellOut_2 ⟨Nat.zero_le _, Nat.zero_le _⟩) hS (fun q _ h => h) (fun q h => h) (fun σ_1 t H1 locs ht hvm hwσ_1 hB hz1 hk1 hS => ?_)
  obtain ⟨hP, -, hD, -⟩ := hB
  rw [ht] at hP
  generalize H1 = H at hP hS ⊢
  refine lv_bipush (v := nI 7) hx hb dX2_spellOut_5 (by decide) ?_
  refine lv_istore_n (lv' := [(3, .int (nI 7)), (0, .ref (ad 5)), (1, .ref (ad 1)), (2, .int (nI w))]) hx hb dX2_spellOut_7 rfl hl (by decide) rfl (fun ls hl => ?_)
  have lp8 : ∀ (n : Nat) (t : Nat) (σ_2 : Nat → Nat → Nat) (H : Heap) (locs : List Loc) (ls : Array Slot), (t + n = σ 0 1 ∧ 7 ≤ t) → (∀ r, r ≠ 14 → σ_2 r = σ r) → (∀ j, j < 96 → σ_2 14 j < 10) → (PN w (σ_2 14)) → (∀ t1, 7 ≤ t1 → t1 < t → PT σ w (σ_2 14) t1) → va_P D vwCl (WC ad cI σ_2) H → va_D A (WC ad cI σ_2) → va_S A s.heap H locs → lv_has ls 9 [(3, .int (nI t)), (0, .ref (ad 5)), (1, .ref (ad 1)), (2, .int (nI w))] → W p l e rX2_spellOut s m (([.ref (ad 5), .ref (ad 1), .int (nI w)] : List Value).toArray) below meth c H locs 0 0 (MQ below (va_Qv (fun u => (∀ r, r ≠ 14 → u r = σ r) ∧ (∀ j, j < 96 → u 14 j < 10) ∧ PN w (u 14) ∧ ∀ t, 7 ≤ t → t < σ 0 1 → PT σ w (u 14) t) (fun u t => Wc D cI A ad u t) A) (([.ref (ad 5), .ref (ad 1), .int (nI w)] : List Value).toArray) s 0 0 A) (F0 m 8 ls []) := by
    intro n
    induction n with
    | zero =>
      intro t σ_2 H locs ls hF1 hO hB hPN hT hP hD hS hl
      have h0 := hO 0 (by decide)
      have hc1 : σ_2 0 1 = σ 0 1 := by rw [h0]
      refine lv_iload_n hx hb dX2_spellOut_8 rfl (lv_at hl 0 rfl) ?_
      refine lv_aload_n hx hb dX2_spellOut_9 rfl (lv_at hl 2 rfl) ?_
      refine va_getN (D := D) (ci := 2) (v := .int (nI (σ_2 0 1))) (C := RX3) (T := TX3) (N := 5) hx hb hts in_X2_spellOut_X3 hown hK hP 1 rfl rfl 4 (by decide) (hN.use 5 rfl) (fun _ h9 => h9) rfl dX2_spellOut_10 ?_
      refine n_icmp_ge hx hb (tgt := 160) (by omega) (by omega) dX2_spellOut_13 (by decide) (fun c_13 => ?_) (fun c_13 => ?_)
      · exact W.vret hx hb hr (fun t ht hW => ⟨⟨_, rfl, (⟨hO, hB, hPN, fun t1 q1 q2 => hT t1 q1 (by omega)⟩), Wc.go hP hK hD hN hZ hS ht hW⟩, hS.F ht⟩) hS.2.2 dX2_spellOut_160
      · omega
    | succ n ih8 =>
      intro t σ_2 H locs ls hF1 hO hB hPN hT hP hD hS hl
      have h0 := hO 0 (by decide)
      have hc1 : σ_2 0 1 = σ 0 1 := by rw [h0]
      have h6 := hO 6 (by decide)
      have h7 := hO 7 (by decide)
      have h8 := hO 8 (by decide)
      have h9 := hO 9 (by decide)
      have hm := hI.made (j := t) (by omega) (by omega)
      have h61 := hI.sorts (j := t) (by omega)
      have hlw := lowF_le (w * 3 + (σ 8 t - 1))
      refine lv_iload_n hx hb dX2_spellOut_8 rfl (lv_at hl 0 rfl) ?_
      refine lv_aload_n hx hb dX2_spellOut_9 rfl (lv_at hl 2 rfl) ?_
      refine va_getN (D := D) (ci := 2) (v := .int (nI (σ_2 0 1))) (C := RX3) (T := TX3) (N := 5) hx hb hts in_X2_spellOut_X3 hown hK hP 1 rfl rfl 4 (by decide) (hN.use 5 rfl) (fun _ h9 => h9) rfl dX2_spellOut_10 ?_
      refine n_icmp_ge hx hb (tgt := 160) (by omega) (by omega) dX2_spellOut_13 (by decide) (fun c_13 => ?_) (fun c_13 => ?_)
      · omega
      · refine lv_aload_n hx hb dX2_spellOut_16 rfl (lv_at hl 2 rfl) ?_
        refine va_getN (D := D) (ci := 2) (v := .ref (ad 7)) (C := RX3) (T := TX3) (N := 5) hx hb hts in_X2_spellOut_X3 hown hK hP 1 rfl rfl 1 (by decide) (hN.use 1 rfl) (fun _ h9 => h9) rfl dX2_spellOut_17 ?_
        refine lv_iload_n hx hb dX2_spellOut_20 rfl (lv_at hl 0 rfl) ?_
        refine n_ald hx hb hK hP 7 0 rfl rfl (i := t) (by omega) (by decide) (v := mI (σ_2 7 t)) rfl dX2_spellOut_21 ?_
        refine n_to (w := nI (σ 7 t - 1)) (by rw [h7]; exact mI_pos hm.1) ?_
        refine lv_iconst (v := nI 4) hx hb dX2_spellOut_22 (by decide) ?_
        refine n_mul hx hb dX2_spellOut_23 ?_
        refine lv_istore (lv' := [(4, .int (nI ((σ 7 t - 1) * 4))), (3, .int (nI t)), (0, .ref (ad 5)), (1, .ref (ad 1)), (2, .int (nI w))]) hx hb dX2_spellOut_24 hl (by decide) rfl (fun ls hl => ?_)
        refine lv_iload_n hx hb dX2_spellOut_26 rfl (lv_at hl 4 rfl) ?_
        refine lv_aload_n hx hb dX2_spellOut_27 rfl (lv_at hl 3 rfl) ?_
        refine va_getN (D := D) (ci := 2) (v := .ref (ad 8)) (C := RX3) (T := TX3) (N := 5) hx hb hts in_X2_spellOut_X3 hown hK hP 1 rfl rfl 2 (by decide) (hN.use 2 rfl) (fun _ h9 => h9) rfl dX2_spellOut_28 ?_
        refine lv_iload_n hx hb dX2_spellOut_31 rfl (lv_at hl 1 rfl) ?_
        refine n_ald hx hb hK hP 8 0 rfl rfl (i := t) (by omega) (by decide) (v := mI (σ_2 8 t)) rfl dX2_spellOut_32 ?_
        refine n_to (w := nI (σ 8 t - 1)) (by rw [h8]; exact mI_pos hm.2.2.1) ?_
        refine vp_callSi (va_Run.run (va_runS (As := [.int (nI w), .int (nI (σ 8 t - 1))]) (rest := []) ⟨hx, hb, hml, hown, hts⟩ (c_X2_lowest l D cI A ad σ_2 w (σ 8 t - 1) (by omega)) (va_cwS 2 hts gX2_spellOut_X2_lowest rfl rfl rfl (by decide +kernel) ⟨Nat.le_of_ble_eq_true rfl, Nat.le_of_ble_eq_true rfl⟩) ⟨Wc.blind, fun U hU hW => ⟨rfl, Wc.go hP hK hD hN hZ hS hU hW⟩⟩ rfl rfl hl.1 rfl (lv_room (Nat.le_of_ble_eq_true rfl)) dX2_spellOut_33 ⟨Nat.zero_le _, Nat.zero_le _⟩)) (fun r_3 hr_3 => ?_)
        refine n_to (w := nI (lowF (w * 3 + (σ 8 t - 1)))) (hr_3.trans rfl) ?_
        refine lv_istore (lv' := [(5, .int (nI (lowF (w * 3 + (σ 8 t - 1))))), (4, .int (nI ((σ 7 t - 1) * 4))), (3, .int (nI t)), (0, .ref (ad 5)), (1, .ref (ad 1)), (2, .int (nI w))]) hx hb dX2_spellOut_36 hl (by decide) rfl (fun ls hl => ?_)
        refine lv_aload_n hx hb dX2_spellOut_38 rfl (lv_at hl 4 rfl) ?_
        refine va_getN (D := D) (ci := 2) (v := .ref (ad 6)) (C := RX3) (T := TX3) (N := 5) hx hb hts in_X2_spellOut_X3 hown hK hP 1 rfl rfl 0 (by decide) (hN.use 0 rfl) (fun _ h9 => h9) rfl dX2_spellOut_39 ?_
        refine lv_iload_n hx hb dX2_spellOut_42 rfl (lv_at hl 2 rfl) ?_
        refine n_ald hx hb hK hP 6 0 rfl rfl (i := t) (by omega) (by decide) (v := nI (σ_2 6 t)) rfl dX2_spellOut_43 ?_
        refine lv_iconst (v := nI 1) hx hb dX2_spellOut_44 (by decide) ?_
        refine q_icmp_ne hx hb (tgt := 69) (nI_eq (by rw [h6]; omega) (by omega)) dX2_spellOut_45 (by decide) (fun c_45 => ?_) (fun c_45 => ?_)
        · have hne : σ 6 t ≠ 1 := by rw [h6] at c_45; exact c_45
          have hm9 : 1 ≤ σ 9 t ∧ σ 9 t ≤ t := by rcases hm.2.2.2.2 with q | q; exact absurd q hne; exact q.2
          refine lv_aload_n hx hb dX2_spellOut_69 rfl (lv_at hl 3 rfl) ?_
          refine va_get (D := D) (ci := 1) (v := .ref (ad 14)) (C := RX2) (T := TX2) (N := 2) hx hb hts in_X2_spellOut_X2 hown hK hP 5 rfl rfl 0 (by decide) (hts _ lk_X2_spellOut_11) (fun _ h9 => h9) rfl dX2_spellOut_70 ?_
          refine lv_aload_n hx hb dX2_spellOut_73 rfl (lv_at hl 4 rfl) ?_
          refine va_getN (D := D) (ci := 2) (v := .ref (ad 9)) (C := RX3) (T := TX3) (N := 5) hx hb hts in_X2_spellOut_X3 hown hK hP 1 rfl rfl 3 (by decide) (hN.use 3 rfl) (fun _ h9 => h9) rfl dX2_spellOut_74 ?_
          refine lv_iload_n hx hb dX2_spellOut_77 rfl (lv_at hl 2 rfl) ?_
          refine n_ald hx hb hK hP 9 0 rfl rfl (i := t) (by omega) (by decide) (v := mI (σ_2 9 t)) rfl dX2_spellOut_78 ?_
          refine n_to (w := nI (σ 9 t - 1)) (by rw [h9]; exact mI_pos (by omega)) ?_
          refine lv_iconst (v := nI 4) hx hb dX2_spellOut_79 (by decide) ?_
          refine n_mul hx hb dX2_spellOut_80 ?_
          refine n_ald hx hb hK hP 14 0 rfl rfl (i := (σ 9 t - 1) * 4) (by omega) (by decide) (v := nI (σ_2 14 ((σ 9 t - 1) * 4))) rfl dX2_spellOut_81 ?_
          refine lv_istore (lv' := [(6, .int (nI (σ_2 14 ((σ 9 t - 1) * 4)))), (5, .int (nI (lowF (w * 3 + (σ 8 t - 1))))), (4, .int (nI ((σ 7 t - 1) * 4))), (3, .int (nI t)), (0, .ref (ad 5)), (1, .ref (ad 1)), (2, .int (nI w))]) hx hb dX2_spellOut_82 hl (by decide) rfl (fun ls hl => ?_)
          refine lv_iconst (v := nI 0) hx hb dX2_spellOut_84 (by decide) ?_
          refine lv_istore (lv' := [(7, .int (nI 0)), (6, .int (nI (σ_2 14 ((σ 9 t - 1) * 4)))), (5, .int (nI (lowF (w * 3 + (σ 8 t - 1))))), (4, .int (nI ((σ 7 t - 1) * 4))), (3, .int (nI t)), (0, .ref (ad 5)), (1, .ref (ad 1)), (2, .int (nI w))]) hx hb dX2_spellOut_85 hl (by decide) rfl (fun ls hl => ?_)
          have lp87 : ∀ (n : Nat) (j : Nat) (σ_4 : Nat → Nat → Nat) (H : Heap) (locs : List Loc) (ls : Array Slot), (j + n = 4) → (∀ r, r ≠ 14 → σ_4 r = σ r) → (∀ j, j < 96 → σ_4 14 j < 10) → (PN w (σ_4 14)) → (∀ t1, 7 ≤ t1 → t1 < t → PT σ w (σ_4 14) t1) → (σ_4 14 ((σ 9 t - 1) * 4) = σ_2 14 ((σ 9 t - 1) * 4)) → (∀ j1, j1 < j → σ_4 14 (t * 4 + j1) = sv σ w (σ_4 14) t j1) → va_P D vwCl (WC ad cI σ_4) H → va_D A (WC ad cI σ_4) → va_S A s.heap H locs → lv_has ls 9 [(7, .int (nI j)), (6, .int (nI (σ_2 14 ((σ 9 t - 1) * 4)))), (5, .int (nI (lowF (w * 3 + (σ 8 t - 1))))), (4, .int (nI ((σ 7 t - 1) * 4))), (3, .int (nI t)), (0, .ref (ad 5)), (1, .ref (ad 1)), (2, .int (nI w))] → W p l e rX2_spellOut s m (([.ref (ad 5), .ref (ad 1), .int (nI w)] : List Value).toArray) below meth c H locs 0 0 (MQ below (va_Qv (fun u => (∀ r, r ≠ 14 → u r = σ r) ∧ (∀ j, j < 96 → u 14 j < 10) ∧ PN w (u 14) ∧ ∀ t, 7 ≤ t → t < σ 0 1 → PT σ w (u 14) t) (fun u t => Wc D cI A ad u t) A) (([.ref (ad 5), .ref (ad 1), .int (nI w)] : List Value).toArray) s 0 0 A) (F0 m 87 ls []) := by
            intro n
            induction n with
            | zero =>
              intro j σ_4 H locs ls hF2 hO hB hPN hT hE h4 hP hD hS hl
              refine lv_iload hx hb dX2_spellOut_87 (lv_at hl 0 rfl) ?_
              refine lv_iconst (v := nI 4) hx hb dX2_spellOut_89 (by decide) ?_
              refine n_icmp_ge hx hb (tgt := 154) (by omega) (by omega) dX2_spellOut_90 (by decide) (fun c_90 => ?_) (fun c_90 => ?_)
              · refine lv_iinc (v := nI (t + 1)) (lv' := [(3, .int (nI (t + 1))), (7, .int (nI j)), (6, .int (nI (σ_2 14 ((σ 9 t - 1) * 4)))), (5, .int (nI (lowF (w * 3 + (σ 8 t - 1))))), (4, .int (nI ((σ 7 t - 1) * 4))), (0, .ref (ad 5)), (1, .ref (ad 1)), (2, .int (nI w))]) hx hb dX2_spellOut_154 hl (k := 4) rfl (nI_add _ _) (by decide) rfl (fun ls hl => ?_)
                refine lv_goto (tgt := 8) hx hb dX2_spellOut_157 (by decide) ?_
                exact ih8 (t + 1)  _ _ _ _  (by omega) (hO) (hB) (hPN) (fun t1 q1 q2 => by rcases Nat.lt_or_ge t1 t with q | q; exact hT t1 q1 q; (obtain rfl : t1 = t := by omega); exact ⟨fun q => absurd q hne, fun _ j1 hj1 => h4 j1 (by omega)⟩) hP hD hS (lv_sub hl [0, 5, 6, 7] rfl)
              · omega
            | succ n ih87 =>
              intro j σ_4 H locs ls hF2 hO hB hPN hT hE h4 hP hD hS hl
              have hlj := lowF_le (w * 3 + j)
              refine lv_iload hx hb dX2_spellOut_87 (lv_at hl 0 rfl) ?_
              refine lv_iconst (v := nI 4) hx hb dX2_spellOut_89 (by decide) ?_
              refine n_icmp_ge hx hb (tgt := 154) (by omega) (by omega) dX2_spellOut_90 (by decide) (fun c_90 => ?_) (fun c_90 => ?_)
              · omega
              · refine lv_iload hx hb dX2_spellOut_93 (lv_at hl 0 rfl) ?_
                refine lv_iconst (v := nI 3) hx hb dX2_spellOut_95 (by decide) ?_
                refine q_icmp_eq hx hb (tgt := 114) (nI_eq (by omega) (by omega)) dX2_spellOut_96 (by decide) (fun c_96 => ?_) (fun c_96 => ?_)
                · refine lv_iconst (v := nI 0) hx hb dX2_spellOut_114 (by decide) ?_
                  refine lv_istore (lv' := [(8, .int (nI 0)), (7, .int (nI j)), (6, .int (nI (σ_2 14 ((σ 9 t - 1) * 4)))), (5, .int (nI (lowF (w * 3 + (σ 8 t - 1))))), (4, .int (nI ((σ 7 t - 1) * 4))), (3, .int (nI t)), (0, .ref (ad 5)), (1, .ref (ad 1)), (2, .int (nI w))]) hx hb dX2_spellOut_115 hl (by decide) rfl (fun ls hl => ?_)
                  refine lv_aload_n hx hb dX2_spellOut_117 rfl (lv_at hl 6 rfl) ?_
                  refine va_get (D := D) (ci := 1) (v := .ref (ad 14)) (C := RX2) (T := TX2) (N := 2) hx hb hts in_X2_spellOut_X2 hown hK hP 5 rfl rfl 0 (by decide) (hts _ lk_X2_spellOut_11) (fun _ h9 => h9) rfl dX2_spellOut_118 ?_
                  refine lv_iload_n hx hb dX2_spellOut_121 rfl (lv_at hl 5 rfl) ?_
                  refine lv_iconst (v := nI 4) hx hb dX2_spellOut_122 (by decide) ?_
                  refine n_mul hx hb dX2_spellOut_123 ?_
                  refine lv_iload hx hb dX2_spellOut_124 (lv_at hl 1 rfl) ?_
                  refine n_add hx hb dX2_spellOut_126 ?_
                  refine lv_iload hx hb dX2_spellOut_127 (lv_at hl 0 rfl) ?_
                  refine q_if_eq hx hb (tgt := 137) (nI_z (by omega)) dX2_spellOut_129 (by decide) (fun c_129 => ?_) (fun c_129 => ?_)
                  · refine lv_aload_n hx hb dX2_spellOut_137 rfl (lv_at hl 6 rfl) ?_
                    refine va_get (D := D) (ci := 1) (v := .ref (ad 14)) (C := RX2) (T := TX2) (N := 2) hx hb hts in_X2_spellOut_X2 hown hK hP 5 rfl rfl 0 (by decide) (hts _ lk_X2_spellOut_11) (fun _ h9 => h9) rfl dX2_spellOut_138 ?_
                    refine lv_iload hx hb dX2_spellOut_141 (lv_at hl 4 rfl) ?_
                    refine lv_iload hx hb dX2_spellOut_143 (lv_at hl 1 rfl) ?_
                    refine n_add hx hb dX2_spellOut_145 ?_
                    refine n_ald hx hb hK hP 14 0 rfl rfl (i := ((σ 7 t - 1) * 4) + j) (by omega) (by decide) (v := nI (σ_4 14 (((σ 7 t - 1) * 4) + j))) rfl dX2_spellOut_146 ?_
                    refine n_ast (ws' := WC ad cI (sU σ_4 14 ((t * 4) + j) (σ_4 14 (((σ 7 t - 1) * 4) + j)))) hx hb hK hP hD hS 14 0 rfl rfl (i := (t * 4) + j) (by omega) (by decide) (WCs14 ..) dX2_spellOut_147 (fun H locs hP hD hS => ?_)
                    refine lv_iinc (v := nI (j + 1)) (lv' := [(7, .int (nI (j + 1))), (8, .int (nI 0)), (6, .int (nI (σ_2 14 ((σ 9 t - 1) * 4)))), (5, .int (nI (lowF (w * 3 + (σ 8 t - 1))))), (4, .int (nI ((σ 7 t - 1) * 4))), (3, .int (nI t)), (0, .ref (ad 5)), (1, .ref (ad 1)), (2, .int (nI w))]) hx hb dX2_spellOut_148 hl (k := 1) rfl (nI_add _ _) (by decide) rfl (fun ls hl => ?_)
                    refine lv_goto (tgt := 87) hx hb dX2_spellOut_151 (by decide) ?_
                    exact ih87 (j + 1)  _ _ _ _  (by omega) (hO_step hO) (hB_step (by first | exact hB _ (by omega) | (rw [← hE]; exact hB _ (by omega))) hB) (PN_keep hPN (sU_lo (by omega))) (fun t1 q1 q2 => PT_keep hI q1 (by omega) (sU_lo (by omega)) (hT t1 q1 q2)) (by rw [sU_at, if_neg (by omega)]; exact hE) (h4_step hI (by omega) (by omega) hne (by omega) (by unfold sv; first | (rw [if_pos ⟨c_96, c_107⟩]; exact hE.symm) | (rw [if_neg (fun q => c_107 q.2)]) | (rw [if_neg (fun q => q.1 c_96)])) h4) hP hD hS (lv_sub hl [0, 2, 3, 4, 5, 6, 7, 8] rfl)
                  · exact absurd c_129 (by decide)
                · refine lv_iload_n hx hb dX2_spellOut_99 rfl (lv_at hl 7 rfl) ?_
                  refine lv_iload hx hb dX2_spellOut_100 (lv_at hl 0 rfl) ?_
                  refine vp_callSi (va_Run.run (va_runS (As := [.int (nI w), .int (nI j)]) (rest := []) ⟨hx, hb, hml, hown, hts⟩ (c_X2_lowest l D cI A ad σ_4 w (j) (by omega)) (va_cwS 2 hts gX2_spellOut_X2_lowest rfl rfl rfl (by decide +kernel) ⟨Nat.le_of_ble_eq_true rfl, Nat.le_of_ble_eq_true rfl⟩) ⟨Wc.blind, fun U hU hW => ⟨rfl, Wc.go hP hK hD hN hZ hS hU hW⟩⟩ rfl rfl hl.1 rfl (lv_room (Nat.le_of_ble_eq_true rfl)) dX2_spellOut_102 ⟨Nat.zero_le _, Nat.zero_le _⟩)) (fun r_5 hr_5 => ?_)
                  refine n_to (w := nI (lowF (w * 3 + j))) (hr_5.trans rfl) ?_
                  refine lv_iload hx hb dX2_spellOut_105 (lv_at hl 2 rfl) ?_
                  refine q_icmp_ne hx hb (tgt := 114) (nI_eq (by omega) (by omega)) dX2_spellOut_107 (by decide) (fun c_107 => ?_) (fun c_107 => ?_)
                  · refine lv_iconst (v := nI 0) hx hb dX2_spellOut_114 (by decide) ?_
                    refine lv_istore (lv' := [(8, .int (nI 0)), (7, .int (nI j)), (6, .int (nI (σ_2 14 ((σ 9 t - 1) * 4)))), (5, .int (nI (lowF (w * 3 + (σ 8 t - 1))))), (4, .int (nI ((σ 7 t - 1) * 4))), (3, .int (nI t)), (0, .ref (ad 5)), (1, .ref (ad 1)), (2, .int (nI w))]) hx hb dX2_spellOut_115 hl (by decide) rfl (fun ls hl => ?_)
                    refine lv_aload_n hx hb dX2_spellOut_117 rfl (lv_at hl 6 rfl) ?_
                    refine va_get (D := D) (ci := 1) (v := .ref (ad 14)) (C := RX2) (T := TX2) (N := 2) hx hb hts in_X2_spellOut_X2 hown hK hP 5 rfl rfl 0 (by decide) (hts _ lk_X2_spellOut_11) (fun _ h9 => h9) rfl dX2_spellOut_118 ?_
                    refine lv_iload_n hx hb dX2_spellOut_121 rfl (lv_at hl 5 rfl) ?_
                    refine lv_iconst (v := nI 4) hx hb dX2_spellOut_122 (by decide) ?_
                    refine n_mul hx hb dX2_spellOut_123 ?_
                    refine lv_iload hx hb dX2_spellOut_124 (lv_at hl 1 rfl) ?_
                    refine n_add hx hb dX2_spellOut_126 ?_
                    refine lv_iload hx hb dX2_spellOut_127 (lv_at hl 0 rfl) ?_
                    refine q_if_eq hx hb (tgt := 137) (nI_z (by omega)) dX2_spellOut_129 (by decide) (fun c_129 => ?_) (fun c_129 => ?_)
                    · refine lv_aload_n hx hb dX2_spellOut_137 rfl (lv_at hl 6 rfl) ?_
                      refine va_get (D := D) (ci := 1) (v := .ref (ad 14)) (C := RX2) (T := TX2) (N := 2) hx hb hts in_X2_spellOut_X2 hown hK hP 5 rfl rfl 0 (by decide) (hts _ lk_X2_spellOut_11) (fun _ h9 => h9) rfl dX2_spellOut_138 ?_
                      refine lv_iload hx hb dX2_spellOut_141 (lv_at hl 4 rfl) ?_
                      refine lv_iload hx hb dX2_spellOut_143 (lv_at hl 1 rfl) ?_
                      refine n_add hx hb dX2_spellOut_145 ?_
                      refine n_ald hx hb hK hP 14 0 rfl rfl (i := ((σ 7 t - 1) * 4) + j) (by omega) (by decide) (v := nI (σ_4 14 (((σ 7 t - 1) * 4) + j))) rfl dX2_spellOut_146 ?_
                      refine n_ast (ws' := WC ad cI (sU σ_4 14 ((t * 4) + j) (σ_4 14 (((σ 7 t - 1) * 4) + j)))) hx hb hK hP hD hS 14 0 rfl rfl (i := (t * 4) + j) (by omega) (by decide) (WCs14 ..) dX2_spellOut_147 (fun H locs hP hD hS => ?_)
                      refine lv_iinc (v := nI (j + 1)) (lv' := [(7, .int (nI (j + 1))), (8, .int (nI 0)), (6, .int (nI (σ_2 14 ((σ 9 t - 1) * 4)))), (5, .int (nI (lowF (w * 3 + (σ 8 t - 1))))), (4, .int (nI ((σ 7 t - 1) * 4))), (3, .int (nI t)), (0, .ref (ad 5)), (1, .ref (ad 1)), (2, .int (nI w))]) hx hb dX2_spellOut_148 hl (k := 1) rfl (nI_add _ _) (by decide) rfl (fun ls hl => ?_)
                      refine lv_goto (tgt := 87) hx hb dX2_spellOut_151 (by decide) ?_
                      exact ih87 (j + 1)  _ _ _ _  (by omega) (hO_step hO) (hB_step (by first | exact hB _ (by omega) | (rw [← hE]; exact hB _ (by omega))) hB) (PN_keep hPN (sU_lo (by omega))) (fun t1 q1 q2 => PT_keep hI q1 (by omega) (sU_lo (by omega)) (hT t1 q1 q2)) (by rw [sU_at, if_neg (by omega)]; exact hE) (h4_step hI (by omega) (by omega) hne (by omega) (by unfold sv; first | (rw [if_pos ⟨c_96, c_107⟩]; exact hE.symm) | (rw [if_neg (fun q => c_107 q.2)]) | (rw [if_neg (fun q => q.1 c_96)])) h4) hP hD hS (lv_sub hl [0, 2, 3, 4, 5, 6, 7, 8] rfl)
                    · exact absurd c_129 (by decide)
                  · refine lv_iconst (v := nI 1) hx hb dX2_spellOut_110 (by decide) ?_
                    refine lv_goto (tgt := 115) hx hb dX2_spellOut_111 (by decide) ?_
                    refine lv_istore (lv' := [(8, .int (nI 1)), (7, .int (nI j)), (6, .int (nI (σ_2 14 ((σ 9 t - 1) * 4)))), (5, .int (nI (lowF (w * 3 + (σ 8 t - 1))))), (4, .int (nI ((σ 7 t - 1) * 4))), (3, .int (nI t)), (0, .ref (ad 5)), (1, .ref (ad 1)), (2, .int (nI w))]) hx hb dX2_spellOut_115 hl (by decide) rfl (fun ls hl => ?_)
                    refine lv_aload_n hx hb dX2_spellOut_117 rfl (lv_at hl 6 rfl) ?_
                    refine va_get (D := D) (ci := 1) (v := .ref (ad 14)) (C := RX2) (T := TX2) (N := 2) hx hb hts in_X2_spellOut_X2 hown hK hP 5 rfl rfl 0 (by decide) (hts _ lk_X2_spellOut_11) (fun _ h9 => h9) rfl dX2_spellOut_118 ?_
                    refine lv_iload_n hx hb dX2_spellOut_121 rfl (lv_at hl 5 rfl) ?_
                    refine lv_iconst (v := nI 4) hx hb dX2_spellOut_122 (by decide) ?_
                    refine n_mul hx hb dX2_spellOut_123 ?_
                    refine lv_iload hx hb dX2_spellOut_124 (lv_at hl 1 rfl) ?_
                    refine n_add hx hb dX2_spellOut_126 ?_
                    refine lv_iload hx hb dX2_spellOut_127 (lv_at hl 0 rfl) ?_
                    refine q_if_eq hx hb (tgt := 137) (nI_z (by omega)) dX2_spellOut_129 (by decide) (fun c_129 => ?_) (fun c_129 => ?_)
                    · exact absurd c_129 (by decide)
                    · refine lv_iload hx hb dX2_spellOut_132 (lv_at hl 2 rfl) ?_
                      refine lv_goto (tgt := 147) hx hb dX2_spellOut_134 (by decide) ?_
                      refine n_ast (ws' := WC ad cI (sU σ_4 14 ((t * 4) + j) (σ_2 14 ((σ 9 t - 1) * 4)))) hx hb hK hP hD hS 14 0 rfl rfl (i := (t * 4) + j) (by omega) (by decide) (WCs14 ..) dX2_spellOut_147 (fun H locs hP hD hS => ?_)
                      refine lv_iinc (v := nI (j + 1)) (lv' := [(7, .int (nI (j + 1))), (8, .int (nI 1)), (6, .int (nI (σ_2 14 ((σ 9 t - 1) * 4)))), (5, .int (nI (lowF (w * 3 + (σ 8 t - 1))))), (4, .int (nI ((σ 7 t - 1) * 4))), (3, .int (nI t)), (0, .ref (ad 5)), (1, .ref (ad 1)), (2, .int (nI w))]) hx hb dX2_spellOut_148 hl (k := 1) rfl (nI_add _ _) (by decide) rfl (fun ls hl => ?_)
                      refine lv_goto (tgt := 87) hx hb dX2_spellOut_151 (by decide) ?_
                      exact ih87 (j + 1)  _ _ _ _  (by omega) (hO_step hO) (hB_step (by first | exact hB _ (by omega) | (rw [← hE]; exact hB _ (by omega))) hB) (PN_keep hPN (sU_lo (by omega))) (fun t1 q1 q2 => PT_keep hI q1 (by omega) (sU_lo (by omega)) (hT t1 q1 q2)) (by rw [sU_at, if_neg (by omega)]; exact hE) (h4_step hI (by omega) (by omega) hne (by omega) (by unfold sv; first | (rw [if_pos ⟨c_96, c_107⟩]; exact hE.symm) | (rw [if_neg (fun q => c_107 q.2)]) | (rw [if_neg (fun q => q.1 c_96)])) h4) hP hD hS (lv_sub hl [0, 2, 3, 4, 5, 6, 7, 8] rfl)
          exact lp87 4 0  _ _ _ _ (by omega) (hO) (hB) (hPN) (hT) (rfl) (fun t1 h => absurd h (by omega)) hP hD hS (lv_sub hl [0, 1, 2, 3, 4, 5, 6, 7] rfl)
        · refine lv_aload_n hx hb dX2_spellOut_48 rfl (lv_at hl 3 rfl) ?_
          refine va_get (D := D) (ci := 1) (v := .ref (ad 14)) (C := RX2) (T := TX2) (N := 2) hx hb hts in_X2_spellOut_X2 hown hK hP 5 rfl rfl 0 (by decide) (hts _ lk_X2_spellOut_11) (fun _ h9 => h9) rfl dX2_spellOut_49 ?_
          refine lv_iload_n hx hb dX2_spellOut_52 rfl (lv_at hl 2 rfl) ?_
          refine lv_iconst (v := nI 4) hx hb dX2_spellOut_53 (by decide) ?_
          refine n_mul hx hb dX2_spellOut_54 ?_
          refine lv_aload_n hx hb dX2_spellOut_55 rfl (lv_at hl 3 rfl) ?_
          refine va_get (D := D) (ci := 1) (v := .ref (ad 14)) (C := RX2) (T := TX2) (N := 2) hx hb hts in_X2_spellOut_X2 hown hK hP 5 rfl rfl 0 (by decide) (hts _ lk_X2_spellOut_11) (fun _ h9 => h9) rfl dX2_spellOut_56 ?_
          refine lv_iload hx hb dX2_spellOut_59 (lv_at hl 1 rfl) ?_
          refine lv_iload hx hb dX2_spellOut_61 (lv_at hl 0 rfl) ?_
          refine n_add hx hb dX2_spellOut_63 ?_
          refine n_ald hx hb hK hP 14 0 rfl rfl (i := ((σ 7 t - 1) * 4) + (lowF (w * 3 + (σ 8 t - 1)))) (by omega) (by decide) (v := nI (σ_2 14 (((σ 7 t - 1) * 4) + (lowF (w * 3 + (σ 8 t - 1)))))) rfl dX2_spellOut_64 ?_
          refine n_ast (ws' := WC ad cI (sU σ_2 14 (t * 4) (σ_2 14 (((σ 7 t - 1) * 4) + (lowF (w * 3 + (σ 8 t - 1))))))) hx hb hK hP hD hS 14 0 rfl rfl (i := t * 4) (by omega) (by decide) (WCs14 ..) dX2_spellOut_65 (fun H locs hP hD hS => ?_)
          refine lv_goto (tgt := 154) hx hb dX2_spellOut_66 (by decide) ?_
          refine lv_iinc (v := nI (t + 1)) (lv' := [(3, .int (nI (t + 1))), (5, .int (nI (lowF (w * 3 + (σ 8 t - 1))))), (4, .int (nI ((σ 7 t - 1) * 4))), (0, .ref (ad 5)), (1, .ref (ad 1)), (2, .int (nI w))]) hx hb dX2_spellOut_154 hl (k := 2) rfl (nI_add _ _) (by decide) rfl (fun ls hl => ?_)
          refine lv_goto (tgt := 8) hx hb dX2_spellOut_157 (by decide) ?_
          exact ih8 (t + 1)  _ _ _ _  (by omega) (hO_step hO) (hB_step (hB _ (by omega)) hB) (PN_keep hPN (sU_lo (by omega))) (fun t1 q1 q2 => by rcases Nat.lt_or_ge t1 t with q | q; exact PT_keep hI q1 (by omega) (fun j hj => by rw [sU_at, if_neg (by omega)]) (hT t1 q1 q); (obtain rfl : t1 = t := by omega); exact ⟨fun _ => by rw [sU_at, if_pos rfl, sU_at, if_neg (by omega)], fun q => absurd c_45 (by rw [h6]; exact q)⟩) hP hD hS (lv_sub hl [0, 3, 4, 5] rfl)
  exact lp8 (σ 0 1 - 7) 7  _ _ _ _ (by omega) (hwσ_1.1) (hwσ_1.2.1) (hwσ_1.2.2) (fun t1 q1 q2 => absurd q1 (by omega)) hP hD hS (lv_sub hl [0, 1, 2, 3] rfl)
def rJ7_fill_53178 : Room := { frames := 0, cells := 0, slots := 0, locals := 0 }
set_option maxHeartbeats 4000000 in
set_option maxRecDepth 100000 in
theorem c_J7_fill_53178 (l : Launch) (D : va_G) (cI : ClassId) (A : Nat → Prop) (ad : Nat → Nat) (σ : Nat → Nat → Nat)   : Met l yJ7_fill_53178 wsJ7_fill_53178 rJ7_fill_53178 (va_Pc [.ref (ad 15), .int (mI 0)] (Wc D cI A ad σ)) (va_Qv (fun u => (∀ r, r ≠ 15 → u r = σ r) ∧ (∀ j, j < 10 → u 15 j = 0)) (fun u t => Wc D cI A ad u t) A) 0 0 A := by
  refine Met.ofW (cc := cJ7_fill_53178) (maxL := 4) (ret := none) (by decide) rfl ?_
  intro p e s m args below meth c s₁ B hml hv
  obtain ⟨rfl, hP, hK, hD, hN, hZ⟩ := hv
  have hx := B.exec
  have hb := B.bytes
  have hr := B.returns
  have hts := atoms_spec (ws := wsJ7_fill_53178) B.pre
  have hown : s.vm.findClass RJ7 = some m.cls := findClass_of_methodNamed B.named
  have hlocks := B.notSynchronized
  have hS : va_S A s.heap s.heap [] := va_S.rf
  have hl := lv_entry ([.ref (ad 15), .int (mI 0)]) (n := 4) (Nat.le_of_ble_eq_true rfl)
  rw [lg_entry_eq]
  generalize (lg_sl ([.ref (ad 15), .int (mI 0)]) ++ List.replicate (4 - (lg_sl ([.ref (ad 15), .int (mI 0)])).length) Slot.unset).toArray = ls at hl ⊢
  have hl : lv_has ls 4 [(0, .ref (ad 15)), (1, .int (mI 0))] := hl
  refine lv_iconst (v := nI 0) hx hb dJ7_fill_53178_0 (by decide) ?_
  refine lv_istore_n (lv' := [(2, .int (nI 0)), (0, .ref (ad 15)), (1, .int (mI 0))]) hx hb dJ7_fill_53178_1 rfl hl (by decide) rfl (fun ls hl => ?_)
  refine lv_aload_n hx hb dJ7_fill_53178_2 rfl (lv_at hl 1 rfl) ?_
  refine va_alen (v := nI 10) hx hb hK hP 15 0 rfl rfl rfl dJ7_fill_53178_3 ?_
  refine lv_istore_n (lv' := [(3, .int (nI 10)), (2, .int (nI 0)), (0, .ref (ad 15)), (1, .int (mI 0))]) hx hb dJ7_fill_53178_4 rfl hl (by decide) rfl (fun ls hl => ?_)
  have lp5 : ∀ (n : Nat) (k : Nat) (σ_1 : Nat → Nat → Nat) (H : Heap) (locs : List Loc) (ls : Array Slot), (k + n = 10) → (∀ r, r ≠ 15 → σ_1 r = σ r) → (∀ j, j < k → σ_1 15 j = 0) → va_P D vwCl (WC ad cI σ_1) H → va_D A (WC ad cI σ_1) → va_S A s.heap H locs → lv_has ls 4 [(2, .int (nI k)), (3, .int (nI 10)), (0, .ref (ad 15)), (1, .int (mI 0))] → W p l e rJ7_fill_53178 s m (([.ref (ad 15), .int (mI 0)] : List Value).toArray) below meth c H locs 0 0 (MQ below (va_Qv (fun u => (∀ r, r ≠ 15 → u r = σ r) ∧ (∀ j, j < 10 → u 15 j = 0)) (fun u t => Wc D cI A ad u t) A) (([.ref (ad 15), .int (mI 0)] : List Value).toArray) s 0 0 A) (F0 m 5 ls []) := by
    intro n
    induction n with
    | zero =>
      intro k σ_1 H locs ls hF1 hO hB hP hD hS hl
      refine lv_iload_n hx hb dJ7_fill_53178_5 rfl (lv_at hl 0 rfl) ?_
      refine lv_iload_n hx hb dJ7_fill_53178_6 rfl (lv_at hl 1 rfl) ?_
      refine n_icmp_ge hx hb (tgt := 20) (by omega) (by omega) dJ7_fill_53178_7 (by decide) (fun c_7 => ?_) (fun c_7 => ?_)
      · exact W.vret hx hb hr (fun t ht hW => ⟨⟨_, rfl, (⟨hO, fun j hj => hB j (by omega)⟩), Wc.go hP hK hD hN hZ hS ht hW⟩, hS.F ht⟩) hS.2.2 dJ7_fill_53178_20
      · omega
    | succ n ih5 =>
      intro k σ_1 H locs ls hF1 hO hB hP hD hS hl
      refine lv_iload_n hx hb dJ7_fill_53178_5 rfl (lv_at hl 0 rfl) ?_
      refine lv_iload_n hx hb dJ7_fill_53178_6 rfl (lv_at hl 1 rfl) ?_
      refine n_icmp_ge hx hb (tgt := 20) (by omega) (by omega) dJ7_fill_53178_7 (by decide) (fun c_7 => ?_) (fun c_7 => ?_)
      · omega
      · refine lv_aload_n hx hb dJ7_fill_53178_10 rfl (lv_at hl 2 rfl) ?_
        refine lv_iload_n hx hb dJ7_fill_53178_11 rfl (lv_at hl 0 rfl) ?_
        refine lv_iload_n hx hb dJ7_fill_53178_12 rfl (lv_at hl 3 rfl) ?_
        refine n_ast (ws' := WC ad cI (sU σ_1 15 k 0)) hx hb hK hP hD hS 15 0 rfl rfl (i := k) (by omega) (by decide) (WCs15 ..) dJ7_fill_53178_13 (fun H locs hP hD hS => ?_)
        refine lv_iinc (v := nI (k + 1)) (lv' := [(2, .int (nI (k + 1))), (3, .int (nI 10)), (0, .ref (ad 15)), (1, .int (mI 0))]) hx hb dJ7_fill_53178_14 hl (k := 0) rfl (nI_add _ _) (by decide) rfl (fun ls hl => ?_)
        refine lv_goto (tgt := 5) hx hb dJ7_fill_53178_17 (by decide) ?_
        exact ih5 (k + 1)  _ _ _ _  (by omega) (hO_step hO) (fun j1 hj1 => by rw [sU_at]; split; rfl; exact hB j1 (by omega)) hP hD hS (lv_sub hl [0, 1, 2, 3] rfl)
  exact lp5 10 0  _ _ _ _ (by omega) (fun _ _ => rfl) (fun t1 h => absurd h (by omega)) hP hD hS (lv_sub hl [1, 0, 2, 3] rfl)
