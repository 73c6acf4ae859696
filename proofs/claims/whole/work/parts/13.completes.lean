theorem in_X2_completes_X0 : ∀ w ∈ wsX00, w ∈ wsX2_completes := by decide +kernel
theorem in_X2_completes_X2 : ∀ w ∈ wsX20, w ∈ wsX2_completes := by decide +kernel
theorem lk_X2_completes_15 : Cond.fieldLink RX2 15 "ArrayClaims$ReadingSearch" "chosen" "[I" ∈ wsX2_completes := by decide +kernel
def rX2_completes (d : Nat) : Room := { frames := 3 + d, cells := 0, slots := 0, locals := 140 + 29 * d }
theorem holdF_le (σ : Nat → Nat → Nat) (cl : Nat) : ∀ n k an, an ≤ 2 → holdF σ cl n k an ≤ 2
  | 0, _, _, h => h
  | n + 1, k, an, h => by
    unfold holdF
    split
    · omega
    · split
      · exact holdF_le σ cl n _ _ (by omega)
      · exact holdF_le σ cl n _ _ h
set_option maxHeartbeats 4000000 in
set_option maxRecDepth 100000 in
theorem c_X2_completes (l : Launch) (D : va_G) (cI : ClassId) (A : Nat → Prop) (ad : Nat → Nat) : ∀ (d : Nat) (σ : Nat → Nat → Nat) (f dp : Nat), IC σ → opn σ < d → dp + opn σ ≤ 10 → 2 ≤ f → f + opn σ ≤ 12 → Met l yX2_completes wsX2_completes (rX2_completes d) (va_Pc [.ref (ad 5), .ref (ad 1), .ref (ad 4), .int (nI f), .int (nI dp)] (Wc D cI A ad σ)) (va_Qi (fun r u => r = bI (cmpF d σ f) ∧ (cmpF d σ f = false → u = σ) ∧ (∀ k, k ≠ 15 → u k = σ k) ∧ (∀ j, j < 10 → u 15 j ≤ 20)) (fun u t => Wc D cI A ad u t) A) 0 0 A := by
  intro d
  induction d with
  | zero => intro σ f dp _ h; exact absurd h (Nat.not_lt_zero _)
  | succ d ih =>
  intro σ f dp hI hd hdp hf2 hf
  refine Met.ofW (cc := cX2_completes) (maxL := 10) (ret := (some .boolean)) (by decide) rfl ?_
  intro p e s m args below meth c s₁ B hml hv
  obtain ⟨rfl, hP, hK, hD, hN, hZ⟩ := hv
  have hx := B.exec
  have hb := B.bytes
  have hr := B.returns
  have hts := atoms_spec (ws := wsX2_completes) B.pre
  have hown : s.vm.findClass RX2 = some m.cls := findClass_of_methodNamed B.named
  have hlocks := B.notSynchronized
  have hS : va_S A s.heap s.heap [] := va_S.rf
  have hl := lv_entry ([.ref (ad 5), .ref (ad 1), .ref (ad 4), .int (nI f), .int (nI dp)]) (n := 10) (Nat.le_of_ble_eq_true rfl)
  rw [lg_entry_eq]
  generalize (lg_sl ([.ref (ad 5), .ref (ad 1), .ref (ad 4), .int (nI f), .int (nI dp)]) ++ List.replicate (10 - (lg_sl ([.ref (ad 5), .ref (ad 1), .ref (ad 4), .int (nI f), .int (nI dp)])).length) Slot.unset).toArray = ls at hl ⊢
  have hl : lv_has ls 10 [(0, .ref (ad 5)), (1, .ref (ad 1)), (2, .ref (ad 4)), (3, .int (nI f)), (4, .int (nI dp))] := hl
  have hca := hI.asked
  refine lv_iconst (v := mI 0) hx hb dX2_completes_0 (by decide) ?_
  refine lv_istore (lv' := [(5, .int (mI 0)), (0, .ref (ad 5)), (1, .ref (ad 1)), (2, .ref (ad 4)), (3, .int (nI f)), (4, .int (nI dp))]) hx hb dX2_completes_1 hl (by decide) rfl (fun ls hl => ?_)
  refine lv_aload_n hx hb dX2_completes_3 rfl (lv_at hl 3 rfl) ?_
  refine va_getN (D := D) (ci := 0) (v := .int (nI (σ 0 4))) (C := RX0) (T := TX0) (N := 3) hx hb hts in_X2_completes_X0 hown hK hP 4 rfl rfl 2 (by decide) (hN.use 6 rfl) (fun _ h9 => h9) rfl dX2_completes_4 ?_
  refine lv_iconst (v := nI 1) hx hb dX2_completes_7 (by decide) ?_
  refine n_dec hx hb dX2_completes_8 ?_
  refine lv_istore (lv' := [(6, .int (mI (σ 0 4))), (5, .int (mI 0)), (0, .ref (ad 5)), (1, .ref (ad 1)), (2, .ref (ad 4)), (3, .int (nI f)), (4, .int (nI dp))]) hx hb dX2_completes_9 hl (by decide) rfl (fun ls hl => ?_)
  have lp11 : ∀ (n : Nat) (cn : Nat) (un : Nat) (ls : Array Slot), (cn = n ∧ n ≤ σ 0 4) → (un ≤ σ 0 4) → (scF σ (σ 0 4) 0 = scF σ n un) → lv_has ls 10 [(6, .int (mI cn)), (5, .int (mI un)), (0, .ref (ad 5)), (1, .ref (ad 1)), (2, .ref (ad 4)), (3, .int (nI f)), (4, .int (nI dp))] → W p l e (rX2_completes (d + 1)) s m (([.ref (ad 5), .ref (ad 1), .ref (ad 4), .int (nI f), .int (nI dp)] : List Value).toArray) below meth c s.heap [] 0 0 (MQ below (va_Qi (fun r u => r = bI (cmpF (d + 1) σ f) ∧ (cmpF (d + 1) σ f = false → u = σ) ∧ (∀ k, k ≠ 15 → u k = σ k) ∧ (∀ j, j < 10 → u 15 j ≤ 20)) (fun u t => Wc D cI A ad u t) A) (([.ref (ad 5), .ref (ad 1), .ref (ad 4), .int (nI f), .int (nI dp)] : List Value).toArray) s 0 0 A) (F0 m 11 ls []) := by
    intro n
    induction n with
    | zero =>
      intro cn un ls hF1 hun hF hl
      obtain ⟨rfl, hF1⟩ := hF1
      have hF : scF σ (σ 0 4) 0 = some un := hF
      refine lv_iload hx hb dX2_completes_11 (lv_at hl 0 rfl) ?_
      refine q_if_lt hx hb (tgt := 49) (mI_neg (by omega)) dX2_completes_13 (by decide) (fun c_13 => ?_) (fun c_13 => ?_)
      · refine lv_iload hx hb dX2_completes_49 (lv_at hl 1 rfl) ?_
        refine lv_iconst (v := mI 0) hx hb dX2_completes_51 (by decide) ?_
        refine q_icmp_ne hx hb (tgt := 57) (mI_eq (by omega) (by omega)) dX2_completes_52 (by decide) (fun c_52 => ?_) (fun c_52 => ?_)
        · refine lv_aload_n hx hb dX2_completes_57 rfl (lv_at hl 2 rfl) ?_
          refine lv_aload_n hx hb dX2_completes_58 rfl (lv_at hl 3 rfl) ?_
          refine lv_aload_n hx hb dX2_completes_59 rfl (lv_at hl 4 rfl) ?_
          refine lv_iload hx hb dX2_completes_60 (lv_at hl 1 rfl) ?_
          refine n_to (w := nI (un - 1)) (mI_pos (by omega)) ?_
          refine vp_callSi (va_Run.run (va_runV (As := [.ref (ad 1), .ref (ad 4), .int (nI (un - 1))]) (rest := []) ⟨hx, hb, hml, hown, hts⟩ (c_X2_openSpot l D cI A ad σ (un - 1) hI (by omega)) (cwV 3 hts gX2_completes_X2_openSpot rfl rfl rfl (by decide +kernel) ⟨by simp only [rX2_completes, rX2_holding, rX2_openSpot]; omega, by simp only [rX2_completes, rX2_holding, rX2_openSpot]; omega⟩) ⟨Wc.blind, va_recv hK hP (ci := 1) (q0 := 5) rfl rfl, fun U hU hW => ⟨rfl, Wc.go hP hK hD hN hZ hS hU hW⟩⟩ rfl rfl hl.1 rfl (lv_room (Nat.le_of_ble_eq_true rfl)) dX2_completes_62 ⟨Nat.zero_le _, Nat.zero_le _⟩)) (fun r_1 hr_1 => ?_)
          refine n_to (w := mI (osF σ (un - 1) (σ 13 (un - 1)) 0)) (hr_1.trans rfl) ?_
          refine lv_istore (lv' := [(6, .int (mI (osF σ (un - 1) (σ 13 (un - 1)) 0))), (5, .int (mI un)), (0, .ref (ad 5)), (1, .ref (ad 1)), (2, .ref (ad 4)), (3, .int (nI f)), (4, .int (nI dp))]) hx hb dX2_completes_65 hl (by decide) rfl (fun ls hl => ?_)
          obtain ⟨sp, hsp⟩ : ∃ z, z = osF σ (un - 1) (σ 13 (un - 1)) 0 := ⟨_, rfl⟩
          rw [← hsp] at hl
          have hop := osF_open hI (cl := un - 1) (σ 13 (un - 1)) 0 (by have := hI.asize (j := un - 1) (by omega); omega)
          rw [← hsp] at hop
          have hsl : sp ≤ 10 := by by_cases q : sp = 0; omega; have := (hop q).1; omega
          refine lv_iload hx hb dX2_completes_67 (lv_at hl 0 rfl) ?_
          refine lv_iconst (v := mI 0) hx hb dX2_completes_69 (by decide) ?_
          refine q_icmp_eq hx hb (tgt := 80) (mI_eq (by omega) (by omega)) dX2_completes_70 (by decide) (fun c_70 => ?_) (fun c_70 => ?_)
          · have hcz : cmpF (d + 1) σ f = false := by (obtain ⟨u1, rfl⟩ : ∃ u1, un = u1 + 1 := ⟨un - 1, by omega⟩); rw [cmpF_some hF]; simp only [Nat.add_sub_cancel] at hsp; rw [← hsp, if_pos c_70]
            refine lv_iconst (v := nI 0) hx hb dX2_completes_80 (by decide) ?_
            exact W.zret (v := nI 0) hx hb hr (n_nar0) (fun t ht hW => ⟨⟨_, σ, rfl, (⟨by rw [hcz]; rfl, fun _ => rfl, fun _ _ => rfl, fun j hj => hI.chosen hj⟩), Wc.go hP hK hD hN hZ hS ht hW⟩, hS.F ht⟩) hS.2.2 dX2_completes_81
          · rw [mI_pos (show 1 ≤ sp by omega)] at hl
            obtain ⟨hop1, hop2⟩ := hop c_70
            have hcm : cmpF (d + 1) σ f = anyF (fun el => cmpF d (sU σ 15 (sp - 1) (el + 1)) (if el = f then f + 1 else f)) (toF sp f + 1 - frF sp) (frF sp) := by (obtain ⟨u1, rfl⟩ : ∃ u1, un = u1 + 1 := ⟨un - 1, by omega⟩); rw [cmpF_some hF]; simp only [Nat.add_sub_cancel] at hsp; rw [← hsp, if_neg c_70]
            refine lv_iload hx hb dX2_completes_73 (lv_at hl 6 rfl) ?_
            refine lv_bipush (v := nI 10) hx hb dX2_completes_75 (by decide) ?_
            refine n_icmp_le hx hb (tgt := 82) (by omega) (by omega) dX2_completes_77 (by decide) (fun c_77 => ?_) (fun c_77 => ?_)
            · refine lv_iload hx hb dX2_completes_82 (lv_at hl 0 rfl) ?_
              refine lv_bipush (v := nI 9) hx hb dX2_completes_84 (by decide) ?_
              refine q_icmp_ne hx hb (tgt := 93) (nI_eq (by omega) (by omega)) dX2_completes_86 (by decide) (fun c_86 => ?_) (fun c_86 => ?_)
              · refine lv_iconst (v := nI 2) hx hb dX2_completes_93 (by decide) ?_
                refine lv_istore (lv' := [(7, .int (nI 2)), (6, .int (nI (sp - 1))), (5, .int (mI un)), (0, .ref (ad 5)), (1, .ref (ad 1)), (2, .ref (ad 4)), (3, .int (nI f)), (4, .int (nI dp))]) hx hb dX2_completes_94 hl (by decide) rfl (fun ls hl => ?_)
                refine lv_iload hx hb dX2_completes_96 (lv_at hl 1 rfl) ?_
                refine lv_bipush (v := nI 9) hx hb dX2_completes_98 (by decide) ?_
                refine q_icmp_ne hx hb (tgt := 107) (nI_eq (by omega) (by omega)) dX2_completes_100 (by decide) (fun c_100 => ?_) (fun c_100 => ?_)
                · refine lv_iload_n hx hb dX2_completes_107 rfl (lv_at hl 6 rfl) ?_
                  refine lv_istore (lv' := [(8, .int (nI f)), (7, .int (nI 2)), (6, .int (nI (sp - 1))), (5, .int (mI un)), (0, .ref (ad 5)), (1, .ref (ad 1)), (2, .ref (ad 4)), (3, .int (nI f)), (4, .int (nI dp))]) hx hb dX2_completes_108 hl (by decide) rfl (fun ls hl => ?_)
                  refine lv_iload hx hb dX2_completes_110 (lv_at hl 1 rfl) ?_
                  refine lv_istore (lv' := [(9, .int (nI 2)), (8, .int (nI f)), (7, .int (nI 2)), (6, .int (nI (sp - 1))), (5, .int (mI un)), (0, .ref (ad 5)), (1, .ref (ad 1)), (2, .ref (ad 4)), (3, .int (nI f)), (4, .int (nI dp))]) hx hb dX2_completes_112 hl (by decide) rfl (fun ls hl => ?_)
                  have lp114 : ∀ (n : Nat) (el : Nat) (σ_2 : Nat → Nat → Nat) (H : Heap) (locs : List Loc) (ls : Array Slot), (el + n = f + 1) → (2 ≤ el) → (∀ b, sU σ_2 15 (sp - 1) b = sU σ 15 (sp - 1) b) → (anyF (fun el => cmpF d (sU σ 15 (sp - 1) (el + 1)) (if el = f then f + 1 else f)) (toF sp f + 1 - frF sp) (frF sp) = anyF (fun el => cmpF d (sU σ 15 (sp - 1) (el + 1)) (if el = f then f + 1 else f)) n el) → va_P D vwCl (WC ad cI σ_2) H → va_D A (WC ad cI σ_2) → va_S A s.heap H locs → lv_has ls 10 [(9, .int (nI el)), (8, .int (nI f)), (7, .int (nI 2)), (6, .int (nI (sp - 1))), (5, .int (mI un)), (0, .ref (ad 5)), (1, .ref (ad 1)), (2, .ref (ad 4)), (3, .int (nI f)), (4, .int (nI dp))] → W p l e (rX2_completes (d + 1)) s m (([.ref (ad 5), .ref (ad 1), .ref (ad 4), .int (nI f), .int (nI dp)] : List Value).toArray) below meth c H locs 0 0 (MQ below (va_Qi (fun r u => r = bI (cmpF (d + 1) σ f) ∧ (cmpF (d + 1) σ f = false → u = σ) ∧ (∀ k, k ≠ 15 → u k = σ k) ∧ (∀ j, j < 10 → u 15 j ≤ 20)) (fun u t => Wc D cI A ad u t) A) (([.ref (ad 5), .ref (ad 1), .ref (ad 4), .int (nI f), .int (nI dp)] : List Value).toArray) s 0 0 A) (F0 m 114 ls []) := by
                    intro n
                    induction n with
                    | zero =>
                      intro el σ_2 H locs ls hE1 hE2 hS9 hA hP hD hS hl
                      refine lv_iload hx hb dX2_completes_114 (lv_at hl 0 rfl) ?_
                      refine lv_iload hx hb dX2_completes_116 (lv_at hl 1 rfl) ?_
                      refine n_icmp_gt hx hb (tgt := 164) (by omega) (by omega) dX2_completes_118 (by decide) (fun c_118 => ?_) (fun c_118 => ?_)
                      · refine lv_aload_n hx hb dX2_completes_164 rfl (lv_at hl 5 rfl) ?_
                        refine va_get (D := D) (ci := 1) (v := .ref (ad 15)) (C := RX2) (T := TX2) (N := 2) hx hb hts in_X2_completes_X2 hown hK hP 5 rfl rfl 1 (by decide) (hts _ lk_X2_completes_15) (fun _ h9 => h9) rfl dX2_completes_165 ?_
                        refine lv_iload hx hb dX2_completes_168 (lv_at hl 3 rfl) ?_
                        refine lv_iconst (v := mI 0) hx hb dX2_completes_170 (by decide) ?_
                        refine n_ast (ws' := WC ad cI (sU σ_2 15 (sp - 1) 0)) hx hb hK hP hD hS 15 0 rfl rfl (i := sp - 1) (by omega) (by decide) (WCs15 ..) dX2_completes_171 (fun H locs hP hD hS => ?_)
                        have hcf : cmpF (d + 1) σ f = false := by rw [hcm, hA]; rfl
                        refine lv_iconst (v := nI 0) hx hb dX2_completes_172 (by decide) ?_
                        exact W.zret (v := nI 0) hx hb hr (n_nar0) (fun t ht hW => ⟨⟨_, (sU σ_2 15 (sp - 1) 0), rfl, (⟨by rw [hcf]; rfl, fun _ => by rw [hS9, sU_id hop2], fun k hk => by rw [hS9, sU_ne _ _ _ hk], fun j hj => by rw [hS9, sU_id hop2]; exact hI.chosen hj⟩), Wc.go hP hK hD hN hZ hS ht hW⟩, hS.F ht⟩) hS.2.2 dX2_completes_173
                      · omega
                    | succ n ih114 =>
                      intro el σ_2 H locs ls hE1 hE2 hS9 hA hP hD hS hl
                      refine lv_iload hx hb dX2_completes_114 (lv_at hl 0 rfl) ?_
                      refine lv_iload hx hb dX2_completes_116 (lv_at hl 1 rfl) ?_
                      refine n_icmp_gt hx hb (tgt := 164) (by omega) (by omega) dX2_completes_118 (by decide) (fun c_118 => ?_) (fun c_118 => ?_)
                      · omega
                      · refine lv_aload_n hx hb dX2_completes_121 rfl (lv_at hl 5 rfl) ?_
                        refine va_get (D := D) (ci := 1) (v := .ref (ad 15)) (C := RX2) (T := TX2) (N := 2) hx hb hts in_X2_completes_X2 hown hK hP 5 rfl rfl 1 (by decide) (hts _ lk_X2_completes_15) (fun _ h9 => h9) rfl dX2_completes_122 ?_
                        refine lv_iload hx hb dX2_completes_125 (lv_at hl 3 rfl) ?_
                        refine lv_iload hx hb dX2_completes_127 (lv_at hl 0 rfl) ?_
                        refine n_to (mI_succ _).symm ?_
                        refine n_ast (ws' := WC ad cI (sU σ_2 15 (sp - 1) (el + 1))) hx hb hK hP hD hS 15 0 rfl rfl (i := sp - 1) (by omega) (by decide) (WCs15 ..) dX2_completes_129 (fun H locs hP hD hS => ?_)
                        rw [hS9] at hP hD
                        have hon := opn_set (σ := σ) (i := sp - 1) (v := el + 1) hop1 hop2 (by omega)
                        refine lv_aload_n hx hb dX2_completes_130 rfl (lv_at hl 5 rfl) ?_
                        refine lv_aload_n hx hb dX2_completes_131 rfl (lv_at hl 6 rfl) ?_
                        refine lv_aload_n hx hb dX2_completes_132 rfl (lv_at hl 7 rfl) ?_
                        refine lv_iload hx hb dX2_completes_133 (lv_at hl 0 rfl) ?_
                        refine lv_iload_n hx hb dX2_completes_135 rfl (lv_at hl 8 rfl) ?_
                        refine q_icmp_ne hx hb (tgt := 145) (nI_eq (by omega) (by omega)) dX2_completes_136 (by decide) (fun c_136 => ?_) (fun c_136 => ?_)
                        · refine lv_iload_n hx hb dX2_completes_145 rfl (lv_at hl 8 rfl) ?_
                          refine lv_iload hx hb dX2_completes_146 (lv_at hl 9 rfl) ?_
                          refine lv_iconst (v := nI 1) hx hb dX2_completes_148 (by decide) ?_
                          refine n_add hx hb dX2_completes_149 ?_
                          refine va_calli (va_runV (As := [.ref (ad 1), .ref (ad 4), .int (nI f), .int (nI (dp + 1))]) (rest := []) ⟨hx, hb, hml, hown, hts⟩ (ih (sU σ 15 (sp - 1) (el + 1)) f (dp + 1) (hI.set15 (by omega)) (by omega) (by omega) (by omega) (by omega)) (cwV 4 hts gX2_completes_X2_completes rfl rfl rfl (by decide +kernel) ⟨by simp only [rX2_completes, rX2_holding, rX2_openSpot]; omega, by simp only [rX2_completes, rX2_holding, rX2_openSpot]; omega⟩) ⟨Wc.blind, va_recv hK hP (ci := 1) (q0 := 5) rfl rfl, fun U hU hW => ⟨rfl, Wc.go hP hK hD hN hZ hS hU hW⟩⟩ rfl rfl hl.1 rfl (lv_room (Nat.le_of_ble_eq_true rfl)) dX2_completes_150 ⟨Nat.zero_le _, Nat.zero_le _⟩) hS (fun q _ h => h) (fun q h => h) (fun r_4 σ_3 t H1 locs ht hvm hwσ_3 hB hz1 hk1 hS => ?_)
                          obtain ⟨hr_4, hwσ_3⟩ := hwσ_3
                          refine n_to (w := bI (cmpF d (sU σ 15 (sp - 1) (el + 1)) f)) (hr_4) ?_
                          obtain ⟨hP, -, hD, -⟩ := hB
                          rw [ht] at hP
                          generalize H1 = H at hP hS ⊢
                          refine q_if_eq hx hb (tgt := 158) (bI_z) dX2_completes_153 (by decide) (fun c_153 => ?_) (fun c_153 => ?_)
                          · have hcr : cmpF d (sU σ 15 (sp - 1) (el + 1)) (if el = f then f + 1 else f) = false := by first | (simp only [if_pos c_136]; exact c_153) | (simp only [if_neg c_136]; exact c_153)
                            obtain rfl := hwσ_3.1 c_153
                            refine lv_iinc (v := nI (el + 1)) (lv' := [(9, .int (nI (el + 1))), (8, .int (nI f)), (7, .int (nI 2)), (6, .int (nI (sp - 1))), (5, .int (mI un)), (0, .ref (ad 5)), (1, .ref (ad 1)), (2, .ref (ad 4)), (3, .int (nI f)), (4, .int (nI dp))]) hx hb dX2_completes_158 hl (k := 0) rfl (nI_add _ _) (by decide) rfl (fun ls hl => ?_)
                            refine lv_goto (tgt := 114) hx hb dX2_completes_161 (by decide) ?_
                            exact ih114 (el + 1)  _ _ _ _  (by omega) (by omega) (fun b => by rw [sU_sU]) (by rw [hA]; simp only [anyF]; rw [if_neg (by rw [hcr]; decide)]) hP hD hS (lv_sub hl [0, 1, 2, 3, 4, 5, 6, 7, 8, 9] rfl)
                          · have hcr : cmpF d (sU σ 15 (sp - 1) (el + 1)) (if el = f then f + 1 else f) = true := by first | (simp only [if_pos c_136]; exact ts_nf c_153) | (simp only [if_neg c_136]; exact ts_nf c_153)
                            have hct : cmpF (d + 1) σ f = true := by rw [hcm, hA]; simp only [anyF]; rw [if_pos hcr]
                            refine lv_iconst (v := nI 1) hx hb dX2_completes_156 (by decide) ?_
                            exact W.zret (v := nI 1) hx hb hr (n_nar1) (fun t ht hW => ⟨⟨_, σ_3, rfl, (⟨by rw [hct]; rfl, fun q => absurd (hct.symm.trans q) (by decide), fun k hk => by rw [hwσ_3.2.1 k hk, sU_ne _ _ _ hk], hwσ_3.2.2⟩), Wc.go hP hK hD hN hZ hS ht hW⟩, hS.F ht⟩) hS.2.2 dX2_completes_157
                        · refine lv_iload_n hx hb dX2_completes_139 rfl (lv_at hl 8 rfl) ?_
                          refine lv_iconst (v := nI 1) hx hb dX2_completes_140 (by decide) ?_
                          refine n_add hx hb dX2_completes_141 ?_
                          refine lv_goto (tgt := 146) hx hb dX2_completes_142 (by decide) ?_
                          refine lv_iload hx hb dX2_completes_146 (lv_at hl 9 rfl) ?_
                          refine lv_iconst (v := nI 1) hx hb dX2_completes_148 (by decide) ?_
                          refine n_add hx hb dX2_completes_149 ?_
                          refine va_calli (va_runV (As := [.ref (ad 1), .ref (ad 4), .int (nI (f + 1)), .int (nI (dp + 1))]) (rest := []) ⟨hx, hb, hml, hown, hts⟩ (ih (sU σ 15 (sp - 1) (el + 1)) (f + 1) (dp + 1) (hI.set15 (by omega)) (by omega) (by omega) (by omega) (by omega)) (cwV 4 hts gX2_completes_X2_completes rfl rfl rfl (by decide +kernel) ⟨by simp only [rX2_completes, rX2_holding, rX2_openSpot]; omega, by simp only [rX2_completes, rX2_holding, rX2_openSpot]; omega⟩) ⟨Wc.blind, va_recv hK hP (ci := 1) (q0 := 5) rfl rfl, fun U hU hW => ⟨rfl, Wc.go hP hK hD hN hZ hS hU hW⟩⟩ rfl rfl hl.1 rfl (lv_room (Nat.le_of_ble_eq_true rfl)) dX2_completes_150 ⟨Nat.zero_le _, Nat.zero_le _⟩) hS (fun q _ h => h) (fun q h => h) (fun r_6 σ_5 t H1 locs ht hvm hwσ_5 hB hz1 hk1 hS => ?_)
                          obtain ⟨hr_6, hwσ_5⟩ := hwσ_5
                          refine n_to (w := bI (cmpF d (sU σ 15 (sp - 1) (el + 1)) (f + 1))) (hr_6) ?_
                          obtain ⟨hP, -, hD, -⟩ := hB
                          rw [ht] at hP
                          generalize H1 = H at hP hS ⊢
                          refine q_if_eq hx hb (tgt := 158) (bI_z) dX2_completes_153 (by decide) (fun c_153 => ?_) (fun c_153 => ?_)
                          · have hcr : cmpF d (sU σ 15 (sp - 1) (el + 1)) (if el = f then f + 1 else f) = false := by first | (simp only [if_pos c_136]; exact c_153) | (simp only [if_neg c_136]; exact c_153)
                            obtain rfl := hwσ_5.1 c_153
                            refine lv_iinc (v := nI (el + 1)) (lv' := [(9, .int (nI (el + 1))), (8, .int (nI f)), (7, .int (nI 2)), (6, .int (nI (sp - 1))), (5, .int (mI un)), (0, .ref (ad 5)), (1, .ref (ad 1)), (2, .ref (ad 4)), (3, .int (nI f)), (4, .int (nI dp))]) hx hb dX2_completes_158 hl (k := 0) rfl (nI_add _ _) (by decide) rfl (fun ls hl => ?_)
                            refine lv_goto (tgt := 114) hx hb dX2_completes_161 (by decide) ?_
                            exact ih114 (el + 1)  _ _ _ _  (by omega) (by omega) (fun b => by rw [sU_sU]) (by rw [hA]; simp only [anyF]; rw [if_neg (by rw [hcr]; decide)]) hP hD hS (lv_sub hl [0, 1, 2, 3, 4, 5, 6, 7, 8, 9] rfl)
                          · have hcr : cmpF d (sU σ 15 (sp - 1) (el + 1)) (if el = f then f + 1 else f) = true := by first | (simp only [if_pos c_136]; exact ts_nf c_153) | (simp only [if_neg c_136]; exact ts_nf c_153)
                            have hct : cmpF (d + 1) σ f = true := by rw [hcm, hA]; simp only [anyF]; rw [if_pos hcr]
                            refine lv_iconst (v := nI 1) hx hb dX2_completes_156 (by decide) ?_
                            exact W.zret (v := nI 1) hx hb hr (n_nar1) (fun t ht hW => ⟨⟨_, σ_5, rfl, (⟨by rw [hct]; rfl, fun q => absurd (hct.symm.trans q) (by decide), fun k hk => by rw [hwσ_5.2.1 k hk, sU_ne _ _ _ hk], hwσ_5.2.2⟩), Wc.go hP hK hD hN hZ hS ht hW⟩, hS.F ht⟩) hS.2.2 dX2_completes_157
                  have htf : toF sp f = f := by unfold toF; first | (rw [if_pos c_86]) | (rw [if_neg c_86])
                  have hff : frF sp = 2 := by unfold frF; first | (rw [if_pos c_86]) | (rw [if_neg c_86])
                  exact lp114 (f + 1 - 2) 2  _ _ _ _ (by omega) (by omega) (fun _ => rfl) (by rw [htf, hff]) hP hD hS (lv_sub hl [0, 1, 2, 3, 4, 5, 6, 7, 8, 9] rfl)
                · omega
              · refine lv_iconst (v := nI 0) hx hb dX2_completes_89 (by decide) ?_
                refine lv_goto (tgt := 94) hx hb dX2_completes_90 (by decide) ?_
                refine lv_istore (lv' := [(7, .int (nI 0)), (6, .int (nI (sp - 1))), (5, .int (mI un)), (0, .ref (ad 5)), (1, .ref (ad 1)), (2, .ref (ad 4)), (3, .int (nI f)), (4, .int (nI dp))]) hx hb dX2_completes_94 hl (by decide) rfl (fun ls hl => ?_)
                refine lv_iload hx hb dX2_completes_96 (lv_at hl 1 rfl) ?_
                refine lv_bipush (v := nI 9) hx hb dX2_completes_98 (by decide) ?_
                refine q_icmp_ne hx hb (tgt := 107) (nI_eq (by omega) (by omega)) dX2_completes_100 (by decide) (fun c_100 => ?_) (fun c_100 => ?_)
                · omega
                · refine lv_iconst (v := nI 1) hx hb dX2_completes_103 (by decide) ?_
                  refine lv_goto (tgt := 108) hx hb dX2_completes_104 (by decide) ?_
                  refine lv_istore (lv' := [(8, .int (nI 1)), (7, .int (nI 0)), (6, .int (nI (sp - 1))), (5, .int (mI un)), (0, .ref (ad 5)), (1, .ref (ad 1)), (2, .ref (ad 4)), (3, .int (nI f)), (4, .int (nI dp))]) hx hb dX2_completes_108 hl (by decide) rfl (fun ls hl => ?_)
                  refine lv_iload hx hb dX2_completes_110 (lv_at hl 1 rfl) ?_
                  refine lv_istore (lv' := [(9, .int (nI 0)), (8, .int (nI 1)), (7, .int (nI 0)), (6, .int (nI (sp - 1))), (5, .int (mI un)), (0, .ref (ad 5)), (1, .ref (ad 1)), (2, .ref (ad 4)), (3, .int (nI f)), (4, .int (nI dp))]) hx hb dX2_completes_112 hl (by decide) rfl (fun ls hl => ?_)
                  have lp114 : ∀ (n : Nat) (el : Nat) (σ_7 : Nat → Nat → Nat) (H : Heap) (locs : List Loc) (ls : Array Slot), (el + n = 1 + 1) → (0 ≤ el) → (∀ b, sU σ_7 15 (sp - 1) b = sU σ 15 (sp - 1) b) → (anyF (fun el => cmpF d (sU σ 15 (sp - 1) (el + 1)) (if el = f then f + 1 else f)) (toF sp f + 1 - frF sp) (frF sp) = anyF (fun el => cmpF d (sU σ 15 (sp - 1) (el + 1)) (if el = f then f + 1 else f)) n el) → va_P D vwCl (WC ad cI σ_7) H → va_D A (WC ad cI σ_7) → va_S A s.heap H locs → lv_has ls 10 [(9, .int (nI el)), (8, .int (nI 1)), (7, .int (nI 0)), (6, .int (nI (sp - 1))), (5, .int (mI un)), (0, .ref (ad 5)), (1, .ref (ad 1)), (2, .ref (ad 4)), (3, .int (nI f)), (4, .int (nI dp))] → W p l e (rX2_completes (d + 1)) s m (([.ref (ad 5), .ref (ad 1), .ref (ad 4), .int (nI f), .int (nI dp)] : List Value).toArray) below meth c H locs 0 0 (MQ below (va_Qi (fun r u => r = bI (cmpF (d + 1) σ f) ∧ (cmpF (d + 1) σ f = false → u = σ) ∧ (∀ k, k ≠ 15 → u k = σ k) ∧ (∀ j, j < 10 → u 15 j ≤ 20)) (fun u t => Wc D cI A ad u t) A) (([.ref (ad 5), .ref (ad 1), .ref (ad 4), .int (nI f), .int (nI dp)] : List Value).toArray) s 0 0 A) (F0 m 114 ls []) := by
                    intro n
                    induction n with
                    | zero =>
                      intro el σ_7 H locs ls hE1 hE2 hS9 hA hP hD hS hl
                      refine lv_iload hx hb dX2_completes_114 (lv_at hl 0 rfl) ?_
                      refine lv_iload hx hb dX2_completes_116 (lv_at hl 1 rfl) ?_
                      refine n_icmp_gt hx hb (tgt := 164) (by omega) (by omega) dX2_completes_118 (by decide) (fun c_118 => ?_) (fun c_118 => ?_)
                      · refine lv_aload_n hx hb dX2_completes_164 rfl (lv_at hl 5 rfl) ?_
                        refine va_get (D := D) (ci := 1) (v := .ref (ad 15)) (C := RX2) (T := TX2) (N := 2) hx hb hts in_X2_completes_X2 hown hK hP 5 rfl rfl 1 (by decide) (hts _ lk_X2_completes_15) (fun _ h9 => h9) rfl dX2_completes_165 ?_
                        refine lv_iload hx hb dX2_completes_168 (lv_at hl 3 rfl) ?_
                        refine lv_iconst (v := mI 0) hx hb dX2_completes_170 (by decide) ?_
                        refine n_ast (ws' := WC ad cI (sU σ_7 15 (sp - 1) 0)) hx hb hK hP hD hS 15 0 rfl rfl (i := sp - 1) (by omega) (by decide) (WCs15 ..) dX2_completes_171 (fun H locs hP hD hS => ?_)
                        have hcf : cmpF (d + 1) σ f = false := by rw [hcm, hA]; rfl
                        refine lv_iconst (v := nI 0) hx hb dX2_completes_172 (by decide) ?_
                        exact W.zret (v := nI 0) hx hb hr (n_nar0) (fun t ht hW => ⟨⟨_, (sU σ_7 15 (sp - 1) 0), rfl, (⟨by rw [hcf]; rfl, fun _ => by rw [hS9, sU_id hop2], fun k hk => by rw [hS9, sU_ne _ _ _ hk], fun j hj => by rw [hS9, sU_id hop2]; exact hI.chosen hj⟩), Wc.go hP hK hD hN hZ hS ht hW⟩, hS.F ht⟩) hS.2.2 dX2_completes_173
                      · omega
                    | succ n ih114 =>
                      intro el σ_7 H locs ls hE1 hE2 hS9 hA hP hD hS hl
                      refine lv_iload hx hb dX2_completes_114 (lv_at hl 0 rfl) ?_
                      refine lv_iload hx hb dX2_completes_116 (lv_at hl 1 rfl) ?_
                      refine n_icmp_gt hx hb (tgt := 164) (by omega) (by omega) dX2_completes_118 (by decide) (fun c_118 => ?_) (fun c_118 => ?_)
                      · omega
                      · refine lv_aload_n hx hb dX2_completes_121 rfl (lv_at hl 5 rfl) ?_
                        refine va_get (D := D) (ci := 1) (v := .ref (ad 15)) (C := RX2) (T := TX2) (N := 2) hx hb hts in_X2_completes_X2 hown hK hP 5 rfl rfl 1 (by decide) (hts _ lk_X2_completes_15) (fun _ h9 => h9) rfl dX2_completes_122 ?_
                        refine lv_iload hx hb dX2_completes_125 (lv_at hl 3 rfl) ?_
                        refine lv_iload hx hb dX2_completes_127 (lv_at hl 0 rfl) ?_
                        refine n_to (mI_succ _).symm ?_
                        refine n_ast (ws' := WC ad cI (sU σ_7 15 (sp - 1) (el + 1))) hx hb hK hP hD hS 15 0 rfl rfl (i := sp - 1) (by omega) (by decide) (WCs15 ..) dX2_completes_129 (fun H locs hP hD hS => ?_)
                        rw [hS9] at hP hD
                        have hon := opn_set (σ := σ) (i := sp - 1) (v := el + 1) hop1 hop2 (by omega)
                        refine lv_aload_n hx hb dX2_completes_130 rfl (lv_at hl 5 rfl) ?_
                        refine lv_aload_n hx hb dX2_completes_131 rfl (lv_at hl 6 rfl) ?_
                        refine lv_aload_n hx hb dX2_completes_132 rfl (lv_at hl 7 rfl) ?_
                        refine lv_iload hx hb dX2_completes_133 (lv_at hl 0 rfl) ?_
                        refine lv_iload_n hx hb dX2_completes_135 rfl (lv_at hl 8 rfl) ?_
                        refine q_icmp_ne hx hb (tgt := 145) (nI_eq (by omega) (by omega)) dX2_completes_136 (by decide) (fun c_136 => ?_) (fun c_136 => ?_)
                        · refine lv_iload_n hx hb dX2_completes_145 rfl (lv_at hl 8 rfl) ?_
                          refine lv_iload hx hb dX2_completes_146 (lv_at hl 9 rfl) ?_
                          refine lv_iconst (v := nI 1) hx hb dX2_completes_148 (by decide) ?_
                          refine n_add hx hb dX2_completes_149 ?_
                          refine va_calli (va_runV (As := [.ref (ad 1), .ref (ad 4), .int (nI f), .int (nI (dp + 1))]) (rest := []) ⟨hx, hb, hml, hown, hts⟩ (ih (sU σ 15 (sp - 1) (el + 1)) f (dp + 1) (hI.set15 (by omega)) (by omega) (by omega) (by omega) (by omega)) (cwV 4 hts gX2_completes_X2_completes rfl rfl rfl (by decide +kernel) ⟨by simp only [rX2_completes, rX2_holding, rX2_openSpot]; omega, by simp only [rX2_completes, rX2_holding, rX2_openSpot]; omega⟩) ⟨Wc.blind, va_recv hK hP (ci := 1) (q0 := 5) rfl rfl, fun U hU hW => ⟨rfl, Wc.go hP hK hD hN hZ hS hU hW⟩⟩ rfl rfl hl.1 rfl (lv_room (Nat.le_of_ble_eq_true rfl)) dX2_completes_150 ⟨Nat.zero_le _, Nat.zero_le _⟩) hS (fun q _ h => h) (fun q h => h) (fun r_9 σ_8 t H1 locs ht hvm hwσ_8 hB hz1 hk1 hS => ?_)
                          obtain ⟨hr_9, hwσ_8⟩ := hwσ_8
                          refine n_to (w := bI (cmpF d (sU σ 15 (sp - 1) (el + 1)) f)) (hr_9) ?_
                          obtain ⟨hP, -, hD, -⟩ := hB
                          rw [ht] at hP
                          generalize H1 = H at hP hS ⊢
                          refine q_if_eq hx hb (tgt := 158) (bI_z) dX2_completes_153 (by decide) (fun c_153 => ?_) (fun c_153 => ?_)
                          · have hcr : cmpF d (sU σ 15 (sp - 1) (el + 1)) (if el = f then f + 1 else f) = false := by first | (simp only [if_pos c_136]; exact c_153) | (simp only [if_neg c_136]; exact c_153)
                            obtain rfl := hwσ_8.1 c_153
                            refine lv_iinc (v := nI (el + 1)) (lv' := [(9, .int (nI (el + 1))), (8, .int (nI 1)), (7, .int (nI 0)), (6, .int (nI (sp - 1))), (5, .int (mI un)), (0, .ref (ad 5)), (1, .ref (ad 1)), (2, .ref (ad 4)), (3, .int (nI f)), (4, .int (nI dp))]) hx hb dX2_completes_158 hl (k := 0) rfl (nI_add _ _) (by decide) rfl (fun ls hl => ?_)
                            refine lv_goto (tgt := 114) hx hb dX2_completes_161 (by decide) ?_
                            exact ih114 (el + 1)  _ _ _ _  (by omega) (by omega) (fun b => by rw [sU_sU]) (by rw [hA]; simp only [anyF]; rw [if_neg (by rw [hcr]; decide)]) hP hD hS (lv_sub hl [0, 1, 2, 3, 4, 5, 6, 7, 8, 9] rfl)
                          · have hcr : cmpF d (sU σ 15 (sp - 1) (el + 1)) (if el = f then f + 1 else f) = true := by first | (simp only [if_pos c_136]; exact ts_nf c_153) | (simp only [if_neg c_136]; exact ts_nf c_153)
                            have hct : cmpF (d + 1) σ f = true := by rw [hcm, hA]; simp only [anyF]; rw [if_pos hcr]
                            refine lv_iconst (v := nI 1) hx hb dX2_completes_156 (by decide) ?_
                            exact W.zret (v := nI 1) hx hb hr (n_nar1) (fun t ht hW => ⟨⟨_, σ_8, rfl, (⟨by rw [hct]; rfl, fun q => absurd (hct.symm.trans q) (by decide), fun k hk => by rw [hwσ_8.2.1 k hk, sU_ne _ _ _ hk], hwσ_8.2.2⟩), Wc.go hP hK hD hN hZ hS ht hW⟩, hS.F ht⟩) hS.2.2 dX2_completes_157
                        · refine lv_iload_n hx hb dX2_completes_139 rfl (lv_at hl 8 rfl) ?_
                          refine lv_iconst (v := nI 1) hx hb dX2_completes_140 (by decide) ?_
                          refine n_add hx hb dX2_completes_141 ?_
                          refine lv_goto (tgt := 146) hx hb dX2_completes_142 (by decide) ?_
                          refine lv_iload hx hb dX2_completes_146 (lv_at hl 9 rfl) ?_
                          refine lv_iconst (v := nI 1) hx hb dX2_completes_148 (by decide) ?_
                          refine n_add hx hb dX2_completes_149 ?_
                          refine va_calli (va_runV (As := [.ref (ad 1), .ref (ad 4), .int (nI (f + 1)), .int (nI (dp + 1))]) (rest := []) ⟨hx, hb, hml, hown, hts⟩ (ih (sU σ 15 (sp - 1) (el + 1)) (f + 1) (dp + 1) (hI.set15 (by omega)) (by omega) (by omega) (by omega) (by omega)) (cwV 4 hts gX2_completes_X2_completes rfl rfl rfl (by decide +kernel) ⟨by simp only [rX2_completes, rX2_holding, rX2_openSpot]; omega, by simp only [rX2_completes, rX2_holding, rX2_openSpot]; omega⟩) ⟨Wc.blind, va_recv hK hP (ci := 1) (q0 := 5) rfl rfl, fun U hU hW => ⟨rfl, Wc.go hP hK hD hN hZ hS hU hW⟩⟩ rfl rfl hl.1 rfl (lv_room (Nat.le_of_ble_eq_true rfl)) dX2_completes_150 ⟨Nat.zero_le _, Nat.zero_le _⟩) hS (fun q _ h => h) (fun q h => h) (fun r_11 σ_10 t H1 locs ht hvm hwσ_10 hB hz1 hk1 hS => ?_)
                          obtain ⟨hr_11, hwσ_10⟩ := hwσ_10
                          refine n_to (w := bI (cmpF d (sU σ 15 (sp - 1) (el + 1)) (f + 1))) (hr_11) ?_
                          obtain ⟨hP, -, hD, -⟩ := hB
                          rw [ht] at hP
                          generalize H1 = H at hP hS ⊢
                          refine q_if_eq hx hb (tgt := 158) (bI_z) dX2_completes_153 (by decide) (fun c_153 => ?_) (fun c_153 => ?_)
                          · have hcr : cmpF d (sU σ 15 (sp - 1) (el + 1)) (if el = f then f + 1 else f) = false := by first | (simp only [if_pos c_136]; exact c_153) | (simp only [if_neg c_136]; exact c_153)
                            obtain rfl := hwσ_10.1 c_153
                            refine lv_iinc (v := nI (el + 1)) (lv' := [(9, .int (nI (el + 1))), (8, .int (nI 1)), (7, .int (nI 0)), (6, .int (nI (sp - 1))), (5, .int (mI un)), (0, .ref (ad 5)), (1, .ref (ad 1)), (2, .ref (ad 4)), (3, .int (nI f)), (4, .int (nI dp))]) hx hb dX2_completes_158 hl (k := 0) rfl (nI_add _ _) (by decide) rfl (fun ls hl => ?_)
                            refine lv_goto (tgt := 114) hx hb dX2_completes_161 (by decide) ?_
                            exact ih114 (el + 1)  _ _ _ _  (by omega) (by omega) (fun b => by rw [sU_sU]) (by rw [hA]; simp only [anyF]; rw [if_neg (by rw [hcr]; decide)]) hP hD hS (lv_sub hl [0, 1, 2, 3, 4, 5, 6, 7, 8, 9] rfl)
                          · have hcr : cmpF d (sU σ 15 (sp - 1) (el + 1)) (if el = f then f + 1 else f) = true := by first | (simp only [if_pos c_136]; exact ts_nf c_153) | (simp only [if_neg c_136]; exact ts_nf c_153)
                            have hct : cmpF (d + 1) σ f = true := by rw [hcm, hA]; simp only [anyF]; rw [if_pos hcr]
                            refine lv_iconst (v := nI 1) hx hb dX2_completes_156 (by decide) ?_
                            exact W.zret (v := nI 1) hx hb hr (n_nar1) (fun t ht hW => ⟨⟨_, σ_10, rfl, (⟨by rw [hct]; rfl, fun q => absurd (hct.symm.trans q) (by decide), fun k hk => by rw [hwσ_10.2.1 k hk, sU_ne _ _ _ hk], hwσ_10.2.2⟩), Wc.go hP hK hD hN hZ hS ht hW⟩, hS.F ht⟩) hS.2.2 dX2_completes_157
                  have htf : toF sp f = 1 := by unfold toF; first | (rw [if_pos c_86]) | (rw [if_neg c_86])
                  have hff : frF sp = 0 := by unfold frF; first | (rw [if_pos c_86]) | (rw [if_neg c_86])
                  exact lp114 (1 + 1 - 0) 0  _ _ _ _ (by omega) (by omega) (fun _ => rfl) (by rw [htf, hff]) hP hD hS (lv_sub hl [0, 1, 2, 3, 4, 5, 6, 7, 8, 9] rfl)
            · omega
        · have hct : cmpF (d + 1) σ f = true := cmpF_zero (by rw [hF, c_52])
          refine lv_iconst (v := nI 1) hx hb dX2_completes_55 (by decide) ?_
          exact W.zret (v := nI 1) hx hb hr (n_nar1) (fun t ht hW => ⟨⟨_, σ, rfl, (⟨by rw [hct]; rfl, fun q => absurd (hct.symm.trans q) (by decide), fun _ _ => rfl, fun j hj => hI.chosen hj⟩), Wc.go hP hK hD hN hZ hS ht hW⟩, hS.F ht⟩) hS.2.2 dX2_completes_56
      · omega
    | succ n ih11 =>
      intro cn un ls hF1 hun hF hl
      obtain ⟨rfl, hF1⟩ := hF1
      rw [mI_succ] at hl
      have hho := holdF_le σ n (σ 13 n) 0 0 (by omega)
      refine lv_iload hx hb dX2_completes_11 (lv_at hl 0 rfl) ?_
      refine lv_if_lt hx hb (tgt := 49) dX2_completes_13 (by decide) (fun c_13 => ?_) (fun c_13 => ?_)
      · exact absurd c_13 (nI_pos (by omega))
      · refine lv_aload_n hx hb dX2_completes_16 rfl (lv_at hl 2 rfl) ?_
        refine lv_aload_n hx hb dX2_completes_17 rfl (lv_at hl 3 rfl) ?_
        refine lv_aload_n hx hb dX2_completes_18 rfl (lv_at hl 4 rfl) ?_
        refine lv_iload hx hb dX2_completes_19 (lv_at hl 0 rfl) ?_
        refine vp_callSi (va_Run.run (va_runV (As := [.ref (ad 1), .ref (ad 4), .int (nI n)]) (rest := []) ⟨hx, hb, hml, hown, hts⟩ (c_X2_holding l D cI A ad σ n hI (by omega)) (cwV 3 hts gX2_completes_X2_holding rfl rfl rfl (by decide +kernel) ⟨by simp only [rX2_completes, rX2_holding, rX2_openSpot]; omega, by simp only [rX2_completes, rX2_holding, rX2_openSpot]; omega⟩) ⟨Wc.blind, va_recv hK hP (ci := 1) (q0 := 5) rfl rfl, fun U hU hW => ⟨rfl, Wc.go hP hK hD hN hZ hS hU hW⟩⟩ rfl rfl hl.1 rfl (lv_room (Nat.le_of_ble_eq_true rfl)) dX2_completes_21 ⟨Nat.zero_le _, Nat.zero_le _⟩)) (fun r_12 hr_12 => ?_)
        refine n_to (w := nI (holdF σ n (σ 13 n) 0 0)) (hr_12.trans rfl) ?_
        refine lv_istore (lv' := [(7, .int (nI (holdF σ n (σ 13 n) 0 0))), (6, .int (nI n)), (5, .int (mI un)), (0, .ref (ad 5)), (1, .ref (ad 1)), (2, .ref (ad 4)), (3, .int (nI f)), (4, .int (nI dp))]) hx hb dX2_completes_24 hl (by decide) rfl (fun ls hl => ?_)
        refine lv_iload hx hb dX2_completes_26 (lv_at hl 0 rfl) ?_
        refine q_if_ne hx hb (tgt := 33) (nI_z (by omega)) dX2_completes_28 (by decide) (fun c_28 => ?_) (fun c_28 => ?_)
        · refine lv_iload hx hb dX2_completes_33 (lv_at hl 0 rfl) ?_
          refine lv_iconst (v := nI 2) hx hb dX2_completes_35 (by decide) ?_
          refine q_icmp_ne hx hb (tgt := 43) (nI_eq (by omega) (by omega)) dX2_completes_36 (by decide) (fun c_36 => ?_) (fun c_36 => ?_)
          · refine lv_iinc (v := mI n) (lv' := [(6, .int (mI n)), (7, .int (nI (holdF σ n (σ 13 n) 0 0))), (5, .int (mI un)), (0, .ref (ad 5)), (1, .ref (ad 1)), (2, .ref (ad 4)), (3, .int (nI f)), (4, .int (nI dp))]) hx hb dX2_completes_43 hl (k := 1) rfl (n_m1 _) (by decide) rfl (fun ls hl => ?_)
            refine lv_goto (tgt := 11) hx hb dX2_completes_46 (by decide) ?_
            exact ih11 n un  _  (⟨rfl, by omega⟩) (by omega) (by rw [hF]; simp [scF, *]) (lv_sub hl [0, 2, 3, 4, 5, 6, 7] rfl)
          · refine lv_iload hx hb dX2_completes_39 (lv_at hl 1 rfl) ?_
            refine n_to (w := mI (n + 1)) ((mI_succ _).symm) ?_
            refine lv_istore (lv' := [(5, .int (mI (n + 1))), (7, .int (nI (holdF σ n (σ 13 n) 0 0))), (6, .int (nI n)), (0, .ref (ad 5)), (1, .ref (ad 1)), (2, .ref (ad 4)), (3, .int (nI f)), (4, .int (nI dp))]) hx hb dX2_completes_41 hl (by decide) rfl (fun ls hl => ?_)
            refine lv_iinc (v := mI n) (lv' := [(6, .int (mI n)), (5, .int (mI (n + 1))), (7, .int (nI (holdF σ n (σ 13 n) 0 0))), (0, .ref (ad 5)), (1, .ref (ad 1)), (2, .ref (ad 4)), (3, .int (nI f)), (4, .int (nI dp))]) hx hb dX2_completes_43 hl (k := 2) rfl (n_m1 _) (by decide) rfl (fun ls hl => ?_)
            refine lv_goto (tgt := 11) hx hb dX2_completes_46 (by decide) ?_
            exact ih11 n (n + 1)  _  (⟨rfl, by omega⟩) (by omega) (by rw [hF]; simp [scF, *]) (lv_sub hl [0, 1, 3, 4, 5, 6, 7] rfl)
        · have hcf : cmpF (d + 1) σ f = false := cmpF_none (by rw [hF]; simp [scF, c_28])
          refine lv_iconst (v := nI 0) hx hb dX2_completes_31 (by decide) ?_
          exact W.zret (v := nI 0) hx hb hr (n_nar0) (fun t ht hW => ⟨⟨_, σ, rfl, (⟨by rw [hcf]; rfl, fun _ => rfl, fun _ _ => rfl, fun j hj => hI.chosen hj⟩), Wc.go hP hK hD hN hZ hS ht hW⟩, hS.F ht⟩) hS.2.2 dX2_completes_32
  exact lp11 (σ 0 4) (σ 0 4) 0  _ (⟨rfl, Nat.le_refl _⟩) (by omega) (rfl) (lv_sub hl [0, 1, 2, 3, 4, 5, 6] rfl)
