/-! THE REFERENCE, as functions of its state's numbers -/
theorem nm_le {a b : Nat} (ha : a < 2 ^ 31) (hb : b < 2 ^ 31) : nI a ≤ mI b ↔ a + 1 ≤ b := by
  rw [Int32.le_iff_toInt_le, nI_toInt ha, mI_toInt hb]; omega
theorem nI_le0 {a : Nat} (ha : a < 2 ^ 31) : nI a ≤ 0 ↔ a = 0 := by
  rw [Int32.le_iff_toInt_le, nI_toInt ha, Int32.toInt_zero]; omega
theorem n_m1n {a : Nat} (h : 1 ≤ a) : nI a + Int32.ofInt (-1) = nI (a - 1) := by rw [n_m1, mI_pos h]
theorem bN_le (b : Bool) : bN b ≤ 1 := by cases b <;> decide
theorem bn_eq {b : Bool} {v : Nat} (hv : v < 2 ^ 31) : bI b = nI v ↔ bN b = v := by
  rw [bI_n]; exact nI_eq (by have := bN_le b; omega) hv
section BW3
variable {p : Program} {l : Launch} {e : Env} {R : Room} {s : State} {m : MethodId} {args : Array Value} {below : List Frame} {meth : Method} {c : Code} {H : Heap} {locs : List Loc} {cells slots : Nat} {Q : State → Prop} {cc : ByteArray} {pc : Nat} {ls : Array Slot} {rest : List Value}
theorem q_icmp_le (hx : p.tables.exec = Jvm.exec) (hb : c.code = cc) {x y : Int32} {P : Prop} {off : Int} {tgt : Nat} (hi : x ≤ y ↔ P) (hdg : decode cc pc = .ok (.if_icmp .le off, 3)) (ht : (pc : Int) + off = (tgt : Int)) (kt : P → W p l e R s m args below meth c H locs cells slots Q (F0 m tgt ls rest)) (kf : ¬ P → W p l e R s m args below meth c H locs cells slots Q (F0 m (pc + 3) ls rest)) : W p l e R s m args below meth c H locs cells slots Q (F0 m pc ls (.int y :: .int x :: rest)) :=
  lv_icmp_le hx hb hdg ht (fun h => kt (hi.mp h)) (fun h => kf fun q => h (hi.mpr q))
theorem q_if_le (hx : p.tables.exec = Jvm.exec) (hb : c.code = cc) {x : Int32} {P : Prop} {off : Int} {tgt : Nat} (hi : x ≤ 0 ↔ P) (hdg : decode cc pc = .ok (.ifCond .le off, 3)) (ht : (pc : Int) + off = (tgt : Int)) (kt : P → W p l e R s m args below meth c H locs cells slots Q (F0 m tgt ls rest)) (kf : ¬ P → W p l e R s m args below meth c H locs cells slots Q (F0 m (pc + 3) ls rest)) : W p l e R s m args below meth c H locs cells slots Q (F0 m pc ls (.int x :: rest)) :=
  lv_if_le hx hb hdg ht (fun h => kt (hi.mp h)) (fun h => kf fun q => h (hi.mpr q))
end BW3
theorem s_l : ∀ n, n < 32 → ((nI n &&& 31).toBitVec.smod 32).toNat = n := by decide +kernel
def labF (w k : Nat) : Nat := w / 2 ^ (3 * k) % 8
def partF (x c : Nat) : Nat := x / 2 ^ (1 + 3 * c) % 8
theorem labF_lt (w k : Nat) : labF w k < 8 := Nat.mod_lt _ (by omega)
theorem partF_lt (w k : Nat) : partF w k < 8 := Nat.mod_lt _ (by omega)
theorem shrK {w s : Nat} (hw : w < 2 ^ 31) (hs : s < 32) : nI w >>> (nI s &&& 31) = nI (w / 2 ^ s) := pk_shrN hw _ s (s_l s hs)
theorem shlK {w s : Nat} (hs : s < 32) (h : w * 2 ^ s < 2 ^ 32) : nI w <<< (nI s &&& 31) = nI (w * 2 ^ s) := pk_shlN _ s (s_l s hs) h
theorem and7 {w : Nat} (hw : w < 2 ^ 31) : nI w &&& nI 7 = nI (w % 8) := pk_andN (m := nI 7) (by omega) 3 (by decide +kernel)
theorem and1 {w : Nat} (hw : w < 2 ^ 31) : nI w &&& nI 1 = nI (w % 2) := pk_andN (m := nI 1) (by omega) 1 (by decide +kernel)
theorem div_le31 {w s : Nat} (hw : w < 2 ^ 31) : w / 2 ^ s < 2 ^ 31 := Nat.lt_of_le_of_lt (Nat.div_le_self _ _) hw
def grF (w : Nat) : Nat → Nat → Nat → Nat
  | 0, _, mo => mo
  | n + 1, i, mo => if labF w i + 1 ≤ mo then grF w n (i + 1) mo else grF w n (i + 1) (labF w i + 1)
theorem grF_le (w : Nat) : ∀ n i mo, mo ≤ 8 → grF w n i mo ≤ 8
  | 0, _, _, h => h
  | n + 1, i, mo, h => by
    unfold grF
    split
    · exact grF_le w n _ _ h
    · exact grF_le w n _ _ (labF_lt w i)
def nwK (w : Nat) : Nat → Nat
  | 0 => 0
  | k + 1 => if labF w (k + 1) + 1 ≤ grF w (k + 1) 0 0 then k + 1 else nwK w k
theorem nwK_le (w : Nat) : ∀ k, nwK w k ≤ k
  | 0 => Nat.le_refl _
  | k + 1 => by
    unfold nwK
    split
    · exact Nat.le_refl _
    · exact Nat.le_succ_of_le (nwK_le w k)
def nxF (n w : Nat) : Nat := if nwK w (n - 1) = 0 then 0 else w % 2 ^ (3 * nwK w (n - 1)) + (labF w (nwK w (n - 1)) + 1) * 2 ^ (3 * nwK w (n - 1))
theorem pow3 {k : Nat} (hk : k ≤ 7) : 2 ^ (3 * k) ≤ 2 ^ 21 := Nat.pow_le_pow_right (by omega) (by omega)
theorem pow1 (k : Nat) : 1 ≤ 2 ^ k := Nat.one_le_two_pow
theorem nw_shl {k : Nat} (hk : k ≤ 7) : nI 1 <<< (nI (3 * k) &&& 31) = nI (2 ^ (3 * k)) := by
  have := pow3 hk
  rw [shlK (by omega) (by omega), Nat.one_mul]
theorem nw_and {w k : Nat} (hw : w < 2 ^ 31) (hk : k ≤ 7) : nI w &&& nI (2 ^ (3 * k) - 1) = nI (w % 2 ^ (3 * k)) := by
  have := pow3 hk
  exact pk_andN (by omega) (3 * k) (pk_tn (by omega))
theorem nw_shl2 {k b : Nat} (hk : k ≤ 7) (hb : b ≤ 8) : nI b <<< (nI (3 * k) &&& 31) = nI (b * 2 ^ (3 * k)) := by
  have h1 := pow3 hk
  refine shlK (by omega) ?_
  have : b * 2 ^ (3 * k) ≤ 8 * 2 ^ 21 := Nat.mul_le_mul hb h1
  omega
theorem or_add {a b s : Nat} (ha : a < 2 ^ s) : a ||| b * 2 ^ s = a + b * 2 ^ s := by
  rw [Nat.or_comm, Nat.mul_comm, ← Nat.two_pow_add_eq_or_of_lt ha, Nat.add_comm]
theorem nw_or {w k b : Nat} : nI (w % 2 ^ (3 * k)) ||| nI (b * 2 ^ (3 * k)) = nI (w % 2 ^ (3 * k) + b * 2 ^ (3 * k)) := by
  rw [nx_or, or_add (Nat.mod_lt _ (Nat.two_pow_pos _))]
/-- tables -/
def wfF (j : Nat) : Nat := [0, 15, 218].getD j 0
def frT (j : Nat) : Nat := [0, 30, 436, 842, 1248, 9528].getD j 0
theorem tab_ok : ∀ p, p < 5 → 1 ≤ difF p ∧ difF p ≤ 3 ∧ frT p ≤ frT (p + 1) ∧ frT (p + 1) ≤ 9528 ∧ wfF (difF p - 1) + (frT (p + 1) - frT p) / 2 ≤ 4358 ∧ (frT (p + 1) - frT p) % 2 = 0 := by decide +kernel
def IM (τ : Nat → Nat → Nat) : Prop :=
  (7 ≤ τ 0 1 ∧ τ 0 1 ≤ 24) ∧ τ 0 15 ≤ 8 ∧ τ 0 16 ≤ 3 ∧ (∀ j, j < 24 → τ 2 j ≤ 2) ∧ (∀ j, j < 24 → τ 3 j ≤ 2 ∧ τ 4 j < 24 ∧ τ 5 j < 24 ∧ τ 6 j < 24) ∧
  (∀ j, j < 5 → τ 8 j = difF j) ∧ (∀ j, j < 120 → τ 9 j < 1024) ∧ (∀ j, j < 4358 → τ 10 j < 2 ^ 24) ∧ (∀ j, j < 3 → τ 11 j = wfF j) ∧ (∀ j, j < 9528 → τ 13 j < 256) ∧ (∀ j, j < 6 → τ 14 j = frT j) ∧
  (∀ j, j < 3 → τ 17 j < 24 ∧ τ 18 j < 24 ∧ τ 19 j ≤ 1) ∧ (∀ p t, p < 5 → t < 24 → τ 2 t ≠ 2 → τ 9 (24 * p + t) < 8)
theorem IM.terms {τ : Nat → Nat → Nat} (h : IM τ) : 7 ≤ τ 0 1 ∧ τ 0 1 ≤ 24 := h.1
theorem IM.claims {τ : Nat → Nat → Nat} (h : IM τ) : τ 0 15 ≤ 8 := h.2.1
theorem IM.lits {τ : Nat → Nat → Nat} (h : IM τ) : τ 0 16 ≤ 3 := h.2.2.1
theorem IM.sorts {τ : Nat → Nat → Nat} (h : IM τ) {j : Nat} (hj : j < 24) : τ 2 j ≤ 2 := h.2.2.2.1 j hj
theorem IM.rows {τ : Nat → Nat → Nat} (h : IM τ) {j : Nat} (hj : j < 24) : τ 3 j ≤ 2 ∧ τ 4 j < 24 ∧ τ 5 j < 24 ∧ τ 6 j < 24 := h.2.2.2.2.1 j hj
theorem IM.cls {τ : Nat → Nat → Nat} (h : IM τ) {j : Nat} (hj : j < 5) : τ 8 j = difF j := h.2.2.2.2.2.1 j hj
theorem IM.code {τ : Nat → Nat → Nat} (h : IM τ) {j : Nat} (hj : j < 120) : τ 9 j < 1024 := h.2.2.2.2.2.2.1 j hj
theorem IM.ways {τ : Nat → Nat → Nat} (h : IM τ) {j : Nat} (hj : j < 4358) : τ 10 j < 2 ^ 24 := h.2.2.2.2.2.2.2.1 j hj
theorem IM.wf {τ : Nat → Nat → Nat} (h : IM τ) {j : Nat} (hj : j < 3) : τ 11 j = wfF j := h.2.2.2.2.2.2.2.2.1 j hj
theorem IM.holds {τ : Nat → Nat → Nat} (h : IM τ) {j : Nat} (hj : j < 9528) : τ 13 j < 256 := h.2.2.2.2.2.2.2.2.2.1 j hj
theorem IM.from {τ : Nat → Nat → Nat} (h : IM τ) {j : Nat} (hj : j < 6) : τ 14 j = frT j := h.2.2.2.2.2.2.2.2.2.2.1 j hj
theorem IM.dr {τ : Nat → Nat → Nat} (h : IM τ) {j : Nat} (hj : j < 3) : τ 17 j < 24 ∧ τ 18 j < 24 ∧ τ 19 j ≤ 1 := h.2.2.2.2.2.2.2.2.2.2.2.1 j hj
theorem IM.code8 {τ : Nat → Nat → Nat} (h : IM τ) {p t : Nat} (hp : p < 5) (ht : t < 24) (hs : τ 2 t ≠ 2) : τ 9 (24 * p + t) < 8 := h.2.2.2.2.2.2.2.2.2.2.2.2 p t hp ht hs
def foundF (τ : Nat → Nat → Nat) (q a i x : Nat) : Nat → Nat → Nat
  | 0, _ => 0
  | n + 1, t => if τ 3 t = q then if τ 4 t = a then if τ 5 t = i then if τ 6 t = x then t + 1 else foundF τ q a i x n (t + 1) else foundF τ q a i x n (t + 1) else foundF τ q a i x n (t + 1) else foundF τ q a i x n (t + 1)
def asL (w x y : Nat) : Nat → Nat → Bool → Bool
  | 0, _, b => b
  | n + 1, c, b => asL w x y n (c + 1) (b && decide (labF w (partF x c) = labF w (partF y c)))
def asX (q d w x y : Nat) (els : Bool) : Bool := if q = 0 then decide (x = y) else if q = 1 then decide (labF w x = labF w y) else asL w x y d 0 (els || decide (x % 2 = y % 2))
def asB (τ : Nat → Nat → Nat) (t u p w : Nat) (els : Bool) : Bool := asX (τ 2 t) (τ 8 p) w (τ 9 (24 * p + t)) (τ 9 (24 * p + u)) els
def siB (τ : Nat → Nat → Nat) (t u p r : Nat) : Bool := asB τ t u p (τ 10 (τ 11 (τ 8 p - 1) + (r - τ 14 p) / 2)) (decide ((r - τ 14 p) % 2 = 1))
def dhL (τ : Nat → Nat → Nat) (p r : Nat) : Nat → Nat → Bool → Bool
  | 0, _, b => b
  | n + 1, k, b => if b = true then dhL τ p r n (k + 1) true else dhL τ p r n (k + 1) (decide (bN (siB τ (τ 17 k) (τ 18 k) p r) = τ 19 k))
def dhB (τ : Nat → Nat → Nat) (p r : Nat) : Bool := dhL τ p r (τ 0 16) 0 false
def chL (τ : Nat → Nat → Nat) (set : Nat) : Nat → Nat → Bool
  | 0, _ => false
  | n + 1, r => if τ 13 r &&& set = set then true else chL τ set n (r + 1)
def chB (τ : Nat → Nat → Nat) (set : Nat) : Bool := chL τ set 9528 0
theorem all_shl {c : Nat} (hc : c ≤ 9) : nI 1 <<< (nI c &&& 31) = nI (2 ^ c) := by
  have : 2 ^ c ≤ 2 ^ 9 := Nat.pow_le_pow_right (by omega) hc
  rw [shlK (by omega) (by omega), Nat.one_mul]
theorem all_shl2 {c : Nat} (hc : c ≤ 9) : nI 2 <<< (nI c &&& 31) = nI (2 * 2 ^ c) := by
  have : 2 ^ c ≤ 2 ^ 9 := Nat.pow_le_pow_right (by omega) hc
  exact shlK (by omega) (by omega)
theorem and_lt {a b N : Nat} (h : a < N) : a &&& b < N := Nat.lt_of_le_of_lt Nat.and_le_left h
theorem ts_nf2 {x : Bool} (h : x = false) : x = false := h
def rX5_label : Room := { frames := 0, cells := 0, slots := 0, locals := 0 }
set_option maxHeartbeats 4000000 in
set_option maxRecDepth 100000 in
theorem c_X5_label (l : Launch)   (w k : Nat) (hw : w < 2 ^ 31) (hk : k ≤ 7) : Met l yX5_label wsX5_label rX5_label (va_Pc [.int (nI w), .int (nI k)] (fun _ => True)) (vp_Si (fun r => r = nI (labF w k))) 0 0 (fun _ => False) := by
  refine Met.ofW (cc := cX5_label) (maxL := 2) (ret := (some .int)) (by decide) rfl ?_
  intro p e s m args below meth c s₁ B hml hv
  obtain ⟨rfl, -⟩ := hv
  have hx := B.exec
  have hb := B.bytes
  have hr := B.returns
  have hts := atoms_spec (ws := wsX5_label) B.pre
  have hown : s.vm.findClass RX5 = some m.cls := findClass_of_methodNamed B.named
  have hlocks := B.notSynchronized
  have hl := lv_entry ([.int (nI w), .int (nI k)]) (n := 2) (Nat.le_of_ble_eq_true rfl)
  rw [lg_entry_eq]
  generalize (lg_sl ([.int (nI w), .int (nI k)]) ++ List.replicate (2 - (lg_sl ([.int (nI w), .int (nI k)])).length) Slot.unset).toArray = ls at hl ⊢
  have hl : lv_has ls 2 [(0, .int (nI w)), (1, .int (nI k))] := hl
  refine lv_iload_n hx hb dX5_label_0 rfl (lv_at hl 0 rfl) ?_
  refine lv_iconst (v := nI 3) hx hb dX5_label_1 (by decide) ?_
  refine lv_iload_n hx hb dX5_label_2 rfl (lv_at hl 1 rfl) ?_
  refine n_mul hx hb dX5_label_3 ?_
  refine lv_ishr hx hb dX5_label_4 ?_
  refine n_to (w := nI (w / 2 ^ (3 * k))) (shrK hw (by omega)) ?_
  refine lv_bipush (v := nI 7) hx hb dX5_label_5 (by decide) ?_
  refine lv_iand hx hb dX5_label_7 ?_
  refine n_to (w := nI (labF w k)) (and7 (div_le31 hw)) ?_
  exact W.iret (v := nI (labF w k)) hx hb hr (fun t ht hW => ⟨_, rfl, rfl, ht⟩) no_locs dX5_label_8
def rX5_part : Room := { frames := 0, cells := 0, slots := 0, locals := 0 }
set_option maxHeartbeats 4000000 in
set_option maxRecDepth 100000 in
theorem c_X5_part (l : Launch)   (x c1 : Nat) (hw : x < 2 ^ 31) (hk : c1 ≤ 7) : Met l yX5_part wsX5_part rX5_part (va_Pc [.int (nI x), .int (nI c1)] (fun _ => True)) (vp_Si (fun r => r = nI (partF x c1))) 0 0 (fun _ => False) := by
  refine Met.ofW (cc := cX5_part) (maxL := 2) (ret := (some .int)) (by decide) rfl ?_
  intro p e s m args below meth c s₁ B hml hv
  obtain ⟨rfl, -⟩ := hv
  have hx := B.exec
  have hb := B.bytes
  have hr := B.returns
  have hts := atoms_spec (ws := wsX5_part) B.pre
  have hown : s.vm.findClass RX5 = some m.cls := findClass_of_methodNamed B.named
  have hlocks := B.notSynchronized
  have hl := lv_entry ([.int (nI x), .int (nI c1)]) (n := 2) (Nat.le_of_ble_eq_true rfl)
  rw [lg_entry_eq]
  generalize (lg_sl ([.int (nI x), .int (nI c1)]) ++ List.replicate (2 - (lg_sl ([.int (nI x), .int (nI c1)])).length) Slot.unset).toArray = ls at hl ⊢
  have hl : lv_has ls 2 [(0, .int (nI x)), (1, .int (nI c1))] := hl
  refine lv_iload_n hx hb dX5_part_0 rfl (lv_at hl 0 rfl) ?_
  refine lv_iconst (v := nI 1) hx hb dX5_part_1 (by decide) ?_
  refine lv_iconst (v := nI 3) hx hb dX5_part_2 (by decide) ?_
  refine lv_iload_n hx hb dX5_part_3 rfl (lv_at hl 1 rfl) ?_
  refine n_mul hx hb dX5_part_4 ?_
  refine n_add hx hb dX5_part_5 ?_
  refine lv_ishr hx hb dX5_part_6 ?_
  refine n_to (w := nI (x / 2 ^ (1 + 3 * c1))) (shrK hw (by omega)) ?_
  refine lv_bipush (v := nI 7) hx hb dX5_part_7 (by decide) ?_
  refine lv_iand hx hb dX5_part_9 ?_
  refine n_to (w := nI (partF x c1)) (and7 (div_le31 hw)) ?_
  exact W.iret (v := nI (partF x c1)) hx hb hr (fun t ht hW => ⟨_, rfl, rfl, ht⟩) no_locs dX5_part_10
def rX5_greatest : Room := { frames := 1, cells := 0, slots := 0, locals := 21 }
set_option maxHeartbeats 4000000 in
set_option maxRecDepth 100000 in
theorem c_X5_greatest (l : Launch)   (w k : Nat) (hw : w < 2 ^ 24) (hk : k ≤ 7) : Met l yX5_greatest wsX5_greatest rX5_greatest (va_Pc [.int (nI w), .int (nI k)] (fun _ => True)) (vp_Si (fun r => r = mI (grF w k 0 0))) 0 0 (fun _ => False) := by
  refine Met.ofW (cc := cX5_greatest) (maxL := 4) (ret := (some .int)) (by decide) rfl ?_
  intro p e s m args below meth c s₁ B hml hv
  obtain ⟨rfl, -⟩ := hv
  have hx := B.exec
  have hb := B.bytes
  have hr := B.returns
  have hts := atoms_spec (ws := wsX5_greatest) B.pre
  have hown : s.vm.findClass RX5 = some m.cls := findClass_of_methodNamed B.named
  have hlocks := B.notSynchronized
  have hl := lv_entry ([.int (nI w), .int (nI k)]) (n := 4) (Nat.le_of_ble_eq_true rfl)
  rw [lg_entry_eq]
  generalize (lg_sl ([.int (nI w), .int (nI k)]) ++ List.replicate (4 - (lg_sl ([.int (nI w), .int (nI k)])).length) Slot.unset).toArray = ls at hl ⊢
  have hl : lv_has ls 4 [(0, .int (nI w)), (1, .int (nI k))] := hl
  refine lv_iconst (v := mI 0) hx hb dX5_greatest_0 (by decide) ?_
  refine lv_istore_n (lv' := [(2, .int (mI 0)), (0, .int (nI w)), (1, .int (nI k))]) hx hb dX5_greatest_1 rfl hl (by decide) rfl (fun ls hl => ?_)
  refine lv_iconst (v := nI 0) hx hb dX5_greatest_2 (by decide) ?_
  refine lv_istore_n (lv' := [(3, .int (nI 0)), (2, .int (mI 0)), (0, .int (nI w)), (1, .int (nI k))]) hx hb dX5_greatest_3 rfl hl (by decide) rfl (fun ls hl => ?_)
  have lp4 : ∀ (n : Nat) (i : Nat) (mo : Nat) (ls : Array Slot), (i + n = k) → (mo ≤ 8) → (mI (grF w k 0 0) = mI (grF w n i mo)) → lv_has ls 4 [(3, .int (nI i)), (2, .int (mI mo)), (0, .int (nI w)), (1, .int (nI k))] → WR p l e rX5_greatest s m (([.int (nI w), .int (nI k)] : List Value).toArray) below meth c s.heap (fun r => r = mI (grF w k 0 0)) (F0 m 4 ls []) := by
    intro n
    induction n with
    | zero =>
      intro i mo ls hF1 hmo hF hl
      refine lv_iload_n hx hb dX5_greatest_4 rfl (lv_at hl 0 rfl) ?_
      refine lv_iload_n hx hb dX5_greatest_5 rfl (lv_at hl 3 rfl) ?_
      refine n_icmp_ge hx hb (tgt := 34) (by omega) (by omega) dX5_greatest_6 (by decide) (fun c_6 => ?_) (fun c_6 => ?_)
      · refine lv_iload_n hx hb dX5_greatest_34 rfl (lv_at hl 1 rfl) ?_
        exact W.iret (v := mI mo) hx hb hr (fun t ht hW => ⟨_, rfl, by rw [hF]; rfl, ht⟩) no_locs dX5_greatest_35
      · omega
    | succ n ih4 =>
      intro i mo ls hF1 hmo hF hl
      have hlb := labF_lt w i
      refine lv_iload_n hx hb dX5_greatest_4 rfl (lv_at hl 0 rfl) ?_
      refine lv_iload_n hx hb dX5_greatest_5 rfl (lv_at hl 3 rfl) ?_
      refine n_icmp_ge hx hb (tgt := 34) (by omega) (by omega) dX5_greatest_6 (by decide) (fun c_6 => ?_) (fun c_6 => ?_)
      · omega
      · refine lv_iload_n hx hb dX5_greatest_9 rfl (lv_at hl 2 rfl) ?_
        refine lv_iload_n hx hb dX5_greatest_10 rfl (lv_at hl 0 rfl) ?_
        refine vp_callSi (va_Run.run (va_runS (As := [.int (nI w), .int (nI i)]) (rest := []) ⟨hx, hb, hml, hown, hts⟩ (c_X5_label l   w i (by omega) (by omega)) (va_cwS 2 hts gX5_greatest_X5_label rfl rfl rfl (by decide +kernel) ⟨Nat.le_of_ble_eq_true rfl, Nat.le_of_ble_eq_true rfl⟩) ⟨tt_blind, fun U hU hW => ⟨rfl, trivial⟩⟩ rfl rfl hl.1 rfl (lv_room (Nat.le_of_ble_eq_true rfl)) dX5_greatest_11 ⟨Nat.zero_le _, Nat.zero_le _⟩)) (fun r_1 hr_1 => ?_)
        refine n_to (w := nI (labF w i)) (hr_1.trans rfl) ?_
        refine lv_iload_n hx hb dX5_greatest_14 rfl (lv_at hl 1 rfl) ?_
        refine q_icmp_le hx hb (tgt := 26) (nm_le (by omega) (by omega)) dX5_greatest_15 (by decide) (fun c_15 => ?_) (fun c_15 => ?_)
        · refine lv_iload_n hx hb dX5_greatest_26 rfl (lv_at hl 1 rfl) ?_
          refine lv_istore_n (lv' := [(2, .int (mI mo)), (3, .int (nI i)), (0, .int (nI w)), (1, .int (nI k))]) hx hb dX5_greatest_27 rfl hl (by decide) rfl (fun ls hl => ?_)
          refine lv_iinc (v := nI (i + 1)) (lv' := [(3, .int (nI (i + 1))), (2, .int (mI mo)), (0, .int (nI w)), (1, .int (nI k))]) hx hb dX5_greatest_28 hl (k := 1) rfl (nI_add _ _) (by decide) rfl (fun ls hl => ?_)
          refine lv_goto (tgt := 4) hx hb dX5_greatest_31 (by decide) ?_
          exact ih4 (i + 1) mo  _  (by omega) (by omega) (by rw [hF]; simp only [grF]; first | (rw [if_pos c_15]) | (rw [if_neg c_15])) (lv_sub hl [0, 1, 2, 3] rfl)
        · refine lv_iload_n hx hb dX5_greatest_18 rfl (lv_at hl 2 rfl) ?_
          refine lv_iload_n hx hb dX5_greatest_19 rfl (lv_at hl 0 rfl) ?_
          refine vp_callSi (va_Run.run (va_runS (As := [.int (nI w), .int (nI i)]) (rest := []) ⟨hx, hb, hml, hown, hts⟩ (c_X5_label l   w i (by omega) (by omega)) (va_cwS 2 hts gX5_greatest_X5_label rfl rfl rfl (by decide +kernel) ⟨Nat.le_of_ble_eq_true rfl, Nat.le_of_ble_eq_true rfl⟩) ⟨tt_blind, fun U hU hW => ⟨rfl, trivial⟩⟩ rfl rfl hl.1 rfl (lv_room (Nat.le_of_ble_eq_true rfl)) dX5_greatest_20 ⟨Nat.zero_le _, Nat.zero_le _⟩)) (fun r_2 hr_2 => ?_)
          refine n_to (w := nI (labF w i)) (hr_2.trans rfl) ?_
          refine n_to (w := mI (labF w i + 1)) ((mI_succ _).symm) ?_
          refine lv_goto (tgt := 27) hx hb dX5_greatest_23 (by decide) ?_
          refine lv_istore_n (lv' := [(2, .int (mI (labF w i + 1))), (3, .int (nI i)), (0, .int (nI w)), (1, .int (nI k))]) hx hb dX5_greatest_27 rfl hl (by decide) rfl (fun ls hl => ?_)
          refine lv_iinc (v := nI (i + 1)) (lv' := [(3, .int (nI (i + 1))), (2, .int (mI (labF w i + 1))), (0, .int (nI w)), (1, .int (nI k))]) hx hb dX5_greatest_28 hl (k := 1) rfl (nI_add _ _) (by decide) rfl (fun ls hl => ?_)
          refine lv_goto (tgt := 4) hx hb dX5_greatest_31 (by decide) ?_
          exact ih4 (i + 1) (labF w i + 1)  _  (by omega) (by omega) (by rw [hF]; simp only [grF]; first | (rw [if_pos c_15]) | (rw [if_neg c_15])) (lv_sub hl [0, 1, 2, 3] rfl)
  exact lp4 k 0 0  _ (by omega) (by omega) (rfl) (lv_sub hl [0, 1, 2, 3] rfl)
def rX5_nextWay : Room := { frames := 2, cells := 0, slots := 0, locals := 44 }
set_option maxHeartbeats 4000000 in
set_option maxRecDepth 100000 in
theorem c_X5_nextWay (l : Launch)   (w k0 : Nat) (hw : w < 2 ^ 24) (hk : 1 ≤ k0 ∧ k0 ≤ 8) : Met l yX5_nextWay wsX5_nextWay rX5_nextWay (va_Pc [.int (nI w), .int (nI k0)] (fun _ => True)) (vp_Si (fun r => r = nI (nxF k0 w))) 0 0 (fun _ => False) := by
  refine Met.ofW (cc := cX5_nextWay) (maxL := 3) (ret := (some .int)) (by decide) rfl ?_
  intro p e s m args below meth c s₁ B hml hv
  obtain ⟨rfl, -⟩ := hv
  have hx := B.exec
  have hb := B.bytes
  have hr := B.returns
  have hts := atoms_spec (ws := wsX5_nextWay) B.pre
  have hown : s.vm.findClass RX5 = some m.cls := findClass_of_methodNamed B.named
  have hlocks := B.notSynchronized
  have hl := lv_entry ([.int (nI w), .int (nI k0)]) (n := 3) (Nat.le_of_ble_eq_true rfl)
  rw [lg_entry_eq]
  generalize (lg_sl ([.int (nI w), .int (nI k0)]) ++ List.replicate (3 - (lg_sl ([.int (nI w), .int (nI k0)])).length) Slot.unset).toArray = ls at hl ⊢
  have hl : lv_has ls 3 [(0, .int (nI w)), (1, .int (nI k0))] := hl
  refine lv_iload_n hx hb dX5_nextWay_0 rfl (lv_at hl 1 rfl) ?_
  refine lv_iconst (v := nI 1) hx hb dX5_nextWay_1 (by decide) ?_
  refine n_sub hx hb (by omega) dX5_nextWay_2 ?_
  refine lv_istore_n (lv' := [(2, .int (nI (k0 - 1))), (0, .int (nI w)), (1, .int (nI k0))]) hx hb dX5_nextWay_3 rfl hl (by decide) rfl (fun ls hl => ?_)
  have lp4 : ∀ (n : Nat) (k : Nat) (ls : Array Slot), (k = n ∧ k ≤ 7) → (nwK w (k0 - 1) = nwK w k) → lv_has ls 3 [(2, .int (nI k)), (0, .int (nI w)), (1, .int (nI k0))] → WR p l e rX5_nextWay s m (([.int (nI w), .int (nI k0)] : List Value).toArray) below meth c s.heap (fun r => r = nI (nxF k0 w)) (F0 m 4 ls []) := by
    intro n
    induction n with
    | zero =>
      intro k ls hF1 hF hl
      obtain ⟨rfl, hk7⟩ := hF1
      refine lv_iload_n hx hb dX5_nextWay_4 rfl (lv_at hl 0 rfl) ?_
      refine q_if_le hx hb (tgt := 27) (nI_le0 (by omega)) dX5_nextWay_5 (by decide) (fun c_5 => ?_) (fun c_5 => ?_)
      · refine lv_iload_n hx hb dX5_nextWay_27 rfl (lv_at hl 0 rfl) ?_
        refine q_if_ne hx hb (tgt := 33) (nI_z (by omega)) dX5_nextWay_28 (by decide) (fun c_28 => ?_) (fun c_28 => ?_)
        · omega
        · refine lv_iconst (v := nI 0) hx hb dX5_nextWay_31 (by decide) ?_
          exact W.iret (v := nI 0) hx hb hr (fun t ht hW => ⟨_, rfl, by unfold nxF; rw [hF]; first | rfl | (exfalso; omega), ht⟩) no_locs dX5_nextWay_32
      · omega
    | succ n ih4 =>
      intro k ls hF1 hF hl
      obtain ⟨hk1, hk7⟩ := hF1
      have hlb := labF_lt w k
      have hnK : nwK w k = if labF w k + 1 ≤ grF w k 0 0 then k else nwK w (k - 1) := by rw [hk1]; rfl
      refine lv_iload_n hx hb dX5_nextWay_4 rfl (lv_at hl 0 rfl) ?_
      refine q_if_le hx hb (tgt := 27) (nI_le0 (by omega)) dX5_nextWay_5 (by decide) (fun c_5 => ?_) (fun c_5 => ?_)
      · omega
      · refine lv_iload_n hx hb dX5_nextWay_8 rfl (lv_at hl 1 rfl) ?_
        refine lv_iload_n hx hb dX5_nextWay_9 rfl (lv_at hl 0 rfl) ?_
        refine vp_callSi (va_Run.run (va_runS (As := [.int (nI w), .int (nI k)]) (rest := []) ⟨hx, hb, hml, hown, hts⟩ (c_X5_label l   w k (by omega) (by omega)) (va_cwS 2 hts gX5_nextWay_X5_label rfl rfl rfl (by decide +kernel) ⟨Nat.le_of_ble_eq_true rfl, Nat.le_of_ble_eq_true rfl⟩) ⟨tt_blind, fun U hU hW => ⟨rfl, trivial⟩⟩ rfl rfl hl.1 rfl (lv_room (Nat.le_of_ble_eq_true rfl)) dX5_nextWay_10 ⟨Nat.zero_le _, Nat.zero_le _⟩)) (fun r_1 hr_1 => ?_)
        refine n_to (w := nI (labF w k)) (hr_1.trans rfl) ?_
        refine lv_iload_n hx hb dX5_nextWay_13 rfl (lv_at hl 1 rfl) ?_
        refine lv_iload_n hx hb dX5_nextWay_14 rfl (lv_at hl 0 rfl) ?_
        refine vp_callSi (va_Run.run (va_runS (As := [.int (nI w), .int (nI k)]) (rest := [.int (nI (labF w k))]) ⟨hx, hb, hml, hown, hts⟩ (c_X5_greatest l   w k hw (by omega)) (va_cwS 2 hts gX5_nextWay_X5_greatest rfl rfl rfl (by decide +kernel) ⟨Nat.le_of_ble_eq_true rfl, Nat.le_of_ble_eq_true rfl⟩) ⟨tt_blind, fun U hU hW => ⟨rfl, trivial⟩⟩ rfl rfl hl.1 rfl (lv_room (Nat.le_of_ble_eq_true rfl)) dX5_nextWay_15 ⟨Nat.zero_le _, Nat.zero_le _⟩)) (fun r_2 hr_2 => ?_)
        refine n_to (w := mI (grF w k 0 0)) (hr_2.trans rfl) ?_
        refine q_icmp_le hx hb (tgt := 27) (nm_le (by omega) (by have := grF_le w k 0 0 (by omega); omega)) dX5_nextWay_18 (by decide) (fun c_18 => ?_) (fun c_18 => ?_)
        · refine lv_iload_n hx hb dX5_nextWay_27 rfl (lv_at hl 0 rfl) ?_
          refine q_if_ne hx hb (tgt := 33) (nI_z (by omega)) dX5_nextWay_28 (by decide) (fun c_28 => ?_) (fun c_28 => ?_)
          · have hkk : nwK w (k0 - 1) = k := by rw [hF, hnK, if_pos c_18]
            refine lv_iload_n hx hb dX5_nextWay_33 rfl (lv_at hl 1 rfl) ?_
            refine lv_iconst (v := nI 1) hx hb dX5_nextWay_34 (by decide) ?_
            refine lv_iconst (v := nI 3) hx hb dX5_nextWay_35 (by decide) ?_
            refine lv_iload_n hx hb dX5_nextWay_36 rfl (lv_at hl 0 rfl) ?_
            refine n_mul hx hb dX5_nextWay_37 ?_
            refine lv_ishl hx hb dX5_nextWay_38 ?_
            refine n_to (w := nI (2 ^ (3 * k))) (nw_shl hk7) ?_
            refine lv_iconst (v := nI 1) hx hb dX5_nextWay_39 (by decide) ?_
            refine n_sub hx hb (pow1 _) dX5_nextWay_40 ?_
            refine lv_iand hx hb dX5_nextWay_41 ?_
            refine n_to (w := nI (w % 2 ^ (3 * k))) (nw_and (by omega) hk7) ?_
            refine lv_iload_n hx hb dX5_nextWay_42 rfl (lv_at hl 1 rfl) ?_
            refine lv_iload_n hx hb dX5_nextWay_43 rfl (lv_at hl 0 rfl) ?_
            refine vp_callSi (va_Run.run (va_runS (As := [.int (nI w), .int (nI k)]) (rest := [.int (nI (w % 2 ^ (3 * k)))]) ⟨hx, hb, hml, hown, hts⟩ (c_X5_label l   w k (by omega) (by omega)) (va_cwS 2 hts gX5_nextWay_X5_label rfl rfl rfl (by decide +kernel) ⟨Nat.le_of_ble_eq_true rfl, Nat.le_of_ble_eq_true rfl⟩) ⟨tt_blind, fun U hU hW => ⟨rfl, trivial⟩⟩ rfl rfl hl.1 rfl (lv_room (Nat.le_of_ble_eq_true rfl)) dX5_nextWay_44 ⟨Nat.zero_le _, Nat.zero_le _⟩)) (fun r_3 hr_3 => ?_)
            refine n_to (w := nI (labF w k)) (hr_3.trans rfl) ?_
            refine lv_iconst (v := nI 1) hx hb dX5_nextWay_47 (by decide) ?_
            refine n_add hx hb dX5_nextWay_48 ?_
            refine lv_iconst (v := nI 3) hx hb dX5_nextWay_49 (by decide) ?_
            refine lv_iload_n hx hb dX5_nextWay_50 rfl (lv_at hl 0 rfl) ?_
            refine n_mul hx hb dX5_nextWay_51 ?_
            refine lv_ishl hx hb dX5_nextWay_52 ?_
            refine n_to (w := nI ((labF w k + 1) * 2 ^ (3 * k))) (nw_shl2 hk7 (by omega)) ?_
            refine lv_ior hx hb dX5_nextWay_53 ?_
            refine n_to (w := nI (w % 2 ^ (3 * k) + (labF w k + 1) * 2 ^ (3 * k))) (nw_or) ?_
            exact W.iret (v := nI (w % 2 ^ (3 * k) + (labF w k + 1) * 2 ^ (3 * k))) hx hb hr (fun t ht hW => ⟨_, rfl, by unfold nxF; rw [hkk, if_neg (by omega)], ht⟩) no_locs dX5_nextWay_54
          · omega
        · refine lv_iinc (v := nI (k - 1)) (lv' := [(2, .int (nI (k - 1))), (0, .int (nI w)), (1, .int (nI k0))]) hx hb dX5_nextWay_21 hl (k := 0) rfl (n_m1n (by omega)) (by decide) rfl (fun ls hl => ?_)
          refine lv_goto (tgt := 4) hx hb dX5_nextWay_24 (by decide) ?_
          exact ih4 (k - 1)  _  (by omega) (by rw [hF, hnK, if_neg c_18]) (lv_sub hl [0, 1, 2] rfl)
  exact lp4 (k0 - 1) (k0 - 1)  _ (by omega) (rfl) (lv_sub hl [0, 1, 2] rfl)
theorem in_X5_isTerm_X5 : ∀ w ∈ wsX50, w ∈ wsX5_isTerm := by decide +kernel
theorem lk_X5_isTerm_7 : Cond.fieldLink RX5 7 "ArrayClaimsModel" "terms" "I" ∈ wsX5_isTerm := by decide +kernel
def rX5_isTerm_in : Room := { frames := 0, cells := 0, slots := 0, locals := 0 }
set_option maxHeartbeats 4000000 in
set_option maxRecDepth 100000 in
theorem c_X5_isTerm_in (l : Launch) (D : va_G) (cI cZ : ClassId) (A : Nat → Prop) (ad : Nat → Nat) (τ : Nat → Nat → Nat) (j : Nat) (hj : j < τ 0 1) (hc : τ 0 1 ≤ 24) : Met l yX5_isTerm wsX5_isTerm rX5_isTerm_in (va_Pc [.ref (ad 0), .int (nI j)] (Wm D cI cZ A ad τ)) (vp_Si (fun r => r = bI true)) 0 0 (fun _ => False) := by
  refine Met.ofW (cc := cX5_isTerm) (maxL := 2) (ret := (some .boolean)) (by decide) rfl ?_
  intro p e s m args below meth c s₁ B hml hv
  obtain ⟨rfl, hP, hK, hD⟩ := hv
  have hx := B.exec
  have hb := B.bytes
  have hr := B.returns
  have hts := atoms_spec (ws := wsX5_isTerm) B.pre
  have hown : s.vm.findClass RX5 = some m.cls := findClass_of_methodNamed B.named
  have hlocks := B.notSynchronized
  have hS : va_S A s.heap s.heap [] := va_S.rf
  have hl := lv_entry ([.ref (ad 0), .int (nI j)]) (n := 2) (Nat.le_of_ble_eq_true rfl)
  rw [lg_entry_eq]
  generalize (lg_sl ([.ref (ad 0), .int (nI j)]) ++ List.replicate (2 - (lg_sl ([.ref (ad 0), .int (nI j)])).length) Slot.unset).toArray = ls at hl ⊢
  have hl : lv_has ls 2 [(0, .ref (ad 0)), (1, .int (nI j))] := hl
  refine lv_iload_n hx hb dX5_isTerm_0 rfl (lv_at hl 1 rfl) ?_
  refine lv_if_lt hx hb (tgt := 16) dX5_isTerm_1 (by decide) (fun c_1 => ?_) (fun c_1 => ?_)
  · exact absurd c_1 (nI_pos (by omega))
  · refine lv_iload_n hx hb dX5_isTerm_4 rfl (lv_at hl 1 rfl) ?_
    refine lv_aload_n hx hb dX5_isTerm_5 rfl (lv_at hl 0 rfl) ?_
    refine va_get (D := D) (ci := 4) (v := .int (nI (τ 0 1))) (C := RX5) (T := TX5) (N := 20) hx hb hts in_X5_isTerm_X5 hown hK hP 0 rfl rfl 1 (by decide) (hts _ lk_X5_isTerm_7) (fun _ h9 => h9) rfl dX5_isTerm_6 ?_
    refine n_icmp_ge hx hb (tgt := 16) (by omega) (by omega) dX5_isTerm_9 (by decide) (fun c_9 => ?_) (fun c_9 => ?_)
    · omega
    · refine lv_iconst (v := nI 1) hx hb dX5_isTerm_12 (by decide) ?_
      refine lv_goto (tgt := 17) hx hb dX5_isTerm_13 (by decide) ?_
      exact W.zret (v := nI 1) hx hb hr (n_nar1) (fun t ht hW => ⟨_, rfl, rfl, ht⟩) no_locs dX5_isTerm_17
def rX5_isTerm_out : Room := { frames := 0, cells := 0, slots := 0, locals := 0 }
set_option maxHeartbeats 4000000 in
set_option maxRecDepth 100000 in
theorem c_X5_isTerm_out (l : Launch) (D : va_G) (cI cZ : ClassId) (A : Nat → Prop) (ad : Nat → Nat) (τ : Nat → Nat → Nat) (x : Int32) (hxo : x < 0 ∨ nI (τ 0 1) ≤ x) : Met l yX5_isTerm wsX5_isTerm rX5_isTerm_out (va_Pc [.ref (ad 0), .int x] (Wm D cI cZ A ad τ)) (vp_Si (fun r => r = bI false)) 0 0 (fun _ => False) := by
  refine Met.ofW (cc := cX5_isTerm) (maxL := 2) (ret := (some .boolean)) (by decide) rfl ?_
  intro p e s m args below meth c s₁ B hml hv
  obtain ⟨rfl, hP, hK, hD⟩ := hv
  have hx := B.exec
  have hb := B.bytes
  have hr := B.returns
  have hts := atoms_spec (ws := wsX5_isTerm) B.pre
  have hown : s.vm.findClass RX5 = some m.cls := findClass_of_methodNamed B.named
  have hlocks := B.notSynchronized
  have hS : va_S A s.heap s.heap [] := va_S.rf
  have hl := lv_entry ([.ref (ad 0), .int x]) (n := 2) (Nat.le_of_ble_eq_true rfl)
  rw [lg_entry_eq]
  generalize (lg_sl ([.ref (ad 0), .int x]) ++ List.replicate (2 - (lg_sl ([.ref (ad 0), .int x])).length) Slot.unset).toArray = ls at hl ⊢
  have hl : lv_has ls 2 [(0, .ref (ad 0)), (1, .int x)] := hl
  refine lv_iload_n hx hb dX5_isTerm_0 rfl (lv_at hl 1 rfl) ?_
  refine lv_if_lt hx hb (tgt := 16) dX5_isTerm_1 (by decide) (fun c_1 => ?_) (fun c_1 => ?_)
  · refine lv_iconst (v := nI 0) hx hb dX5_isTerm_16 (by decide) ?_
    exact W.zret (v := nI 0) hx hb hr (n_nar0) (fun t ht hW => ⟨_, rfl, rfl, ht⟩) no_locs dX5_isTerm_17
  · refine lv_iload_n hx hb dX5_isTerm_4 rfl (lv_at hl 1 rfl) ?_
    refine lv_aload_n hx hb dX5_isTerm_5 rfl (lv_at hl 0 rfl) ?_
    refine va_get (D := D) (ci := 4) (v := .int (nI (τ 0 1))) (C := RX5) (T := TX5) (N := 20) hx hb hts in_X5_isTerm_X5 hown hK hP 0 rfl rfl 1 (by decide) (hts _ lk_X5_isTerm_7) (fun _ h9 => h9) rfl dX5_isTerm_6 ?_
    refine lv_icmp_ge hx hb (tgt := 16) dX5_isTerm_9 (by decide) (fun c_9 => ?_) (fun c_9 => ?_)
    · refine lv_iconst (v := nI 0) hx hb dX5_isTerm_16 (by decide) ?_
      exact W.zret (v := nI 0) hx hb hr (n_nar0) (fun t ht hW => ⟨_, rfl, rfl, ht⟩) no_locs dX5_isTerm_17
    · exact absurd hxo (fun q => q.elim c_1 c_9)
theorem in_X5_thrown_X5 : ∀ w ∈ wsX50, w ∈ wsX5_thrown := by decide +kernel
theorem lk_X5_thrown_67 : Cond.fieldLink RX5 67 "ArrayClaimsModel" "thrown" "I" ∈ wsX5_thrown := by decide +kernel
def rX5_thrown : Room := { frames := 0, cells := 0, slots := 0, locals := 0 }
set_option maxHeartbeats 4000000 in
set_option maxRecDepth 100000 in
theorem c_X5_thrown (l : Launch) (D : va_G) (cI cZ : ClassId) (A : Nat → Prop) (ad : Nat → Nat) (τ : Nat → Nat → Nat)   : Met l yX5_thrown wsX5_thrown rX5_thrown (va_Pc [.ref (ad 0)] (Wm D cI cZ A ad τ)) (vp_Si (fun r => r = nI (τ 0 0))) 0 0 (fun _ => False) := by
  refine Met.ofW (cc := cX5_thrown) (maxL := 1) (ret := (some .int)) (by decide) rfl ?_
  intro p e s m args below meth c s₁ B hml hv
  obtain ⟨rfl, hP, hK, hD⟩ := hv
  have hx := B.exec
  have hb := B.bytes
  have hr := B.returns
  have hts := atoms_spec (ws := wsX5_thrown) B.pre
  have hown : s.vm.findClass RX5 = some m.cls := findClass_of_methodNamed B.named
  have hlocks := B.notSynchronized
  have hS : va_S A s.heap s.heap [] := va_S.rf
  have hl := lv_entry ([.ref (ad 0)]) (n := 1) (Nat.le_of_ble_eq_true rfl)
  rw [lg_entry_eq]
  generalize (lg_sl ([.ref (ad 0)]) ++ List.replicate (1 - (lg_sl ([.ref (ad 0)])).length) Slot.unset).toArray = ls at hl ⊢
  have hl : lv_has ls 1 [(0, .ref (ad 0))] := hl
  refine lv_aload_n hx hb dX5_thrown_0 rfl (lv_at hl 0 rfl) ?_
  refine va_get (D := D) (ci := 4) (v := .int (nI (τ 0 0))) (C := RX5) (T := TX5) (N := 20) hx hb hts in_X5_thrown_X5 hown hK hP 0 rfl rfl 0 (by decide) (hts _ lk_X5_thrown_67) (fun _ h9 => h9) rfl dX5_thrown_1 ?_
  exact W.iret (v := nI (τ 0 0)) hx hb hr (fun t ht hW => ⟨_, rfl, rfl, ht⟩) no_locs dX5_thrown_4
theorem in_X5_found_X5 : ∀ w ∈ wsX50, w ∈ wsX5_found := by decide +kernel
theorem lk_X5_found_7 : Cond.fieldLink RX5 7 "ArrayClaimsModel" "terms" "I" ∈ wsX5_found := by decide +kernel
theorem lk_X5_found_17 : Cond.fieldLink RX5 17 "ArrayClaimsModel" "kind" "[I" ∈ wsX5_found := by decide +kernel
theorem lk_X5_found_20 : Cond.fieldLink RX5 20 "ArrayClaimsModel" "first" "[I" ∈ wsX5_found := by decide +kernel
theorem lk_X5_found_23 : Cond.fieldLink RX5 23 "ArrayClaimsModel" "second" "[I" ∈ wsX5_found := by decide +kernel
theorem lk_X5_found_26 : Cond.fieldLink RX5 26 "ArrayClaimsModel" "third" "[I" ∈ wsX5_found := by decide +kernel
def rX5_found : Room := { frames := 0, cells := 0, slots := 0, locals := 0 }
set_option maxHeartbeats 4000000 in
set_option maxRecDepth 100000 in
theorem c_X5_found (l : Launch) (D : va_G) (cI cZ : ClassId) (A : Nat → Prop) (ad : Nat → Nat) (τ : Nat → Nat → Nat) (q a i x : Nat) (hI : IM τ) (hq : q ≤ 2) (ha : a ≤ 24) (hi : i ≤ 24) (hx0 : x ≤ 24) : Met l yX5_found wsX5_found rX5_found (va_Pc [.ref (ad 0), .int (nI q), .int (nI a), .int (nI i), .int (nI x)] (Wm D cI cZ A ad τ)) (vp_Si (fun r => r = mI (foundF τ q a i x (τ 0 1 - 7) 7))) 0 0 (fun _ => False) := by
  refine Met.ofW (cc := cX5_found) (maxL := 6) (ret := (some .int)) (by decide) rfl ?_
  intro p e s m args below meth c s₁ B hml hv
  obtain ⟨rfl, hP, hK, hD⟩ := hv
  have hx := B.exec
  have hb := B.bytes
  have hr := B.returns
  have hts := atoms_spec (ws := wsX5_found) B.pre
  have hown : s.vm.findClass RX5 = some m.cls := findClass_of_methodNamed B.named
  have hlocks := B.notSynchronized
  have hS : va_S A s.heap s.heap [] := va_S.rf
  have hl := lv_entry ([.ref (ad 0), .int (nI q), .int (nI a), .int (nI i), .int (nI x)]) (n := 6) (Nat.le_of_ble_eq_true rfl)
  rw [lg_entry_eq]
  generalize (lg_sl ([.ref (ad 0), .int (nI q), .int (nI a), .int (nI i), .int (nI x)]) ++ List.replicate (6 - (lg_sl ([.ref (ad 0), .int (nI q), .int (nI a), .int (nI i), .int (nI x)])).length) Slot.unset).toArray = ls at hl ⊢
  have hl : lv_has ls 6 [(0, .ref (ad 0)), (1, .int (nI q)), (2, .int (nI a)), (3, .int (nI i)), (4, .int (nI x))] := hl
  have hc := hI.terms
  refine lv_bipush (v := nI 7) hx hb dX5_found_0 (by decide) ?_
  refine lv_istore (lv' := [(5, .int (nI 7)), (0, .ref (ad 0)), (1, .int (nI q)), (2, .int (nI a)), (3, .int (nI i)), (4, .int (nI x))]) hx hb dX5_found_2 hl (by decide) rfl (fun ls hl => ?_)
  have lp4 : ∀ (n : Nat) (t : Nat) (ls : Array Slot), (t + n = τ 0 1 ∧ 7 ≤ t) → (mI (foundF τ q a i x (τ 0 1 - 7) 7) = mI (foundF τ q a i x n t)) → lv_has ls 6 [(5, .int (nI t)), (0, .ref (ad 0)), (1, .int (nI q)), (2, .int (nI a)), (3, .int (nI i)), (4, .int (nI x))] → WR p l e rX5_found s m (([.ref (ad 0), .int (nI q), .int (nI a), .int (nI i), .int (nI x)] : List Value).toArray) below meth c s.heap (fun r => r = mI (foundF τ q a i x (τ 0 1 - 7) 7)) (F0 m 4 ls []) := by
    intro n
    induction n with
    | zero =>
      intro t ls hF1 hF hl
      obtain ⟨hF0, hF7⟩ := hF1
      refine lv_iload hx hb dX5_found_4 (lv_at hl 0 rfl) ?_
      refine lv_aload_n hx hb dX5_found_6 rfl (lv_at hl 1 rfl) ?_
      refine va_get (D := D) (ci := 4) (v := .int (nI (τ 0 1))) (C := RX5) (T := TX5) (N := 20) hx hb hts in_X5_found_X5 hown hK hP 0 rfl rfl 1 (by decide) (hts _ lk_X5_found_7) (fun _ h9 => h9) rfl dX5_found_7 ?_
      refine n_icmp_ge hx hb (tgt := 67) (by omega) (by omega) dX5_found_10 (by decide) (fun c_10 => ?_) (fun c_10 => ?_)
      · refine lv_iconst (v := mI 0) hx hb dX5_found_67 (by decide) ?_
        exact W.iret (v := mI 0) hx hb hr (fun t ht hW => ⟨_, rfl, by rw [hF]; rfl, ht⟩) no_locs dX5_found_68
      · omega
    | succ n ih4 =>
      intro t ls hF1 hF hl
      obtain ⟨hF0, hF7⟩ := hF1
      have hr1 := hI.rows (j := t) (by omega)
      refine lv_iload hx hb dX5_found_4 (lv_at hl 0 rfl) ?_
      refine lv_aload_n hx hb dX5_found_6 rfl (lv_at hl 1 rfl) ?_
      refine va_get (D := D) (ci := 4) (v := .int (nI (τ 0 1))) (C := RX5) (T := TX5) (N := 20) hx hb hts in_X5_found_X5 hown hK hP 0 rfl rfl 1 (by decide) (hts _ lk_X5_found_7) (fun _ h9 => h9) rfl dX5_found_7 ?_
      refine n_icmp_ge hx hb (tgt := 67) (by omega) (by omega) dX5_found_10 (by decide) (fun c_10 => ?_) (fun c_10 => ?_)
      · omega
      · refine lv_aload_n hx hb dX5_found_13 rfl (lv_at hl 1 rfl) ?_
        refine va_get (D := D) (ci := 4) (v := .ref (ad 3)) (C := RX5) (T := TX5) (N := 20) hx hb hts in_X5_found_X5 hown hK hP 0 rfl rfl 3 (by decide) (hts _ lk_X5_found_17) (fun _ h9 => h9) rfl dX5_found_14 ?_
        refine lv_iload hx hb dX5_found_17 (lv_at hl 0 rfl) ?_
        refine n_ald hx hb hK hP 2 0 rfl rfl (i := t) (by omega) (by decide) (v := nI (τ 3 t)) rfl dX5_found_19 ?_
        refine lv_iload_n hx hb dX5_found_20 rfl (lv_at hl 2 rfl) ?_
        refine q_icmp_ne hx hb (tgt := 61) (nI_eq (by omega) (by omega)) dX5_found_21 (by decide) (fun c_21 => ?_) (fun c_21 => ?_)
        · refine lv_iinc (v := nI (t + 1)) (lv' := [(5, .int (nI (t + 1))), (0, .ref (ad 0)), (1, .int (nI q)), (2, .int (nI a)), (3, .int (nI i)), (4, .int (nI x))]) hx hb dX5_found_61 hl (k := 0) rfl (nI_add _ _) (by decide) rfl (fun ls hl => ?_)
          refine lv_goto (tgt := 4) hx hb dX5_found_64 (by decide) ?_
          exact ih4 (t + 1)  _  (by omega) (by rw [hF]; simp [foundF, *]) (lv_sub hl [0, 1, 2, 3, 4, 5] rfl)
        · refine lv_aload_n hx hb dX5_found_24 rfl (lv_at hl 1 rfl) ?_
          refine va_get (D := D) (ci := 4) (v := .ref (ad 4)) (C := RX5) (T := TX5) (N := 20) hx hb hts in_X5_found_X5 hown hK hP 0 rfl rfl 4 (by decide) (hts _ lk_X5_found_20) (fun _ h9 => h9) rfl dX5_found_25 ?_
          refine lv_iload hx hb dX5_found_28 (lv_at hl 0 rfl) ?_
          refine n_ald hx hb hK hP 3 0 rfl rfl (i := t) (by omega) (by decide) (v := nI (τ 4 t)) rfl dX5_found_30 ?_
          refine lv_iload_n hx hb dX5_found_31 rfl (lv_at hl 3 rfl) ?_
          refine q_icmp_ne hx hb (tgt := 61) (nI_eq (by omega) (by omega)) dX5_found_32 (by decide) (fun c_32 => ?_) (fun c_32 => ?_)
          · refine lv_iinc (v := nI (t + 1)) (lv' := [(5, .int (nI (t + 1))), (0, .ref (ad 0)), (1, .int (nI q)), (2, .int (nI a)), (3, .int (nI i)), (4, .int (nI x))]) hx hb dX5_found_61 hl (k := 0) rfl (nI_add _ _) (by decide) rfl (fun ls hl => ?_)
            refine lv_goto (tgt := 4) hx hb dX5_found_64 (by decide) ?_
            exact ih4 (t + 1)  _  (by omega) (by rw [hF]; simp [foundF, *]) (lv_sub hl [0, 1, 2, 3, 4, 5] rfl)
          · refine lv_aload_n hx hb dX5_found_35 rfl (lv_at hl 1 rfl) ?_
            refine va_get (D := D) (ci := 4) (v := .ref (ad 5)) (C := RX5) (T := TX5) (N := 20) hx hb hts in_X5_found_X5 hown hK hP 0 rfl rfl 5 (by decide) (hts _ lk_X5_found_23) (fun _ h9 => h9) rfl dX5_found_36 ?_
            refine lv_iload hx hb dX5_found_39 (lv_at hl 0 rfl) ?_
            refine n_ald hx hb hK hP 4 0 rfl rfl (i := t) (by omega) (by decide) (v := nI (τ 5 t)) rfl dX5_found_41 ?_
            refine lv_iload_n hx hb dX5_found_42 rfl (lv_at hl 4 rfl) ?_
            refine q_icmp_ne hx hb (tgt := 61) (nI_eq (by omega) (by omega)) dX5_found_43 (by decide) (fun c_43 => ?_) (fun c_43 => ?_)
            · refine lv_iinc (v := nI (t + 1)) (lv' := [(5, .int (nI (t + 1))), (0, .ref (ad 0)), (1, .int (nI q)), (2, .int (nI a)), (3, .int (nI i)), (4, .int (nI x))]) hx hb dX5_found_61 hl (k := 0) rfl (nI_add _ _) (by decide) rfl (fun ls hl => ?_)
              refine lv_goto (tgt := 4) hx hb dX5_found_64 (by decide) ?_
              exact ih4 (t + 1)  _  (by omega) (by rw [hF]; simp [foundF, *]) (lv_sub hl [0, 1, 2, 3, 4, 5] rfl)
            · refine lv_aload_n hx hb dX5_found_46 rfl (lv_at hl 1 rfl) ?_
              refine va_get (D := D) (ci := 4) (v := .ref (ad 6)) (C := RX5) (T := TX5) (N := 20) hx hb hts in_X5_found_X5 hown hK hP 0 rfl rfl 6 (by decide) (hts _ lk_X5_found_26) (fun _ h9 => h9) rfl dX5_found_47 ?_
              refine lv_iload hx hb dX5_found_50 (lv_at hl 0 rfl) ?_
              refine n_ald hx hb hK hP 5 0 rfl rfl (i := t) (by omega) (by decide) (v := nI (τ 6 t)) rfl dX5_found_52 ?_
              refine lv_iload hx hb dX5_found_53 (lv_at hl 5 rfl) ?_
              refine q_icmp_ne hx hb (tgt := 61) (nI_eq (by omega) (by omega)) dX5_found_55 (by decide) (fun c_55 => ?_) (fun c_55 => ?_)
              · refine lv_iinc (v := nI (t + 1)) (lv' := [(5, .int (nI (t + 1))), (0, .ref (ad 0)), (1, .int (nI q)), (2, .int (nI a)), (3, .int (nI i)), (4, .int (nI x))]) hx hb dX5_found_61 hl (k := 0) rfl (nI_add _ _) (by decide) rfl (fun ls hl => ?_)
                refine lv_goto (tgt := 4) hx hb dX5_found_64 (by decide) ?_
                exact ih4 (t + 1)  _  (by omega) (by rw [hF]; simp [foundF, *]) (lv_sub hl [0, 1, 2, 3, 4, 5] rfl)
              · refine lv_iload hx hb dX5_found_58 (lv_at hl 0 rfl) ?_
                exact W.iret (v := nI t) hx hb hr (fun t ht hW => ⟨_, rfl, by rw [hF]; simp [foundF, *, mI_succ], ht⟩) no_locs dX5_found_60
  exact lp4 (τ 0 1 - 7) 7  _ (by omega) (rfl) (lv_sub hl [0, 1, 2, 3, 4, 5] rfl)
theorem in_X5_areSame_X5 : ∀ w ∈ wsX50, w ∈ wsX5_areSame := by decide +kernel
theorem lk_X5_areSame_35 : Cond.fieldLink RX5 35 "ArrayClaimsModel" "code" "[I" ∈ wsX5_areSame := by decide +kernel
theorem lk_X5_areSame_13 : Cond.fieldLink RX5 13 "ArrayClaimsModel" "sort" "[I" ∈ wsX5_areSame := by decide +kernel
theorem lk_X5_areSame_32 : Cond.fieldLink RX5 32 "ArrayClaimsModel" "classes" "[I" ∈ wsX5_areSame := by decide +kernel
def rX5_areSame : Room := { frames := 1, cells := 0, slots := 0, locals := 21 }
set_option maxHeartbeats 4000000 in
set_option maxRecDepth 100000 in
theorem c_X5_areSame (l : Launch) (D : va_G) (cI cZ : ClassId) (A : Nat → Prop) (ad : Nat → Nat) (τ : Nat → Nat → Nat) (t u p1 w : Nat) (els : Bool) (hI : IM τ) (ht : t < 24) (hu : u < 24) (hp1 : p1 < 5) (hw : w < 2 ^ 24) (hsu : τ 2 u = τ 2 t) : Met l yX5_areSame wsX5_areSame rX5_areSame (va_Pc [.ref (ad 0), .int (nI t), .int (nI u), .int (nI p1), .int (nI w), .int (bI els)] (Wm D cI cZ A ad τ)) (vp_Si (fun r => r = bI (asB τ t u p1 w els))) 0 0 (fun _ => False) := by
  refine Met.ofW (cc := cX5_areSame) (maxL := 10) (ret := (some .boolean)) (by decide) rfl ?_
  intro p e s m args below meth c s₁ B hml hv
  obtain ⟨rfl, hP, hK, hD⟩ := hv
  have hx := B.exec
  have hb := B.bytes
  have hr := B.returns
  have hts := atoms_spec (ws := wsX5_areSame) B.pre
  have hown : s.vm.findClass RX5 = some m.cls := findClass_of_methodNamed B.named
  have hlocks := B.notSynchronized
  have hS : va_S A s.heap s.heap [] := va_S.rf
  have hl := lv_entry ([.ref (ad 0), .int (nI t), .int (nI u), .int (nI p1), .int (nI w), .int (bI els)]) (n := 10) (Nat.le_of_ble_eq_true rfl)
  rw [lg_entry_eq]
  generalize (lg_sl ([.ref (ad 0), .int (nI t), .int (nI u), .int (nI p1), .int (nI w), .int (bI els)]) ++ List.replicate (10 - (lg_sl ([.ref (ad 0), .int (nI t), .int (nI u), .int (nI p1), .int (nI w), .int (bI els)])).length) Slot.unset).toArray = ls at hl ⊢
  have hl : lv_has ls 10 [(0, .ref (ad 0)), (1, .int (nI t)), (2, .int (nI u)), (3, .int (nI p1)), (4, .int (nI w)), (5, .int (bI els))] := hl
  have hX := hI.code (j := 24 * p1 + t) (by omega)
  have hY := hI.code (j := 24 * p1 + u) (by omega)
  have hs := hI.sorts ht
  have hcl := hI.cls hp1
  have hdf := tab_ok p1 hp1
  have has : asB τ t u p1 w els = asX (τ 2 t) (τ 8 p1) w (τ 9 (24 * p1 + t)) (τ 9 (24 * p1 + u)) els := rfl
  generalize hxe : τ 9 (24 * p1 + t) = X1 at *
  generalize hye : τ 9 (24 * p1 + u) = Y1 at *
  refine lv_aload_n hx hb dX5_areSame_0 rfl (lv_at hl 0 rfl) ?_
  refine va_get (D := D) (ci := 4) (v := .ref (ad 9)) (C := RX5) (T := TX5) (N := 20) hx hb hts in_X5_areSame_X5 hown hK hP 0 rfl rfl 9 (by decide) (hts _ lk_X5_areSame_35) (fun _ h9 => h9) rfl dX5_areSame_1 ?_
  refine lv_bipush (v := nI 24) hx hb dX5_areSame_4 (by decide) ?_
  refine lv_iload_n hx hb dX5_areSame_6 rfl (lv_at hl 3 rfl) ?_
  refine n_mul hx hb dX5_areSame_7 ?_
  refine lv_iload_n hx hb dX5_areSame_8 rfl (lv_at hl 1 rfl) ?_
  refine n_add hx hb dX5_areSame_9 ?_
  refine n_ald hx hb hK hP 8 0 rfl rfl (i := (24 * p1) + t) (by omega) (by decide) (v := nI (τ 9 ((24 * p1) + t))) rfl dX5_areSame_10 ?_
  refine n_to (w := nI X1) (by rw [hxe]) ?_
  refine lv_istore (lv' := [(6, .int (nI X1)), (0, .ref (ad 0)), (1, .int (nI t)), (2, .int (nI u)), (3, .int (nI p1)), (4, .int (nI w)), (5, .int (bI els))]) hx hb dX5_areSame_11 hl (by decide) rfl (fun ls hl => ?_)
  refine lv_aload_n hx hb dX5_areSame_13 rfl (lv_at hl 1 rfl) ?_
  refine va_get (D := D) (ci := 4) (v := .ref (ad 9)) (C := RX5) (T := TX5) (N := 20) hx hb hts in_X5_areSame_X5 hown hK hP 0 rfl rfl 9 (by decide) (hts _ lk_X5_areSame_35) (fun _ h9 => h9) rfl dX5_areSame_14 ?_
  refine lv_bipush (v := nI 24) hx hb dX5_areSame_17 (by decide) ?_
  refine lv_iload_n hx hb dX5_areSame_19 rfl (lv_at hl 4 rfl) ?_
  refine n_mul hx hb dX5_areSame_20 ?_
  refine lv_iload_n hx hb dX5_areSame_21 rfl (lv_at hl 3 rfl) ?_
  refine n_add hx hb dX5_areSame_22 ?_
  refine n_ald hx hb hK hP 8 0 rfl rfl (i := (24 * p1) + u) (by omega) (by decide) (v := nI (τ 9 ((24 * p1) + u))) rfl dX5_areSame_23 ?_
  refine n_to (w := nI Y1) (by rw [hye]) ?_
  refine lv_istore (lv' := [(7, .int (nI Y1)), (6, .int (nI X1)), (0, .ref (ad 0)), (1, .int (nI t)), (2, .int (nI u)), (3, .int (nI p1)), (4, .int (nI w)), (5, .int (bI els))]) hx hb dX5_areSame_24 hl (by decide) rfl (fun ls hl => ?_)
  refine lv_aload_n hx hb dX5_areSame_26 rfl (lv_at hl 2 rfl) ?_
  refine va_get (D := D) (ci := 4) (v := .ref (ad 2)) (C := RX5) (T := TX5) (N := 20) hx hb hts in_X5_areSame_X5 hown hK hP 0 rfl rfl 2 (by decide) (hts _ lk_X5_areSame_13) (fun _ h9 => h9) rfl dX5_areSame_27 ?_
  refine lv_iload_n hx hb dX5_areSame_30 rfl (lv_at hl 3 rfl) ?_
  refine n_ald hx hb hK hP 1 0 rfl rfl (i := t) (by omega) (by decide) (v := nI (τ 2 t)) rfl dX5_areSame_31 ?_
  refine q_if_ne hx hb (tgt := 48) (nI_z (by omega)) dX5_areSame_32 (by decide) (fun c_32 => ?_) (fun c_32 => ?_)
  · refine lv_aload_n hx hb dX5_areSame_48 rfl (lv_at hl 2 rfl) ?_
    refine va_get (D := D) (ci := 4) (v := .ref (ad 2)) (C := RX5) (T := TX5) (N := 20) hx hb hts in_X5_areSame_X5 hown hK hP 0 rfl rfl 2 (by decide) (hts _ lk_X5_areSame_13) (fun _ h9 => h9) rfl dX5_areSame_49 ?_
    refine lv_iload_n hx hb dX5_areSame_52 rfl (lv_at hl 3 rfl) ?_
    refine n_ald hx hb hK hP 1 0 rfl rfl (i := t) (by omega) (by decide) (v := nI (τ 2 t)) rfl dX5_areSame_53 ?_
    refine lv_iconst (v := nI 1) hx hb dX5_areSame_54 (by decide) ?_
    refine q_icmp_ne hx hb (tgt := 81) (nI_eq (by omega) (by omega)) dX5_areSame_55 (by decide) (fun c_55 => ?_) (fun c_55 => ?_)
    · have hq2 : asB τ t u p1 w els = asL w X1 Y1 (τ 8 p1) 0 (els || decide (X1 % 2 = Y1 % 2)) := by rw [has]; unfold asX; rw [if_neg c_32, if_neg c_55]
      refine lv_iload hx hb dX5_areSame_81 (lv_at hl 7 rfl) ?_
      refine q_if_ne hx hb (tgt := 97) (bI_z) dX5_areSame_83 (by decide) (fun c_83 => ?_) (fun c_83 => ?_)
      · refine lv_iconst (v := nI 1) hx hb dX5_areSame_97 (by decide) ?_
        refine lv_goto (tgt := 102) hx hb dX5_areSame_98 (by decide) ?_
        refine lv_istore (lv' := [(8, .int (nI 1)), (7, .int (nI Y1)), (6, .int (nI X1)), (0, .ref (ad 0)), (1, .int (nI t)), (2, .int (nI u)), (3, .int (nI p1)), (4, .int (nI w)), (5, .int (bI els))]) hx hb dX5_areSame_102 hl (by decide) rfl (fun ls hl => ?_)
        refine lv_iconst (v := nI 0) hx hb dX5_areSame_104 (by decide) ?_
        refine lv_istore (lv' := [(9, .int (nI 0)), (8, .int (nI 1)), (7, .int (nI Y1)), (6, .int (nI X1)), (0, .ref (ad 0)), (1, .int (nI t)), (2, .int (nI u)), (3, .int (nI p1)), (4, .int (nI w)), (5, .int (bI els))]) hx hb dX5_areSame_105 hl (by decide) rfl (fun ls hl => ?_)
        have lp107 : ∀ (n : Nat) (c1 : Nat) (sm : Bool) (ls : Array Slot), (c1 + n = τ 8 p1) → (asB τ t u p1 w els = asL w X1 Y1 n c1 sm) → lv_has ls 10 [(9, .int (nI c1)), (8, .int (bI sm)), (7, .int (nI Y1)), (6, .int (nI X1)), (0, .ref (ad 0)), (1, .int (nI t)), (2, .int (nI u)), (3, .int (nI p1)), (4, .int (nI w)), (5, .int (bI els))] → WR p l e rX5_areSame s m (([.ref (ad 0), .int (nI t), .int (nI u), .int (nI p1), .int (nI w), .int (bI els)] : List Value).toArray) below meth c s.heap (fun r => r = bI (asB τ t u p1 w els)) (F0 m 107 ls []) := by
          intro n
          induction n with
          | zero =>
            intro c1 sm ls hF1 hF hl
            refine lv_iload hx hb dX5_areSame_107 (lv_at hl 0 rfl) ?_
            refine lv_aload_n hx hb dX5_areSame_109 rfl (lv_at hl 4 rfl) ?_
            refine va_get (D := D) (ci := 4) (v := .ref (ad 8)) (C := RX5) (T := TX5) (N := 20) hx hb hts in_X5_areSame_X5 hown hK hP 0 rfl rfl 8 (by decide) (hts _ lk_X5_areSame_32) (fun _ h9 => h9) rfl dX5_areSame_110 ?_
            refine lv_iload_n hx hb dX5_areSame_113 rfl (lv_at hl 7 rfl) ?_
            refine n_ald hx hb hK hP 7 0 rfl rfl (i := p1) (by omega) (by decide) (v := nI (τ 8 p1)) rfl dX5_areSame_114 ?_
            refine n_icmp_ge hx hb (tgt := 163) (by omega) (by omega) dX5_areSame_115 (by decide) (fun c_115 => ?_) (fun c_115 => ?_)
            · refine lv_iload hx hb dX5_areSame_163 (lv_at hl 1 rfl) ?_
              exact W.zret (v := bI sm) hx hb hr (bI_nar _) (fun t ht hW => ⟨_, rfl, by rw [hF]; rfl, ht⟩) no_locs dX5_areSame_165
            · omega
          | succ n ih107 =>
            intro c1 sm ls hF1 hF hl
            refine lv_iload hx hb dX5_areSame_107 (lv_at hl 0 rfl) ?_
            refine lv_aload_n hx hb dX5_areSame_109 rfl (lv_at hl 4 rfl) ?_
            refine va_get (D := D) (ci := 4) (v := .ref (ad 8)) (C := RX5) (T := TX5) (N := 20) hx hb hts in_X5_areSame_X5 hown hK hP 0 rfl rfl 8 (by decide) (hts _ lk_X5_areSame_32) (fun _ h9 => h9) rfl dX5_areSame_110 ?_
            refine lv_iload_n hx hb dX5_areSame_113 rfl (lv_at hl 7 rfl) ?_
            refine n_ald hx hb hK hP 7 0 rfl rfl (i := p1) (by omega) (by decide) (v := nI (τ 8 p1)) rfl dX5_areSame_114 ?_
            refine n_icmp_ge hx hb (tgt := 163) (by omega) (by omega) dX5_areSame_115 (by decide) (fun c_115 => ?_) (fun c_115 => ?_)
            · omega
            · refine lv_iload hx hb dX5_areSame_118 (lv_at hl 1 rfl) ?_
              refine q_if_eq hx hb (tgt := 154) (bI_z) dX5_areSame_120 (by decide) (fun c_120 => ?_) (fun c_120 => ?_)
              · refine lv_iconst (v := nI 0) hx hb dX5_areSame_154 (by decide) ?_
                refine lv_istore (lv' := [(8, .int (nI 0)), (9, .int (nI c1)), (7, .int (nI Y1)), (6, .int (nI X1)), (0, .ref (ad 0)), (1, .int (nI t)), (2, .int (nI u)), (3, .int (nI p1)), (4, .int (nI w)), (5, .int (bI els))]) hx hb dX5_areSame_155 hl (by decide) rfl (fun ls hl => ?_)
                refine lv_iinc (v := nI (c1 + 1)) (lv' := [(9, .int (nI (c1 + 1))), (8, .int (nI 0)), (7, .int (nI Y1)), (6, .int (nI X1)), (0, .ref (ad 0)), (1, .int (nI t)), (2, .int (nI u)), (3, .int (nI p1)), (4, .int (nI w)), (5, .int (bI els))]) hx hb dX5_areSame_157 hl (k := 1) rfl (nI_add _ _) (by decide) rfl (fun ls hl => ?_)
                refine lv_goto (tgt := 107) hx hb dX5_areSame_160 (by decide) ?_
                exact ih107 (c1 + 1) false  _  (by omega) (by rw [hF]; simp only [asL]; first | (rw [c_120]; rfl) | (rw [ts_nf c_120, decide_eq_true c_147]; rfl) | (rw [ts_nf c_120, decide_eq_false c_147]; rfl)) (lv_sub hl [0, 1, 2, 3, 4, 5, 6, 7, 8, 9] rfl)
              · refine lv_iload hx hb dX5_areSame_123 (lv_at hl 8 rfl) ?_
                refine lv_iload hx hb dX5_areSame_125 (lv_at hl 3 rfl) ?_
                refine lv_iload hx hb dX5_areSame_127 (lv_at hl 0 rfl) ?_
                refine vp_callSi (va_Run.run (va_runS (As := [.int (nI X1), .int (nI c1)]) (rest := [.int (nI w)]) ⟨hx, hb, hml, hown, hts⟩ (c_X5_part l   (X1) c1 (by omega) (by omega)) (va_cwS 2 hts gX5_areSame_X5_part rfl rfl rfl (by decide +kernel) ⟨Nat.le_of_ble_eq_true rfl, Nat.le_of_ble_eq_true rfl⟩) ⟨tt_blind, fun U hU hW => ⟨rfl, trivial⟩⟩ rfl rfl hl.1 rfl (lv_room (Nat.le_of_ble_eq_true rfl)) dX5_areSame_129 ⟨Nat.zero_le _, Nat.zero_le _⟩)) (fun r_1 hr_1 => ?_)
                refine n_to (w := nI (partF (X1) c1)) (hr_1.trans rfl) ?_
                refine vp_callSi (va_Run.run (va_runS (As := [.int (nI w), .int (nI (partF (X1) c1))]) (rest := []) ⟨hx, hb, hml, hown, hts⟩ (c_X5_label l   w (partF X1 c1) (by omega) (by have := partF_lt X1 c1; omega)) (va_cwS 2 hts gX5_areSame_X5_label rfl rfl rfl (by decide +kernel) ⟨Nat.le_of_ble_eq_true rfl, Nat.le_of_ble_eq_true rfl⟩) ⟨tt_blind, fun U hU hW => ⟨rfl, trivial⟩⟩ rfl rfl hl.1 rfl (lv_room (Nat.le_of_ble_eq_true rfl)) dX5_areSame_132 ⟨Nat.zero_le _, Nat.zero_le _⟩)) (fun r_2 hr_2 => ?_)
                refine n_to (w := nI (labF w (partF X1 c1))) (hr_2.trans rfl) ?_
                refine lv_iload hx hb dX5_areSame_135 (lv_at hl 8 rfl) ?_
                refine lv_iload hx hb dX5_areSame_137 (lv_at hl 2 rfl) ?_
                refine lv_iload hx hb dX5_areSame_139 (lv_at hl 0 rfl) ?_
                refine vp_callSi (va_Run.run (va_runS (As := [.int (nI Y1), .int (nI c1)]) (rest := [.int (nI w), .int (nI (labF w (partF X1 c1)))]) ⟨hx, hb, hml, hown, hts⟩ (c_X5_part l   (Y1) c1 (by omega) (by omega)) (va_cwS 2 hts gX5_areSame_X5_part rfl rfl rfl (by decide +kernel) ⟨Nat.le_of_ble_eq_true rfl, Nat.le_of_ble_eq_true rfl⟩) ⟨tt_blind, fun U hU hW => ⟨rfl, trivial⟩⟩ rfl rfl hl.1 rfl (lv_room (Nat.le_of_ble_eq_true rfl)) dX5_areSame_141 ⟨Nat.zero_le _, Nat.zero_le _⟩)) (fun r_3 hr_3 => ?_)
                refine n_to (w := nI (partF (Y1) c1)) (hr_3.trans rfl) ?_
                refine vp_callSi (va_Run.run (va_runS (As := [.int (nI w), .int (nI (partF (Y1) c1))]) (rest := [.int (nI (labF w (partF X1 c1)))]) ⟨hx, hb, hml, hown, hts⟩ (c_X5_label l   w (partF Y1 c1) (by omega) (by have := partF_lt Y1 c1; omega)) (va_cwS 2 hts gX5_areSame_X5_label rfl rfl rfl (by decide +kernel) ⟨Nat.le_of_ble_eq_true rfl, Nat.le_of_ble_eq_true rfl⟩) ⟨tt_blind, fun U hU hW => ⟨rfl, trivial⟩⟩ rfl rfl hl.1 rfl (lv_room (Nat.le_of_ble_eq_true rfl)) dX5_areSame_144 ⟨Nat.zero_le _, Nat.zero_le _⟩)) (fun r_4 hr_4 => ?_)
                refine n_to (w := nI (labF w (partF Y1 c1))) (hr_4.trans rfl) ?_
                refine q_icmp_ne hx hb (tgt := 154) (nI_eq (by have := labF_lt w (partF X1 c1); omega) (by have := labF_lt w (partF Y1 c1); omega)) dX5_areSame_147 (by decide) (fun c_147 => ?_) (fun c_147 => ?_)
                · refine lv_iconst (v := nI 0) hx hb dX5_areSame_154 (by decide) ?_
                  refine lv_istore (lv' := [(8, .int (nI 0)), (9, .int (nI c1)), (7, .int (nI Y1)), (6, .int (nI X1)), (0, .ref (ad 0)), (1, .int (nI t)), (2, .int (nI u)), (3, .int (nI p1)), (4, .int (nI w)), (5, .int (bI els))]) hx hb dX5_areSame_155 hl (by decide) rfl (fun ls hl => ?_)
                  refine lv_iinc (v := nI (c1 + 1)) (lv' := [(9, .int (nI (c1 + 1))), (8, .int (nI 0)), (7, .int (nI Y1)), (6, .int (nI X1)), (0, .ref (ad 0)), (1, .int (nI t)), (2, .int (nI u)), (3, .int (nI p1)), (4, .int (nI w)), (5, .int (bI els))]) hx hb dX5_areSame_157 hl (k := 1) rfl (nI_add _ _) (by decide) rfl (fun ls hl => ?_)
                  refine lv_goto (tgt := 107) hx hb dX5_areSame_160 (by decide) ?_
                  exact ih107 (c1 + 1) false  _  (by omega) (by rw [hF]; simp only [asL]; first | (rw [c_120]; rfl) | (rw [ts_nf c_120, decide_eq_true c_147]; rfl) | (rw [ts_nf c_120, decide_eq_false c_147]; rfl)) (lv_sub hl [0, 1, 2, 3, 4, 5, 6, 7, 8, 9] rfl)
                · refine lv_iconst (v := nI 1) hx hb dX5_areSame_150 (by decide) ?_
                  refine lv_goto (tgt := 155) hx hb dX5_areSame_151 (by decide) ?_
                  refine lv_istore (lv' := [(8, .int (nI 1)), (9, .int (nI c1)), (7, .int (nI Y1)), (6, .int (nI X1)), (0, .ref (ad 0)), (1, .int (nI t)), (2, .int (nI u)), (3, .int (nI p1)), (4, .int (nI w)), (5, .int (bI els))]) hx hb dX5_areSame_155 hl (by decide) rfl (fun ls hl => ?_)
                  refine lv_iinc (v := nI (c1 + 1)) (lv' := [(9, .int (nI (c1 + 1))), (8, .int (nI 1)), (7, .int (nI Y1)), (6, .int (nI X1)), (0, .ref (ad 0)), (1, .int (nI t)), (2, .int (nI u)), (3, .int (nI p1)), (4, .int (nI w)), (5, .int (bI els))]) hx hb dX5_areSame_157 hl (k := 1) rfl (nI_add _ _) (by decide) rfl (fun ls hl => ?_)
                  refine lv_goto (tgt := 107) hx hb dX5_areSame_160 (by decide) ?_
                  exact ih107 (c1 + 1) true  _  (by omega) (by rw [hF]; simp only [asL]; first | (rw [c_120]; rfl) | (rw [ts_nf c_120, decide_eq_true c_147]; rfl) | (rw [ts_nf c_120, decide_eq_false c_147]; rfl)) (lv_sub hl [0, 1, 2, 3, 4, 5, 6, 7, 8, 9] rfl)
        exact lp107 (τ 8 p1) 0 true  _ (by omega) (by rw [hq2]; first | (rw [decide_eq_true c_94, Bool.or_true]) | (rw [decide_eq_false c_94, ts_nf2 c_83]; rfl) | (rw [ts_nf c_83]; rfl)) (lv_sub hl [0, 1, 2, 3, 4, 5, 6, 7, 8, 9] rfl)
      · refine lv_iload hx hb dX5_areSame_86 (lv_at hl 1 rfl) ?_
        refine lv_iconst (v := nI 1) hx hb dX5_areSame_88 (by decide) ?_
        refine lv_iand hx hb dX5_areSame_89 ?_
        refine n_to (w := nI (X1 % 2)) (and1 (by omega)) ?_
        refine lv_iload hx hb dX5_areSame_90 (lv_at hl 0 rfl) ?_
        refine lv_iconst (v := nI 1) hx hb dX5_areSame_92 (by decide) ?_
        refine lv_iand hx hb dX5_areSame_93 ?_
        refine n_to (w := nI (Y1 % 2)) (and1 (by omega)) ?_
        refine q_icmp_ne hx hb (tgt := 101) (nI_eq (by omega) (by omega)) dX5_areSame_94 (by decide) (fun c_94 => ?_) (fun c_94 => ?_)
        · refine lv_iconst (v := nI 0) hx hb dX5_areSame_101 (by decide) ?_
          refine lv_istore (lv' := [(8, .int (nI 0)), (7, .int (nI Y1)), (6, .int (nI X1)), (0, .ref (ad 0)), (1, .int (nI t)), (2, .int (nI u)), (3, .int (nI p1)), (4, .int (nI w)), (5, .int (bI els))]) hx hb dX5_areSame_102 hl (by decide) rfl (fun ls hl => ?_)
          refine lv_iconst (v := nI 0) hx hb dX5_areSame_104 (by decide) ?_
          refine lv_istore (lv' := [(9, .int (nI 0)), (8, .int (nI 0)), (7, .int (nI Y1)), (6, .int (nI X1)), (0, .ref (ad 0)), (1, .int (nI t)), (2, .int (nI u)), (3, .int (nI p1)), (4, .int (nI w)), (5, .int (bI els))]) hx hb dX5_areSame_105 hl (by decide) rfl (fun ls hl => ?_)
          have lp107 : ∀ (n : Nat) (c1 : Nat) (sm : Bool) (ls : Array Slot), (c1 + n = τ 8 p1) → (asB τ t u p1 w els = asL w X1 Y1 n c1 sm) → lv_has ls 10 [(9, .int (nI c1)), (8, .int (bI sm)), (7, .int (nI Y1)), (6, .int (nI X1)), (0, .ref (ad 0)), (1, .int (nI t)), (2, .int (nI u)), (3, .int (nI p1)), (4, .int (nI w)), (5, .int (bI els))] → WR p l e rX5_areSame s m (([.ref (ad 0), .int (nI t), .int (nI u), .int (nI p1), .int (nI w), .int (bI els)] : List Value).toArray) below meth c s.heap (fun r => r = bI (asB τ t u p1 w els)) (F0 m 107 ls []) := by
            intro n
            induction n with
            | zero =>
              intro c1 sm ls hF1 hF hl
              refine lv_iload hx hb dX5_areSame_107 (lv_at hl 0 rfl) ?_
              refine lv_aload_n hx hb dX5_areSame_109 rfl (lv_at hl 4 rfl) ?_
              refine va_get (D := D) (ci := 4) (v := .ref (ad 8)) (C := RX5) (T := TX5) (N := 20) hx hb hts in_X5_areSame_X5 hown hK hP 0 rfl rfl 8 (by decide) (hts _ lk_X5_areSame_32) (fun _ h9 => h9) rfl dX5_areSame_110 ?_
              refine lv_iload_n hx hb dX5_areSame_113 rfl (lv_at hl 7 rfl) ?_
              refine n_ald hx hb hK hP 7 0 rfl rfl (i := p1) (by omega) (by decide) (v := nI (τ 8 p1)) rfl dX5_areSame_114 ?_
              refine n_icmp_ge hx hb (tgt := 163) (by omega) (by omega) dX5_areSame_115 (by decide) (fun c_115 => ?_) (fun c_115 => ?_)
              · refine lv_iload hx hb dX5_areSame_163 (lv_at hl 1 rfl) ?_
                exact W.zret (v := bI sm) hx hb hr (bI_nar _) (fun t ht hW => ⟨_, rfl, by rw [hF]; rfl, ht⟩) no_locs dX5_areSame_165
              · omega
            | succ n ih107 =>
              intro c1 sm ls hF1 hF hl
              refine lv_iload hx hb dX5_areSame_107 (lv_at hl 0 rfl) ?_
              refine lv_aload_n hx hb dX5_areSame_109 rfl (lv_at hl 4 rfl) ?_
              refine va_get (D := D) (ci := 4) (v := .ref (ad 8)) (C := RX5) (T := TX5) (N := 20) hx hb hts in_X5_areSame_X5 hown hK hP 0 rfl rfl 8 (by decide) (hts _ lk_X5_areSame_32) (fun _ h9 => h9) rfl dX5_areSame_110 ?_
              refine lv_iload_n hx hb dX5_areSame_113 rfl (lv_at hl 7 rfl) ?_
              refine n_ald hx hb hK hP 7 0 rfl rfl (i := p1) (by omega) (by decide) (v := nI (τ 8 p1)) rfl dX5_areSame_114 ?_
              refine n_icmp_ge hx hb (tgt := 163) (by omega) (by omega) dX5_areSame_115 (by decide) (fun c_115 => ?_) (fun c_115 => ?_)
              · omega
              · refine lv_iload hx hb dX5_areSame_118 (lv_at hl 1 rfl) ?_
                refine q_if_eq hx hb (tgt := 154) (bI_z) dX5_areSame_120 (by decide) (fun c_120 => ?_) (fun c_120 => ?_)
                · refine lv_iconst (v := nI 0) hx hb dX5_areSame_154 (by decide) ?_
                  refine lv_istore (lv' := [(8, .int (nI 0)), (9, .int (nI c1)), (7, .int (nI Y1)), (6, .int (nI X1)), (0, .ref (ad 0)), (1, .int (nI t)), (2, .int (nI u)), (3, .int (nI p1)), (4, .int (nI w)), (5, .int (bI els))]) hx hb dX5_areSame_155 hl (by decide) rfl (fun ls hl => ?_)
                  refine lv_iinc (v := nI (c1 + 1)) (lv' := [(9, .int (nI (c1 + 1))), (8, .int (nI 0)), (7, .int (nI Y1)), (6, .int (nI X1)), (0, .ref (ad 0)), (1, .int (nI t)), (2, .int (nI u)), (3, .int (nI p1)), (4, .int (nI w)), (5, .int (bI els))]) hx hb dX5_areSame_157 hl (k := 1) rfl (nI_add _ _) (by decide) rfl (fun ls hl => ?_)
                  refine lv_goto (tgt := 107) hx hb dX5_areSame_160 (by decide) ?_
                  exact ih107 (c1 + 1) false  _  (by omega) (by rw [hF]; simp only [asL]; first | (rw [c_120]; rfl) | (rw [ts_nf c_120, decide_eq_true c_147]; rfl) | (rw [ts_nf c_120, decide_eq_false c_147]; rfl)) (lv_sub hl [0, 1, 2, 3, 4, 5, 6, 7, 8, 9] rfl)
                · refine lv_iload hx hb dX5_areSame_123 (lv_at hl 8 rfl) ?_
                  refine lv_iload hx hb dX5_areSame_125 (lv_at hl 3 rfl) ?_
                  refine lv_iload hx hb dX5_areSame_127 (lv_at hl 0 rfl) ?_
                  refine vp_callSi (va_Run.run (va_runS (As := [.int (nI X1), .int (nI c1)]) (rest := [.int (nI w)]) ⟨hx, hb, hml, hown, hts⟩ (c_X5_part l   (X1) c1 (by omega) (by omega)) (va_cwS 2 hts gX5_areSame_X5_part rfl rfl rfl (by decide +kernel) ⟨Nat.le_of_ble_eq_true rfl, Nat.le_of_ble_eq_true rfl⟩) ⟨tt_blind, fun U hU hW => ⟨rfl, trivial⟩⟩ rfl rfl hl.1 rfl (lv_room (Nat.le_of_ble_eq_true rfl)) dX5_areSame_129 ⟨Nat.zero_le _, Nat.zero_le _⟩)) (fun r_5 hr_5 => ?_)
                  refine n_to (w := nI (partF (X1) c1)) (hr_5.trans rfl) ?_
                  refine vp_callSi (va_Run.run (va_runS (As := [.int (nI w), .int (nI (partF (X1) c1))]) (rest := []) ⟨hx, hb, hml, hown, hts⟩ (c_X5_label l   w (partF X1 c1) (by omega) (by have := partF_lt X1 c1; omega)) (va_cwS 2 hts gX5_areSame_X5_label rfl rfl rfl (by decide +kernel) ⟨Nat.le_of_ble_eq_true rfl, Nat.le_of_ble_eq_true rfl⟩) ⟨tt_blind, fun U hU hW => ⟨rfl, trivial⟩⟩ rfl rfl hl.1 rfl (lv_room (Nat.le_of_ble_eq_true rfl)) dX5_areSame_132 ⟨Nat.zero_le _, Nat.zero_le _⟩)) (fun r_6 hr_6 => ?_)
                  refine n_to (w := nI (labF w (partF X1 c1))) (hr_6.trans rfl) ?_
                  refine lv_iload hx hb dX5_areSame_135 (lv_at hl 8 rfl) ?_
                  refine lv_iload hx hb dX5_areSame_137 (lv_at hl 2 rfl) ?_
                  refine lv_iload hx hb dX5_areSame_139 (lv_at hl 0 rfl) ?_
                  refine vp_callSi (va_Run.run (va_runS (As := [.int (nI Y1), .int (nI c1)]) (rest := [.int (nI w), .int (nI (labF w (partF X1 c1)))]) ⟨hx, hb, hml, hown, hts⟩ (c_X5_part l   (Y1) c1 (by omega) (by omega)) (va_cwS 2 hts gX5_areSame_X5_part rfl rfl rfl (by decide +kernel) ⟨Nat.le_of_ble_eq_true rfl, Nat.le_of_ble_eq_true rfl⟩) ⟨tt_blind, fun U hU hW => ⟨rfl, trivial⟩⟩ rfl rfl hl.1 rfl (lv_room (Nat.le_of_ble_eq_true rfl)) dX5_areSame_141 ⟨Nat.zero_le _, Nat.zero_le _⟩)) (fun r_7 hr_7 => ?_)
                  refine n_to (w := nI (partF (Y1) c1)) (hr_7.trans rfl) ?_
                  refine vp_callSi (va_Run.run (va_runS (As := [.int (nI w), .int (nI (partF (Y1) c1))]) (rest := [.int (nI (labF w (partF X1 c1)))]) ⟨hx, hb, hml, hown, hts⟩ (c_X5_label l   w (partF Y1 c1) (by omega) (by have := partF_lt Y1 c1; omega)) (va_cwS 2 hts gX5_areSame_X5_label rfl rfl rfl (by decide +kernel) ⟨Nat.le_of_ble_eq_true rfl, Nat.le_of_ble_eq_true rfl⟩) ⟨tt_blind, fun U hU hW => ⟨rfl, trivial⟩⟩ rfl rfl hl.1 rfl (lv_room (Nat.le_of_ble_eq_true rfl)) dX5_areSame_144 ⟨Nat.zero_le _, Nat.zero_le _⟩)) (fun r_8 hr_8 => ?_)
                  refine n_to (w := nI (labF w (partF Y1 c1))) (hr_8.trans rfl) ?_
                  refine q_icmp_ne hx hb (tgt := 154) (nI_eq (by have := labF_lt w (partF X1 c1); omega) (by have := labF_lt w (partF Y1 c1); omega)) dX5_areSame_147 (by decide) (fun c_147 => ?_) (fun c_147 => ?_)
                  · refine lv_iconst (v := nI 0) hx hb dX5_areSame_154 (by decide) ?_
                    refine lv_istore (lv' := [(8, .int (nI 0)), (9, .int (nI c1)), (7, .int (nI Y1)), (6, .int (nI X1)), (0, .ref (ad 0)), (1, .int (nI t)), (2, .int (nI u)), (3, .int (nI p1)), (4, .int (nI w)), (5, .int (bI els))]) hx hb dX5_areSame_155 hl (by decide) rfl (fun ls hl => ?_)
                    refine lv_iinc (v := nI (c1 + 1)) (lv' := [(9, .int (nI (c1 + 1))), (8, .int (nI 0)), (7, .int (nI Y1)), (6, .int (nI X1)), (0, .ref (ad 0)), (1, .int (nI t)), (2, .int (nI u)), (3, .int (nI p1)), (4, .int (nI w)), (5, .int (bI els))]) hx hb dX5_areSame_157 hl (k := 1) rfl (nI_add _ _) (by decide) rfl (fun ls hl => ?_)
                    refine lv_goto (tgt := 107) hx hb dX5_areSame_160 (by decide) ?_
                    exact ih107 (c1 + 1) false  _  (by omega) (by rw [hF]; simp only [asL]; first | (rw [c_120]; rfl) | (rw [ts_nf c_120, decide_eq_true c_147]; rfl) | (rw [ts_nf c_120, decide_eq_false c_147]; rfl)) (lv_sub hl [0, 1, 2, 3, 4, 5, 6, 7, 8, 9] rfl)
                  · refine lv_iconst (v := nI 1) hx hb dX5_areSame_150 (by decide) ?_
                    refine lv_goto (tgt := 155) hx hb dX5_areSame_151 (by decide) ?_
                    refine lv_istore (lv' := [(8, .int (nI 1)), (9, .int (nI c1)), (7, .int (nI Y1)), (6, .int (nI X1)), (0, .ref (ad 0)), (1, .int (nI t)), (2, .int (nI u)), (3, .int (nI p1)), (4, .int (nI w)), (5, .int (bI els))]) hx hb dX5_areSame_155 hl (by decide) rfl (fun ls hl => ?_)
                    refine lv_iinc (v := nI (c1 + 1)) (lv' := [(9, .int (nI (c1 + 1))), (8, .int (nI 1)), (7, .int (nI Y1)), (6, .int (nI X1)), (0, .ref (ad 0)), (1, .int (nI t)), (2, .int (nI u)), (3, .int (nI p1)), (4, .int (nI w)), (5, .int (bI els))]) hx hb dX5_areSame_157 hl (k := 1) rfl (nI_add _ _) (by decide) rfl (fun ls hl => ?_)
                    refine lv_goto (tgt := 107) hx hb dX5_areSame_160 (by decide) ?_
                    exact ih107 (c1 + 1) true  _  (by omega) (by rw [hF]; simp only [asL]; first | (rw [c_120]; rfl) | (rw [ts_nf c_120, decide_eq_true c_147]; rfl) | (rw [ts_nf c_120, decide_eq_false c_147]; rfl)) (lv_sub hl [0, 1, 2, 3, 4, 5, 6, 7, 8, 9] rfl)
          exact lp107 (τ 8 p1) 0 false  _ (by omega) (by rw [hq2]; first | (rw [decide_eq_true c_94, Bool.or_true]) | (rw [decide_eq_false c_94, ts_nf2 c_83]; rfl) | (rw [ts_nf c_83]; rfl)) (lv_sub hl [0, 1, 2, 3, 4, 5, 6, 7, 8, 9] rfl)
        · refine lv_iconst (v := nI 1) hx hb dX5_areSame_97 (by decide) ?_
          refine lv_goto (tgt := 102) hx hb dX5_areSame_98 (by decide) ?_
          refine lv_istore (lv' := [(8, .int (nI 1)), (7, .int (nI Y1)), (6, .int (nI X1)), (0, .ref (ad 0)), (1, .int (nI t)), (2, .int (nI u)), (3, .int (nI p1)), (4, .int (nI w)), (5, .int (bI els))]) hx hb dX5_areSame_102 hl (by decide) rfl (fun ls hl => ?_)
          refine lv_iconst (v := nI 0) hx hb dX5_areSame_104 (by decide) ?_
          refine lv_istore (lv' := [(9, .int (nI 0)), (8, .int (nI 1)), (7, .int (nI Y1)), (6, .int (nI X1)), (0, .ref (ad 0)), (1, .int (nI t)), (2, .int (nI u)), (3, .int (nI p1)), (4, .int (nI w)), (5, .int (bI els))]) hx hb dX5_areSame_105 hl (by decide) rfl (fun ls hl => ?_)
          have lp107 : ∀ (n : Nat) (c1 : Nat) (sm : Bool) (ls : Array Slot), (c1 + n = τ 8 p1) → (asB τ t u p1 w els = asL w X1 Y1 n c1 sm) → lv_has ls 10 [(9, .int (nI c1)), (8, .int (bI sm)), (7, .int (nI Y1)), (6, .int (nI X1)), (0, .ref (ad 0)), (1, .int (nI t)), (2, .int (nI u)), (3, .int (nI p1)), (4, .int (nI w)), (5, .int (bI els))] → WR p l e rX5_areSame s m (([.ref (ad 0), .int (nI t), .int (nI u), .int (nI p1), .int (nI w), .int (bI els)] : List Value).toArray) below meth c s.heap (fun r => r = bI (asB τ t u p1 w els)) (F0 m 107 ls []) := by
            intro n
            induction n with
            | zero =>
              intro c1 sm ls hF1 hF hl
              refine lv_iload hx hb dX5_areSame_107 (lv_at hl 0 rfl) ?_
              refine lv_aload_n hx hb dX5_areSame_109 rfl (lv_at hl 4 rfl) ?_
              refine va_get (D := D) (ci := 4) (v := .ref (ad 8)) (C := RX5) (T := TX5) (N := 20) hx hb hts in_X5_areSame_X5 hown hK hP 0 rfl rfl 8 (by decide) (hts _ lk_X5_areSame_32) (fun _ h9 => h9) rfl dX5_areSame_110 ?_
              refine lv_iload_n hx hb dX5_areSame_113 rfl (lv_at hl 7 rfl) ?_
              refine n_ald hx hb hK hP 7 0 rfl rfl (i := p1) (by omega) (by decide) (v := nI (τ 8 p1)) rfl dX5_areSame_114 ?_
              refine n_icmp_ge hx hb (tgt := 163) (by omega) (by omega) dX5_areSame_115 (by decide) (fun c_115 => ?_) (fun c_115 => ?_)
              · refine lv_iload hx hb dX5_areSame_163 (lv_at hl 1 rfl) ?_
                exact W.zret (v := bI sm) hx hb hr (bI_nar _) (fun t ht hW => ⟨_, rfl, by rw [hF]; rfl, ht⟩) no_locs dX5_areSame_165
              · omega
            | succ n ih107 =>
              intro c1 sm ls hF1 hF hl
              refine lv_iload hx hb dX5_areSame_107 (lv_at hl 0 rfl) ?_
              refine lv_aload_n hx hb dX5_areSame_109 rfl (lv_at hl 4 rfl) ?_
              refine va_get (D := D) (ci := 4) (v := .ref (ad 8)) (C := RX5) (T := TX5) (N := 20) hx hb hts in_X5_areSame_X5 hown hK hP 0 rfl rfl 8 (by decide) (hts _ lk_X5_areSame_32) (fun _ h9 => h9) rfl dX5_areSame_110 ?_
              refine lv_iload_n hx hb dX5_areSame_113 rfl (lv_at hl 7 rfl) ?_
              refine n_ald hx hb hK hP 7 0 rfl rfl (i := p1) (by omega) (by decide) (v := nI (τ 8 p1)) rfl dX5_areSame_114 ?_
              refine n_icmp_ge hx hb (tgt := 163) (by omega) (by omega) dX5_areSame_115 (by decide) (fun c_115 => ?_) (fun c_115 => ?_)
              · omega
              · refine lv_iload hx hb dX5_areSame_118 (lv_at hl 1 rfl) ?_
                refine q_if_eq hx hb (tgt := 154) (bI_z) dX5_areSame_120 (by decide) (fun c_120 => ?_) (fun c_120 => ?_)
                · refine lv_iconst (v := nI 0) hx hb dX5_areSame_154 (by decide) ?_
                  refine lv_istore (lv' := [(8, .int (nI 0)), (9, .int (nI c1)), (7, .int (nI Y1)), (6, .int (nI X1)), (0, .ref (ad 0)), (1, .int (nI t)), (2, .int (nI u)), (3, .int (nI p1)), (4, .int (nI w)), (5, .int (bI els))]) hx hb dX5_areSame_155 hl (by decide) rfl (fun ls hl => ?_)
                  refine lv_iinc (v := nI (c1 + 1)) (lv' := [(9, .int (nI (c1 + 1))), (8, .int (nI 0)), (7, .int (nI Y1)), (6, .int (nI X1)), (0, .ref (ad 0)), (1, .int (nI t)), (2, .int (nI u)), (3, .int (nI p1)), (4, .int (nI w)), (5, .int (bI els))]) hx hb dX5_areSame_157 hl (k := 1) rfl (nI_add _ _) (by decide) rfl (fun ls hl => ?_)
                  refine lv_goto (tgt := 107) hx hb dX5_areSame_160 (by decide) ?_
                  exact ih107 (c1 + 1) false  _  (by omega) (by rw [hF]; simp only [asL]; first | (rw [c_120]; rfl) | (rw [ts_nf c_120, decide_eq_true c_147]; rfl) | (rw [ts_nf c_120, decide_eq_false c_147]; rfl)) (lv_sub hl [0, 1, 2, 3, 4, 5, 6, 7, 8, 9] rfl)
                · refine lv_iload hx hb dX5_areSame_123 (lv_at hl 8 rfl) ?_
                  refine lv_iload hx hb dX5_areSame_125 (lv_at hl 3 rfl) ?_
                  refine lv_iload hx hb dX5_areSame_127 (lv_at hl 0 rfl) ?_
                  refine vp_callSi (va_Run.run (va_runS (As := [.int (nI X1), .int (nI c1)]) (rest := [.int (nI w)]) ⟨hx, hb, hml, hown, hts⟩ (c_X5_part l   (X1) c1 (by omega) (by omega)) (va_cwS 2 hts gX5_areSame_X5_part rfl rfl rfl (by decide +kernel) ⟨Nat.le_of_ble_eq_true rfl, Nat.le_of_ble_eq_true rfl⟩) ⟨tt_blind, fun U hU hW => ⟨rfl, trivial⟩⟩ rfl rfl hl.1 rfl (lv_room (Nat.le_of_ble_eq_true rfl)) dX5_areSame_129 ⟨Nat.zero_le _, Nat.zero_le _⟩)) (fun r_9 hr_9 => ?_)
                  refine n_to (w := nI (partF (X1) c1)) (hr_9.trans rfl) ?_
                  refine vp_callSi (va_Run.run (va_runS (As := [.int (nI w), .int (nI (partF (X1) c1))]) (rest := []) ⟨hx, hb, hml, hown, hts⟩ (c_X5_label l   w (partF X1 c1) (by omega) (by have := partF_lt X1 c1; omega)) (va_cwS 2 hts gX5_areSame_X5_label rfl rfl rfl (by decide +kernel) ⟨Nat.le_of_ble_eq_true rfl, Nat.le_of_ble_eq_true rfl⟩) ⟨tt_blind, fun U hU hW => ⟨rfl, trivial⟩⟩ rfl rfl hl.1 rfl (lv_room (Nat.le_of_ble_eq_true rfl)) dX5_areSame_132 ⟨Nat.zero_le _, Nat.zero_le _⟩)) (fun r_10 hr_10 => ?_)
                  refine n_to (w := nI (labF w (partF X1 c1))) (hr_10.trans rfl) ?_
                  refine lv_iload hx hb dX5_areSame_135 (lv_at hl 8 rfl) ?_
                  refine lv_iload hx hb dX5_areSame_137 (lv_at hl 2 rfl) ?_
                  refine lv_iload hx hb dX5_areSame_139 (lv_at hl 0 rfl) ?_
                  refine vp_callSi (va_Run.run (va_runS (As := [.int (nI Y1), .int (nI c1)]) (rest := [.int (nI w), .int (nI (labF w (partF X1 c1)))]) ⟨hx, hb, hml, hown, hts⟩ (c_X5_part l   (Y1) c1 (by omega) (by omega)) (va_cwS 2 hts gX5_areSame_X5_part rfl rfl rfl (by decide +kernel) ⟨Nat.le_of_ble_eq_true rfl, Nat.le_of_ble_eq_true rfl⟩) ⟨tt_blind, fun U hU hW => ⟨rfl, trivial⟩⟩ rfl rfl hl.1 rfl (lv_room (Nat.le_of_ble_eq_true rfl)) dX5_areSame_141 ⟨Nat.zero_le _, Nat.zero_le _⟩)) (fun r_11 hr_11 => ?_)
                  refine n_to (w := nI (partF (Y1) c1)) (hr_11.trans rfl) ?_
                  refine vp_callSi (va_Run.run (va_runS (As := [.int (nI w), .int (nI (partF (Y1) c1))]) (rest := [.int (nI (labF w (partF X1 c1)))]) ⟨hx, hb, hml, hown, hts⟩ (c_X5_label l   w (partF Y1 c1) (by omega) (by have := partF_lt Y1 c1; omega)) (va_cwS 2 hts gX5_areSame_X5_label rfl rfl rfl (by decide +kernel) ⟨Nat.le_of_ble_eq_true rfl, Nat.le_of_ble_eq_true rfl⟩) ⟨tt_blind, fun U hU hW => ⟨rfl, trivial⟩⟩ rfl rfl hl.1 rfl (lv_room (Nat.le_of_ble_eq_true rfl)) dX5_areSame_144 ⟨Nat.zero_le _, Nat.zero_le _⟩)) (fun r_12 hr_12 => ?_)
                  refine n_to (w := nI (labF w (partF Y1 c1))) (hr_12.trans rfl) ?_
                  refine q_icmp_ne hx hb (tgt := 154) (nI_eq (by have := labF_lt w (partF X1 c1); omega) (by have := labF_lt w (partF Y1 c1); omega)) dX5_areSame_147 (by decide) (fun c_147 => ?_) (fun c_147 => ?_)
                  · refine lv_iconst (v := nI 0) hx hb dX5_areSame_154 (by decide) ?_
                    refine lv_istore (lv' := [(8, .int (nI 0)), (9, .int (nI c1)), (7, .int (nI Y1)), (6, .int (nI X1)), (0, .ref (ad 0)), (1, .int (nI t)), (2, .int (nI u)), (3, .int (nI p1)), (4, .int (nI w)), (5, .int (bI els))]) hx hb dX5_areSame_155 hl (by decide) rfl (fun ls hl => ?_)
                    refine lv_iinc (v := nI (c1 + 1)) (lv' := [(9, .int (nI (c1 + 1))), (8, .int (nI 0)), (7, .int (nI Y1)), (6, .int (nI X1)), (0, .ref (ad 0)), (1, .int (nI t)), (2, .int (nI u)), (3, .int (nI p1)), (4, .int (nI w)), (5, .int (bI els))]) hx hb dX5_areSame_157 hl (k := 1) rfl (nI_add _ _) (by decide) rfl (fun ls hl => ?_)
                    refine lv_goto (tgt := 107) hx hb dX5_areSame_160 (by decide) ?_
                    exact ih107 (c1 + 1) false  _  (by omega) (by rw [hF]; simp only [asL]; first | (rw [c_120]; rfl) | (rw [ts_nf c_120, decide_eq_true c_147]; rfl) | (rw [ts_nf c_120, decide_eq_false c_147]; rfl)) (lv_sub hl [0, 1, 2, 3, 4, 5, 6, 7, 8, 9] rfl)
                  · refine lv_iconst (v := nI 1) hx hb dX5_areSame_150 (by decide) ?_
                    refine lv_goto (tgt := 155) hx hb dX5_areSame_151 (by decide) ?_
                    refine lv_istore (lv' := [(8, .int (nI 1)), (9, .int (nI c1)), (7, .int (nI Y1)), (6, .int (nI X1)), (0, .ref (ad 0)), (1, .int (nI t)), (2, .int (nI u)), (3, .int (nI p1)), (4, .int (nI w)), (5, .int (bI els))]) hx hb dX5_areSame_155 hl (by decide) rfl (fun ls hl => ?_)
                    refine lv_iinc (v := nI (c1 + 1)) (lv' := [(9, .int (nI (c1 + 1))), (8, .int (nI 1)), (7, .int (nI Y1)), (6, .int (nI X1)), (0, .ref (ad 0)), (1, .int (nI t)), (2, .int (nI u)), (3, .int (nI p1)), (4, .int (nI w)), (5, .int (bI els))]) hx hb dX5_areSame_157 hl (k := 1) rfl (nI_add _ _) (by decide) rfl (fun ls hl => ?_)
                    refine lv_goto (tgt := 107) hx hb dX5_areSame_160 (by decide) ?_
                    exact ih107 (c1 + 1) true  _  (by omega) (by rw [hF]; simp only [asL]; first | (rw [c_120]; rfl) | (rw [ts_nf c_120, decide_eq_true c_147]; rfl) | (rw [ts_nf c_120, decide_eq_false c_147]; rfl)) (lv_sub hl [0, 1, 2, 3, 4, 5, 6, 7, 8, 9] rfl)
          exact lp107 (τ 8 p1) 0 true  _ (by omega) (by rw [hq2]; first | (rw [decide_eq_true c_94, Bool.or_true]) | (rw [decide_eq_false c_94, ts_nf2 c_83]; rfl) | (rw [ts_nf c_83]; rfl)) (lv_sub hl [0, 1, 2, 3, 4, 5, 6, 7, 8, 9] rfl)
    · have hq1 : τ 2 t = 1 := c_55
      have hX8 : X1 < 8 := by rw [← hxe]; exact hI.code8 hp1 ht (by omega)
      have hY8 : Y1 < 8 := by rw [← hye]; exact hI.code8 hp1 hu (by omega)
      refine lv_iload hx hb dX5_areSame_58 (lv_at hl 6 rfl) ?_
      refine lv_iload hx hb dX5_areSame_60 (lv_at hl 1 rfl) ?_
      refine vp_callSi (va_Run.run (va_runS (As := [.int (nI w), .int (nI X1)]) (rest := []) ⟨hx, hb, hml, hown, hts⟩ (c_X5_label l   w X1 (by omega) (by omega)) (va_cwS 2 hts gX5_areSame_X5_label rfl rfl rfl (by decide +kernel) ⟨Nat.le_of_ble_eq_true rfl, Nat.le_of_ble_eq_true rfl⟩) ⟨tt_blind, fun U hU hW => ⟨rfl, trivial⟩⟩ rfl rfl hl.1 rfl (lv_room (Nat.le_of_ble_eq_true rfl)) dX5_areSame_62 ⟨Nat.zero_le _, Nat.zero_le _⟩)) (fun r_13 hr_13 => ?_)
      refine n_to (w := nI (labF w X1)) (hr_13.trans rfl) ?_
      refine lv_iload hx hb dX5_areSame_65 (lv_at hl 6 rfl) ?_
      refine lv_iload hx hb dX5_areSame_67 (lv_at hl 0 rfl) ?_
      refine vp_callSi (va_Run.run (va_runS (As := [.int (nI w), .int (nI Y1)]) (rest := [.int (nI (labF w X1))]) ⟨hx, hb, hml, hown, hts⟩ (c_X5_label l   w Y1 (by omega) (by omega)) (va_cwS 2 hts gX5_areSame_X5_label rfl rfl rfl (by decide +kernel) ⟨Nat.le_of_ble_eq_true rfl, Nat.le_of_ble_eq_true rfl⟩) ⟨tt_blind, fun U hU hW => ⟨rfl, trivial⟩⟩ rfl rfl hl.1 rfl (lv_room (Nat.le_of_ble_eq_true rfl)) dX5_areSame_69 ⟨Nat.zero_le _, Nat.zero_le _⟩)) (fun r_14 hr_14 => ?_)
      refine n_to (w := nI (labF w Y1)) (hr_14.trans rfl) ?_
      refine q_icmp_ne hx hb (tgt := 79) (nI_eq (by have := labF_lt w X1; omega) (by have := labF_lt w Y1; omega)) dX5_areSame_72 (by decide) (fun c_72 => ?_) (fun c_72 => ?_)
      · refine lv_iconst (v := nI 0) hx hb dX5_areSame_79 (by decide) ?_
        exact W.zret (v := nI 0) hx hb hr (n_nar0) (fun t ht hW => ⟨_, rfl, by rw [has]; unfold asX; rw [if_neg c_32, if_pos hq1]; first | (rw [decide_eq_true c_72]; rfl) | (rw [decide_eq_false c_72]; rfl), ht⟩) no_locs dX5_areSame_80
      · refine lv_iconst (v := nI 1) hx hb dX5_areSame_75 (by decide) ?_
        refine lv_goto (tgt := 80) hx hb dX5_areSame_76 (by decide) ?_
        exact W.zret (v := nI 1) hx hb hr (n_nar1) (fun t ht hW => ⟨_, rfl, by rw [has]; unfold asX; rw [if_neg c_32, if_pos hq1]; first | (rw [decide_eq_true c_72]; rfl) | (rw [decide_eq_false c_72]; rfl), ht⟩) no_locs dX5_areSame_80
  · have hq0 : τ 2 t = 0 := c_32
    refine lv_iload hx hb dX5_areSame_35 (lv_at hl 1 rfl) ?_
    refine lv_iload hx hb dX5_areSame_37 (lv_at hl 0 rfl) ?_
    refine q_icmp_ne hx hb (tgt := 46) (nI_eq (by omega) (by omega)) dX5_areSame_39 (by decide) (fun c_39 => ?_) (fun c_39 => ?_)
    · refine lv_iconst (v := nI 0) hx hb dX5_areSame_46 (by decide) ?_
      exact W.zret (v := nI 0) hx hb hr (n_nar0) (fun t ht hW => ⟨_, rfl, by rw [has]; unfold asX; rw [if_pos hq0]; first | (rw [decide_eq_true c_39]; rfl) | (rw [decide_eq_false c_39]; rfl), ht⟩) no_locs dX5_areSame_47
    · refine lv_iconst (v := nI 1) hx hb dX5_areSame_42 (by decide) ?_
      refine lv_goto (tgt := 47) hx hb dX5_areSame_43 (by decide) ?_
      exact W.zret (v := nI 1) hx hb hr (n_nar1) (fun t ht hW => ⟨_, rfl, by rw [has]; unfold asX; rw [if_pos hq0]; first | (rw [decide_eq_true c_39]; rfl) | (rw [decide_eq_false c_39]; rfl), ht⟩) no_locs dX5_areSame_47
