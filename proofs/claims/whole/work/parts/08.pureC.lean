/-! THE CLASS, as functions of its state's numbers -/
theorem nx_and (a b : Nat) : nI a &&& nI b = nI (a &&& b) := by
  apply Int32.toBitVec_inj.1
  show BitVec.ofNat 32 a &&& BitVec.ofNat 32 b = BitVec.ofNat 32 (a &&& b)
  apply BitVec.eq_of_getLsbD_eq
  intro i hi
  simp [hi]
theorem nx_or (a b : Nat) : nI a ||| nI b = nI (a ||| b) := by
  apply Int32.toBitVec_inj.1
  show BitVec.ofNat 32 a ||| BitVec.ofNat 32 b = BitVec.ofNat 32 (a ||| b)
  apply BitVec.eq_of_getLsbD_eq
  intro i hi
  simp [hi]
theorem nx_xor (a b : Nat) : nI a ^^^ nI b = nI (a ^^^ b) := by
  apply Int32.toBitVec_inj.1
  show BitVec.ofNat 32 a ^^^ BitVec.ofNat 32 b = BitVec.ofNat 32 (a ^^^ b)
  apply BitVec.eq_of_getLsbD_eq
  intro i hi
  simp [hi]
/-- a literal: left + 32 right, + 1024 when it says 'the same' -/
def litOK (v : Nat) : Prop := v < 2048 ∧ v % 32 < 24 ∧ v / 32 % 32 < 24
def saysB (v : Nat) : Bool := decide (1024 ≤ v)
def oppF (v : Nat) : Nat := if 1024 ≤ v then v - 1024 else v + 1024
def litF (t u : Nat) (b : Bool) : Nat := t + u * 32 + (if b = true then 1024 else 0)
theorem lit_left {v : Nat} (h : v < 2048) : nI v &&& nI 31 = nI (v % 32) := pk_andN (m := nI 31) (by omega) 5 (by decide +kernel)
theorem lit_shr {v : Nat} (h : v < 2048) : nI v >>> (nI 5 &&& 31) = nI (v / 32) := pk_shrN (by omega) (nI 5 &&& 31) 5 (by decide +kernel)
theorem lit_and : ∀ v, v < 2048 → v &&& 1024 = 1024 * (v / 1024) := by decide +kernel
theorem lit_says {v : Nat} (h : v < 2048) : nI v &&& nI 1024 = nI (1024 * (v / 1024)) := by rw [nx_and, lit_and v h]
theorem lit_xor0 : ∀ v, v < 2048 → v ^^^ 1024 = oppF v := by decide +kernel
theorem lit_xor {v : Nat} (h : v < 2048) : nI v ^^^ nI 1024 = nI (oppF v) := by rw [nx_xor, lit_xor0 v h]
theorem lit_shl {u : Nat} (h : u < 32) : nI u <<< (nI 5 &&& 31) = nI (u * 32) := pk_shlN (nI 5 &&& 31) 5 (by decide +kernel) (by omega)
theorem lit_or0 : ∀ t, t < 32 → ∀ u, u < 32 → t ||| u * 32 = t + u * 32 := by decide +kernel
theorem lit_or1 {t u : Nat} (ht : t < 32) (hu : u < 32) : nI t ||| nI (u * 32) = nI (t + u * 32) := by rw [nx_or, lit_or0 t ht u hu]
theorem lit_or20 : ∀ w, w < 1024 → w ||| 1024 = w + 1024 := by decide +kernel
theorem lit_or2 {t u : Nat} (ht : t < 32) (hu : u < 32) : nI (t + u * 32) ||| nI 1024 = nI (litF t u true) := by rw [nx_or, lit_or20 _ (by omega)]; rfl
theorem lit_or3 (t u : Nat) : nI (t + u * 32) ||| nI 0 = nI (litF t u false) := by rw [nx_or]; simp [litF]
/-- what always holds of the class's numbers -/
def IC (σ : Nat → Nat → Nat) : Prop :=
  (7 ≤ σ 0 1 ∧ σ 0 1 ≤ 24) ∧ σ 0 0 ≤ 3 ∧ σ 0 2 ≤ 8 ∧ σ 0 4 ≤ 11 ∧ (∀ j, j < 24 → σ 6 j ≤ 2) ∧
  (∀ j, j < 24 → σ 7 j ≤ 24 ∧ σ 8 j ≤ 24 ∧ σ 9 j ≤ 24) ∧
  (∀ j, 7 ≤ j → j < σ 0 1 → 1 ≤ σ 7 j ∧ σ 7 j ≤ j ∧ 1 ≤ σ 8 j ∧ σ 8 j ≤ 3 ∧ (σ 6 j = 1 ∨ (σ 6 j = 2 ∧ 1 ≤ σ 9 j ∧ σ 9 j ≤ j))) ∧
  (∀ j, j < 3 → litOK (σ 3 j)) ∧ (∀ j, j < 24 → litOK (σ 10 j)) ∧ (∀ j, j < 8 → σ 11 j ≤ 3) ∧ (∀ j, j < 33 → litOK (σ 12 j)) ∧ (∀ j, j < 11 → σ 13 j ≤ 3) ∧
  (∀ j, j < 96 → σ 14 j < 10) ∧ (∀ j, j < 10 → σ 15 j ≤ 20)
theorem IC.terms {σ : Nat → Nat → Nat} (h : IC σ) : 7 ≤ σ 0 1 ∧ σ 0 1 ≤ 24 := h.1
theorem IC.draft {σ : Nat → Nat → Nat} (h : IC σ) : σ 0 0 ≤ 3 := h.2.1
theorem IC.claims {σ : Nat → Nat → Nat} (h : IC σ) : σ 0 2 ≤ 8 := h.2.2.1
theorem IC.asked {σ : Nat → Nat → Nat} (h : IC σ) : σ 0 4 ≤ 11 := h.2.2.2.1
theorem IC.sorts {σ : Nat → Nat → Nat} (h : IC σ) {j : Nat} (hj : j < 24) : σ 6 j ≤ 2 := h.2.2.2.2.1 j hj
theorem IC.rows {σ : Nat → Nat → Nat} (h : IC σ) {j : Nat} (hj : j < 24) : σ 7 j ≤ 24 ∧ σ 8 j ≤ 24 ∧ σ 9 j ≤ 24 := h.2.2.2.2.2.1 j hj
theorem IC.made {σ : Nat → Nat → Nat} (h : IC σ) {j : Nat} (h7 : 7 ≤ j) (hj : j < σ 0 1) : 1 ≤ σ 7 j ∧ σ 7 j ≤ j ∧ 1 ≤ σ 8 j ∧ σ 8 j ≤ 3 ∧ (σ 6 j = 1 ∨ (σ 6 j = 2 ∧ 1 ≤ σ 9 j ∧ σ 9 j ≤ j)) := h.2.2.2.2.2.2.1 j h7 hj
theorem IC.dlit {σ : Nat → Nat → Nat} (h : IC σ) {j : Nat} (hj : j < 3) : litOK (σ 3 j) := h.2.2.2.2.2.2.2.1 j hj
theorem IC.mlit {σ : Nat → Nat → Nat} (h : IC σ) {j : Nat} (hj : j < 24) : litOK (σ 10 j) := h.2.2.2.2.2.2.2.2.1 j hj
theorem IC.msize {σ : Nat → Nat → Nat} (h : IC σ) {j : Nat} (hj : j < 8) : σ 11 j ≤ 3 := h.2.2.2.2.2.2.2.2.2.1 j hj
theorem IC.alit {σ : Nat → Nat → Nat} (h : IC σ) {j : Nat} (hj : j < 33) : litOK (σ 12 j) := h.2.2.2.2.2.2.2.2.2.2.1 j hj
theorem IC.asize {σ : Nat → Nat → Nat} (h : IC σ) {j : Nat} (hj : j < 11) : σ 13 j ≤ 3 := h.2.2.2.2.2.2.2.2.2.2.2.1 j hj
theorem IC.parts {σ : Nat → Nat → Nat} (h : IC σ) {j : Nat} (hj : j < 96) : σ 14 j < 10 := h.2.2.2.2.2.2.2.2.2.2.2.2.1 j hj
theorem IC.chosen {σ : Nat → Nat → Nat} (h : IC σ) {j : Nat} (hj : j < 10) : σ 15 j ≤ 20 := h.2.2.2.2.2.2.2.2.2.2.2.2.2 j hj
def findF (σ : Nat → Nat → Nat) (q a i x : Nat) : Nat → Nat → Nat
  | 0, _ => 0
  | n + 1, t => if σ 6 t = q then if σ 7 t = a then if σ 8 t = i then if σ 9 t = x then t + 1 else findF σ q a i x n (t + 1) else findF σ q a i x n (t + 1) else findF σ q a i x n (t + 1) else findF σ q a i x n (t + 1)
def plF (σ : Nat → Nat → Nat) (q x y : Nat) : Nat := if x = y then 1 else if q = 0 then 0 else if σ 15 x = 0 then 2 else if σ 15 y = 0 then 2 else if σ 15 x = σ 15 y then 1 else 0
def widF (q : Nat) : Nat := if q = 2 then 4 else 1
def rlF (σ : Nat → Nat → Nat) (q t u : Nat) : Nat → Nat → Nat → Nat
  | 0, _, al => al
  | n + 1, j, al => if al = 0 then al else if plF σ q (σ 14 (t * 4 + j)) (σ 14 (u * 4 + j)) = 1 then rlF σ q t u n (j + 1) al else rlF σ q t u n (j + 1) (plF σ q (σ 14 (t * 4 + j)) (σ 14 (u * 4 + j)))
def alF (σ : Nat → Nat → Nat) (v : Nat) : Nat := rlF σ (σ 6 (v % 32)) (v % 32) (v / 32 % 32) (widF (σ 6 (v % 32))) 0 1
def rtF (σ : Nat → Nat → Nat) (v : Nat) : Nat := if alF σ v = 2 then alF σ v else if saysB v = true then alF σ v else if alF σ v = 1 then 0 else 1
def holdF (σ : Nat → Nat → Nat) (cl : Nat) : Nat → Nat → Nat → Nat
  | 0, _, an => an
  | n + 1, k, an => if rtF σ (σ 12 (cl * 3 + k)) = 1 then 1 else if rtF σ (σ 12 (cl * 3 + k)) = 2 then holdF σ cl n (k + 1) 2 else holdF σ cl n (k + 1) an
/-- openSpotOf, openSpot: plus one -/
def osoF (σ : Nat → Nat → Nat) (q t u : Nat) : Nat → Nat → Nat
  | 0, _ => 0
  | n + 1, j => if plF σ q (σ 14 (t * 4 + j)) (σ 14 (u * 4 + j)) = 2 then if σ 15 (σ 14 (t * 4 + j)) = 0 then σ 14 (t * 4 + j) + 1 else σ 14 (u * 4 + j) + 1 else osoF σ q t u n (j + 1)
def osF (σ : Nat → Nat → Nat) (cl : Nat) : Nat → Nat → Nat
  | 0, _ => 0
  | n + 1, k => if rtF σ (σ 12 (cl * 3 + k)) = 2 then osoF σ (σ 6 (σ 12 (cl * 3 + k) % 32)) (σ 12 (cl * 3 + k) % 32) (σ 12 (cl * 3 + k) / 32 % 32) (widF (σ 6 (σ 12 (cl * 3 + k) % 32))) 0 else osF σ cl n (k + 1)
theorem plF_le {σ : Nat → Nat → Nat} {q x y : Nat} : plF σ q x y ≤ 2 := by
  unfold plF
  repeat' split
  all_goals omega
theorem rlF_le {σ : Nat → Nat → Nat} {q t u : Nat} : ∀ (n j al : Nat), al ≤ 2 → rlF σ q t u n j al ≤ 2
  | 0, _, _, h => h
  | n + 1, j, al, h => by
    unfold rlF; split
    · exact h
    · split
      · exact rlF_le n _ _ h
      · exact rlF_le n _ _ plF_le
theorem alF_le {σ : Nat → Nat → Nat} {v : Nat} : alF σ v ≤ 2 := rlF_le _ _ _ (by omega)
theorem rtF_le {σ : Nat → Nat → Nat} {v : Nat} : rtF σ v ≤ 2 := by
  have := @alF_le σ v
  unfold rtF
  repeat' split
  all_goals omega
