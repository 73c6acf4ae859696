/-! THE TIE, kept by every call -/
theorem IR.ks {σ τ u : Nat → Nat → Nat} (h : IR σ τ) (k : KS σ u) : IR u τ := by
  have r : ∀ a, a ≠ 0 → a ≠ 12 → a ≠ 13 → a ≠ 14 → a ≠ 15 → u a = σ a := k.1
  refine ⟨k.2.2, k.wf h.wf, k.made h.mw, h.im, h.tw, h.wy, ?_, ?_, ?_, ?_⟩
  · have := h.tt
    unfold TT at this ⊢
    rw [k.2.1 1 (by decide), r 6 (by decide) (by decide) (by decide) (by decide) (by decide), r 7 (by decide) (by decide) (by decide) (by decide) (by decide), r 8 (by decide) (by decide) (by decide) (by decide) (by decide), r 9 (by decide) (by decide) (by decide) (by decide) (by decide)]
    exact this
  · have := h.dt
    unfold DT at this ⊢
    rw [k.2.1 0 (by decide), r 3 (by decide) (by decide) (by decide) (by decide) (by decide)]
    exact ⟨this.1, fun j hj => ⟨(this.2 j hj).1, k.litW.mpr (this.2 j hj).2⟩⟩
  · rw [k.2.1 2 (by decide)]; exact h.cn
  · have := h.cl
    unfold CLT at this ⊢
    rw [k.2.1 2 (by decide), r 10 (by decide) (by decide) (by decide) (by decide) (by decide), r 11 (by decide) (by decide) (by decide) (by decide) (by decide)]
    exact this
theorem IR.thr {σ τ : Nat → Nat → Nat} (h : IR σ τ) (v : Nat) : IR σ (sU τ 0 0 v) := by
  refine ⟨h.ic, h.wf, h.mw, h.im.thr v, h.tw, h.wy, h.tt, h.dt, h.cn, ?_⟩
  intro p r hr c hc
  have e : ∀ x, RdL (sU τ 0 0 v) p r x ↔ RdL τ p r x := fun x => by unfold RdL; rw [siB_thr]
  simp only [e]
  exact h.cl p r hr c hc
theorem sort0 {σ : Nat → Nat → Nat} (hI : IC σ) (hW : WF σ) {i : Nat} (hi : i < σ 0 1) (h0 : σ 6 i = 0) : i < 3 := by
  obtain ⟨-, -, -, s3, s4, s5, s6, -⟩ := hW
  rcases Nat.lt_or_ge i 7 with z | z
  · rcases Nat.lt_or_ge i 3 with y | y
    · exact y
    · rcases (show i = 3 ∨ i = 4 ∨ i = 5 ∨ i = 6 by omega) with rfl | rfl | rfl | rfl <;> omega
  · have := (hI.made z hi).2.2.2.2
    omega
theorem IR.ci {σ τ : Nat → Nat → Nat} (h : IR σ τ) {i : Nat} (hi : i < σ 0 1) (h0 : σ 6 i = 0) : ∀ p, p < 5 → τ 9 (24 * p + i) < 3 := by
  intro p hp
  have h3 := sort0 h.ic h.wf hi h0
  have hd := dif_le p hp
  rw [h.tw.1 p i hp (by omega)]
  unfold cdN
  rw [if_pos h3]
  have := (cl_lt p hp i h3).1
  omega
theorem IR.ce {σ τ : Nat → Nat → Nat} (h : IR σ τ) {x : Nat} (hx : x < σ 0 1) (h1 : σ 6 x = 1) : ∀ p, p < 5 → τ 9 (24 * p + x) < 8 := by
  intro p hp
  have h24 := h.ic.terms.2
  refine h.im.code8 hp (by omega) ?_
  rw [← h.tt.2.1 x hx]; omega
/-- a term is made on both sides -/
theorem IR.new {σ τ u : Nat → Nat → Nat} {q a i x y : Nat} (h : IR σ τ) (ha : a < σ 0 1) (hi : i < σ 0 1) (hsa : σ 6 a = 2) (hsi : σ 6 i = 0) (hq : (q = 1 ∧ y = 0 ∧ x = 0) ∨ (q = 2 ∧ y = x + 1 ∧ x < σ 0 1 ∧ σ 6 x = 1)) (hfl : σ 0 1 < 24) (hM : MK τ q a i x u) : IR (addTF σ q (a + 1) (i + 1) y) u := by
  obtain ⟨m1, m2, m3, m4, m5, m6, m7, m8, m9, m10⟩ := hM
  have h7 := h.ic.terms.1
  have hi3 := sort0 h.ic h.wf hi hsi
  have hn := h.tt.1
  have hq12 : q = 1 ∨ q = 2 := by omega
  have hx24 : x < 24 ∧ x < τ 0 1 := by omega
  have hci := h.ci hi hsi
  have r0 : ∀ j, j ≠ 1 → addTF σ q (a + 1) (i + 1) y 0 j = σ 0 j := fun j hj => by
    show va_up (σ 0) 1 (σ 0 1 + 1) j = _
    rw [va_up_app, if_neg hj]
  have r1 : addTF σ q (a + 1) (i + 1) y 0 1 = σ 0 1 + 1 := rfl
  have r6 : ∀ j, addTF σ q (a + 1) (i + 1) y 6 j = if j = σ 0 1 then q else σ 6 j := fun _ => rfl
  have r7 : ∀ j, addTF σ q (a + 1) (i + 1) y 7 j = if j = σ 0 1 then a + 1 else σ 7 j := fun _ => rfl
  have r8 : ∀ j, addTF σ q (a + 1) (i + 1) y 8 j = if j = σ 0 1 then i + 1 else σ 8 j := fun _ => rfl
  have r9 : ∀ j, addTF σ q (a + 1) (i + 1) y 9 j = if j = σ 0 1 then y else σ 9 j := fun _ => rfl
  have ro : ∀ r, r ≠ 0 → r ≠ 6 → r ≠ 7 → r ≠ 8 → r ≠ 9 → addTF σ q (a + 1) (i + 1) y r = σ r := fun r b c d e f => by
    unfold addTF sU
    rw [if_neg b, if_neg f, if_neg e, if_neg d, if_neg c]
  generalize addTF σ q (a + 1) (i + 1) y = σ' at r0 r1 r6 r7 r8 r9 ro
  have o6 : ∀ j, j < σ 0 1 → σ' 6 j = σ 6 j := fun j hj => by rw [r6, if_neg (by omega)]
  have o7 : ∀ j, j < σ 0 1 → σ' 7 j = σ 7 j := fun j hj => by rw [r7, if_neg (by omega)]
  have o8 : ∀ j, j < σ 0 1 → σ' 8 j = σ 8 j := fun j hj => by rw [r8, if_neg (by omega)]
  have o9 : ∀ j, j < σ 0 1 → σ' 9 j = σ 9 j := fun j hj => by rw [r9, if_neg (by omega)]
  have n6 : σ' 6 (σ 0 1) = q := by rw [r6, if_pos rfl]
  have n7 : σ' 7 (σ 0 1) = a + 1 := by rw [r7, if_pos rfl]
  have n8 : σ' 8 (σ 0 1) = i + 1 := by rw [r8, if_pos rfl]
  have n9 : σ' 9 (σ 0 1) = y := by rw [r9, if_pos rfl]
  have u2 : ∀ j, u 2 j = if j = σ 0 1 then q else τ 2 j := fun j => by rw [m4, va_up_app, hn]
  have u3 : ∀ j, u 3 j = if j = σ 0 1 then q else τ 3 j := fun j => by rw [m5, va_up_app, hn]
  have u4 : ∀ j, u 4 j = if j = σ 0 1 then a else τ 4 j := fun j => by rw [m6, va_up_app, hn]
  have u5 : ∀ j, u 5 j = if j = σ 0 1 then i else τ 5 j := fun j => by rw [m7, va_up_app, hn]
  have u6 : ∀ j, u 6 j = if j = σ 0 1 then x else τ 6 j := fun j => by rw [m8, va_up_app, hn]
  have u9 : ∀ p t, p < 5 → t < 24 → t ≠ σ 0 1 → u 9 (24 * p + t) = τ 9 (24 * p + t) := fun p t hp ht hne => m10 p t hp ht (by omega)
  have u9n : ∀ p, p < 5 → u 9 (24 * p + σ 0 1) = cvF τ q a i x p := fun p hp => by rw [hn]; exact m9 p hp
  have hcv : ∀ p, p < 5 → cvF τ q a i x p < 1024 ∧ (q = 1 → cvF τ q a i x p < 8) := fun p hp => by
    unfold cvF
    have hca : τ 9 (24 * p + a) < 1024 := h.im.code (by omega)
    rcases hq with ⟨rfl, rfl, rfl⟩ | ⟨rfl, rfl, hx, hsx⟩
    · rw [if_pos rfl]
      have : partF (τ 9 (24 * p + a)) (τ 9 (24 * p + i)) < 8 := Nat.mod_lt _ (by decide)
      exact ⟨by omega, fun _ => this⟩
    · rw [if_neg (by decide)]
      exact ⟨(st_mod _ (hci p hp) _ hca _ (h.ce hx hsx p hp)).2, fun z => absurd z (by decide)⟩
  obtain ⟨-, i2, i3, i4, i5, i6, i7, i8, i9, i10, i11, i12, i13, i14⟩ := id h.ic
  have hI' : IC σ' := by
    refine ⟨by omega, by rw [r0 0 (by decide)]; exact i2, by rw [r0 2 (by decide)]; exact i3, by rw [r0 4 (by decide)]; exact i4, fun j hj => ?_, fun j hj => ?_, fun j hj7 hj => ?_, ?_, ?_, ?_, ?_, ?_, ?_, ?_⟩
    · rw [r6]; have := i5 j hj; split <;> omega
    · rw [r7, r8, r9]; have := i6 j hj; split <;> omega
    · rcases Nat.lt_or_ge j (σ 0 1) with z | z
      · rw [o7 j z, o8 j z, o6 j z, o9 j z]; exact i7 j hj7 z
      · obtain rfl : j = σ 0 1 := by omega
        rw [n6, n7, n8, n9]; omega
    · rw [ro 3 (by decide) (by decide) (by decide) (by decide) (by decide)]; exact i8
    · rw [ro 10 (by decide) (by decide) (by decide) (by decide) (by decide)]; exact i9
    · rw [ro 11 (by decide) (by decide) (by decide) (by decide) (by decide)]; exact i10
    · rw [ro 12 (by decide) (by decide) (by decide) (by decide) (by decide)]; exact i11
    · rw [ro 13 (by decide) (by decide) (by decide) (by decide) (by decide)]; exact i12
    · rw [ro 14 (by decide) (by decide) (by decide) (by decide) (by decide)]; exact i13
    · rw [ro 15 (by decide) (by decide) (by decide) (by decide) (by decide)]; exact i14
  obtain ⟨w0, w1, w2, w3, w4, w5, w6, hw⟩ := id h.wf
  have hW' : WF σ' := by
    refine ⟨by rw [o6 _ (by omega)]; exact w0, by rw [o6 _ (by omega)]; exact w1, by rw [o6 _ (by omega)]; exact w2, by rw [o6 _ (by omega)]; exact w3, by rw [o6 _ (by omega)]; exact w4, by rw [o6 _ (by omega)]; exact w5, by rw [o6 _ (by omega)]; exact w6, fun t ht7 ht => ?_⟩
    rcases Nat.lt_or_ge t (σ 0 1) with z | z
    · have hm := i7 t ht7 z
      obtain ⟨p1, p2⟩ := hw t ht7 z
      rw [o7 t z, o6 t z, o9 t z, o6 _ (by omega)]
      refine ⟨p1, fun hne => ?_⟩
      rw [o6 _ (by omega)]
      exact p2 hne
    · obtain rfl : t = σ 0 1 := by omega
      rw [n7, n6, n9, Nat.add_sub_cancel, o6 a ha]
      refine ⟨hsa, fun hne => ?_⟩
      rcases hq with ⟨rfl, -⟩ | ⟨rfl, rfl, hx, hsx⟩
      · exact absurd rfl hne
      · rw [Nat.add_sub_cancel, o6 x hx]; exact hsx
  have hl' : ∀ v, litW σ v → litW σ' v := fun v ⟨a1, a2, a3⟩ => ⟨by omega, by omega, by rw [o6 _ a1, o6 _ a2]; exact a3⟩
  have hM' : MadeW σ' := fun c hc k hk => by
    rw [r0 2 (by decide)] at hc
    rw [ro 11 (by decide) (by decide) (by decide) (by decide) (by decide)] at hk
    rw [ro 10 (by decide) (by decide) (by decide) (by decide) (by decide)]
    exact hl' _ (h.mw c hc k hk)
  obtain ⟨-, j2, j3, j4, j5, j6, j7, j8, j9, j10, j11, j12, j13⟩ := id h.im
  have hIM : IM u := by
    refine ⟨by omega, by rw [m2 15 (by decide)]; exact j2, by rw [m2 16 (by decide)]; exact j3, fun j hj => ?_, fun j hj => ?_, ?_, fun j hj => ?_, ?_, ?_, ?_, ?_, ?_, fun p t hp ht hs => ?_⟩
    · rw [u2]; have := j4 j hj; split <;> omega
    · rw [u3, u4, u5, u6]; have := j5 j hj; split <;> omega
    · rw [m1 8 (by decide) (by decide) (by decide) (by decide) (by decide) (by decide) (by decide)]; exact j6
    · have e : j = 24 * (j / 24) + j % 24 := by omega
      by_cases z : j % 24 = σ 0 1
      · rw [e, z, u9n _ (by omega)]; exact (hcv _ (by omega)).1
      · rw [e, u9 _ _ (by omega) (by omega) z, ← e]; exact j7 j hj
    · rw [m1 10 (by decide) (by decide) (by decide) (by decide) (by decide) (by decide) (by decide)]; exact j8
    · rw [m1 11 (by decide) (by decide) (by decide) (by decide) (by decide) (by decide) (by decide)]; exact j9
    · rw [m1 13 (by decide) (by decide) (by decide) (by decide) (by decide) (by decide) (by decide)]; exact j10
    · rw [m1 14 (by decide) (by decide) (by decide) (by decide) (by decide) (by decide) (by decide)]; exact j11
    · rw [m1 17 (by decide) (by decide) (by decide) (by decide) (by decide) (by decide) (by decide), m1 18 (by decide) (by decide) (by decide) (by decide) (by decide) (by decide) (by decide), m1 19 (by decide) (by decide) (by decide) (by decide) (by decide) (by decide) (by decide)]; exact j12
    · rw [u2] at hs
      by_cases z : t = σ 0 1
      · rw [if_pos z] at hs
        rw [z, u9n p hp]; exact (hcv p hp).2 (by omega)
      · rw [if_neg z] at hs
        rw [u9 p t hp ht z]; exact j13 p t hp ht hs
  have hY' : WY u := by
    have := h.wy
    unfold WY at this ⊢
    rw [m1 10 (by decide) (by decide) (by decide) (by decide) (by decide) (by decide) (by decide)]; exact this
  have hcve : ∀ q1 a1 i1 x1 p, p < 5 → a1 < 24 → a1 ≠ σ 0 1 → i1 < 24 → i1 ≠ σ 0 1 → (q1 ≠ 1 → x1 < 24 ∧ x1 ≠ σ 0 1) → cvF u q1 a1 i1 x1 p = cvF τ q1 a1 i1 x1 p := fun q1 a1 i1 x1 p hp b1 b2 b3 b4 b5 => by
    unfold cvF
    rw [u9 p a1 hp b1 b2, u9 p i1 hp b3 b4]
    by_cases z : q1 = 1
    · rw [if_pos z, if_pos z]
    · rw [if_neg z, if_neg z, u9 p x1 hp (b5 z).1 (b5 z).2]
  have hTW : TW u := by
    refine ⟨fun p t hp ht => ?_, fun p t hp ht7 ht => ?_⟩
    · rw [u9 p t hp (by omega) (by omega)]; exact h.tw.1 p t hp ht
    · rw [m3, ← hn] at ht
      rw [u2, u4, u5, u6]
      by_cases z : t = σ 0 1
      · rw [if_pos z, if_pos z, if_pos z, if_pos z, z, u9n p hp]
        exact (hcve q a i x p hp (by omega) (by omega) (by omega) (by omega) (fun _ => by omega)).symm
      · rw [if_neg z, if_neg z, if_neg z, if_neg z, u9 p t hp (by omega) z, h.tw.2 p t hp ht7 (by omega)]
        have hm := i7 t ht7 (by omega)
        obtain ⟨f1, f2, f3, f4, f5⟩ := h.tt.2.2 t ht7 (by omega)
        have hs := h.tt.2.1 t (by omega)
        refine (hcve _ _ _ _ p hp (by omega) (by omega) (by omega) (by omega) (fun z2 => ?_)).symm
        have : σ 6 t = 2 := by omega
        have := f5 this
        omega
  have hsi' : ∀ t1 t2 p r, InR p r → t1 < σ 0 1 → t2 < σ 0 1 → siB u t1 t2 p r = siB τ t1 t2 p r := fun t1 t2 p r hr b1 b2 => by
    rw [siB_eq hIM hY' hr, siB_eq h.im h.wy hr, u2, if_neg (by omega), u9 p t1 hr.1 (by omega) (by omega), u9 p t2 hr.1 (by omega) (by omega)]
  refine ⟨hI', hW', hM', hIM, hTW, hY', ⟨by omega, fun t ht => ?_, fun t ht7 ht => ?_⟩, ⟨?_, fun k hk => ?_⟩, ?_, fun p r hr c hc => ?_⟩
  · rw [r6, u2]
    by_cases z : t = σ 0 1
    · rw [if_pos z, if_pos z]
    · rw [if_neg z, if_neg z]; exact h.tt.2.1 t (by omega)
  · rw [u3, u2, r7, u4, r8, u5, r6, r9, u6]
    by_cases z : t = σ 0 1
    · repeat rw [if_pos z]
      exact ⟨rfl, rfl, rfl, fun z1 => by omega, fun z1 => by omega⟩
    · simp only [if_neg z]
      exact h.tt.2.2 t ht7 (by omega)
  · rw [r0 0 (by decide), m2 16 (by decide)]; exact h.dt.1
  · rw [r0 0 (by decide)] at hk
    rw [ro 3 (by decide) (by decide) (by decide) (by decide) (by decide), m1 17 (by decide) (by decide) (by decide) (by decide) (by decide) (by decide) (by decide), m1 18 (by decide) (by decide) (by decide) (by decide) (by decide) (by decide) (by decide), m1 19 (by decide) (by decide) (by decide) (by decide) (by decide) (by decide) (by decide)]
    exact ⟨(h.dt.2 k hk).1, hl' _ (h.dt.2 k hk).2⟩
  · rw [r0 2 (by decide), m2 15 (by decide)]; exact h.cn
  · rw [r0 2 (by decide)] at hc
    rw [m1 13 (by decide) (by decide) (by decide) (by decide) (by decide) (by decide) (by decide), ro 11 (by decide) (by decide) (by decide) (by decide) (by decide), ro 10 (by decide) (by decide) (by decide) (by decide) (by decide), h.cl p r hr c hc]
    have e : ∀ k, k < σ 11 c → (RdL u p r (σ 10 (c * 3 + k)) ↔ RdL τ p r (σ 10 (c * 3 + k))) := fun k hk => by
      obtain ⟨b1, b2, -⟩ := h.mw c hc k hk
      unfold RdL
      rw [hsi' _ _ p r hr b1 b2]
    constructor
    · rintro ⟨k, hk, hl⟩; exact ⟨k, hk, (e k hk).mpr hl⟩
    · rintro ⟨k, hk, hl⟩; exact ⟨k, hk, (e k hk).mp hl⟩
/-- a literal is added to the draft on both sides -/
theorem IR.lit {σ τ : Nat → Nat → Nat} {t u : Nat} {b : Bool} (h : IR σ τ) (ht : t < σ 0 1) (hu : u < σ 0 1) (hs : σ 6 t = σ 6 u) (hd : σ 0 0 < 3) : IR (sU (sU σ 3 (σ 0 0) (litF t u b)) 0 0 (σ 0 0 + 1)) (sU (sU (sU (sU (sU τ 0 0 0) 17 (τ 0 16) t) 18 (τ 0 16) u) 19 (τ 0 16) (bN b)) 0 16 (τ 0 16 + 1)) := by
  have h24 := h.ic.terms.2
  have hd2 := h.dt.1
  have hok := litF_ok b (show t < 24 by omega) (show u < 24 by omega)
  have hlw := (h.lit1 (b := b) ht hu hs).1
  have r3 : ∀ j, sU (sU σ 3 (σ 0 0) (litF t u b)) 0 0 (σ 0 0 + 1) 3 j = if j = σ 0 0 then litF t u b else σ 3 j := fun _ => rfl
  have hbN : bN b ≤ 1 := by cases b <;> decide
  have hbD : decide (bN b = 1) = b := by cases b <;> rfl
  obtain ⟨i1, i2, i3, i4, i5, i6, i7, i8, i9, i10, i11, i12, i13, i14⟩ := id h.ic
  obtain ⟨j1, j2, j3, j4, j5, j6, j7, j8, j9, j10, j11, j12, j13⟩ := id h.im
  refine ⟨⟨i1, ?_, i3, i4, i5, i6, i7, fun j hj => ?_, i9, i10, i11, i12, i13, i14⟩, h.wf, h.mw, ⟨j1, j2, ?_, j4, j5, j6, j7, j8, j9, j10, j11, fun j hj => ?_, j13⟩, h.tw, h.wy, h.tt, ⟨?_, fun k hk => ?_⟩, h.cn, fun p r hr c hc => ?_⟩
  · show σ 0 0 + 1 ≤ 3
    omega
  · rw [r3]
    split
    · exact hok.1
    · exact i8 j hj
  · show τ 0 16 + 1 ≤ 3
    omega
  · show (if j = τ 0 16 then t else τ 17 j) < 24 ∧ (if j = τ 0 16 then u else τ 18 j) < 24 ∧ (if j = τ 0 16 then bN b else τ 19 j) ≤ 1
    have := j12 j hj
    split <;> omega
  · show σ 0 0 + 1 = τ 0 16 + 1
    omega
  · have hk : k < σ 0 0 + 1 := hk
    rw [r3]
    show (if k = σ 0 0 then litF t u b else σ 3 k) = litF (if k = τ 0 16 then t else τ 17 k) (if k = τ 0 16 then u else τ 18 k) (decide ((if k = τ 0 16 then bN b else τ 19 k) = 1)) ∧ litW σ (if k = σ 0 0 then litF t u b else σ 3 k)
    rw [← hd2]
    by_cases z : k = σ 0 0
    · repeat rw [if_pos z]
      rw [hbD]
      exact ⟨rfl, hlw⟩
    · repeat rw [if_neg z]
      exact h.dt.2 k (by omega)
  · exact h.cl p r hr c hc
theorem IR.clear {σ τ : Nat → Nat → Nat} (h : IR σ τ) : IR (sU σ 0 0 0) (sU (sU τ 0 0 0) 0 16 0) := by
  obtain ⟨i1, i2, i3, i4, i5, i6, i7, i8, i9, i10, i11, i12, i13, i14⟩ := id h.ic
  obtain ⟨j1, j2, j3, j4, j5, j6, j7, j8, j9, j10, j11, j12, j13⟩ := id h.im
  exact ⟨⟨i1, Nat.zero_le _, i3, i4, i5, i6, i7, i8, i9, i10, i11, i12, i13, i14⟩, h.wf, h.mw, ⟨j1, j2, Nat.zero_le _, j4, j5, j6, j7, j8, j9, j10, j11, j12, j13⟩, h.tw, h.wy, h.tt, ⟨rfl, fun k hk => absurd hk (Nat.not_lt_zero k)⟩, h.cn, fun p r hr c hc => h.cl p r hr c hc⟩
theorem IR.keep {σ τ : Nat → Nat → Nat} {k : Nat} (h : IR σ τ) (hk : k ≤ σ 0 2) : IR (if k < σ 0 2 then sU σ 0 2 k else σ) (sU (sU τ 0 0 0) 0 15 k) := by
  obtain ⟨i1, i2, i3, i4, i5, i6, i7, i8, i9, i10, i11, i12, i13, i14⟩ := id h.ic
  obtain ⟨j1, j2, j3, j4, j5, j6, j7, j8, j9, j10, j11, j12, j13⟩ := id h.im
  have hk8 : k ≤ 8 := by omega
  split
  · rename_i hlt
    exact ⟨⟨i1, i2, hk8, i4, i5, i6, i7, i8, i9, i10, i11, i12, i13, i14⟩, h.wf, fun c hc x hx => h.mw c (Nat.lt_of_lt_of_le hc hk) x hx, ⟨j1, hk8, j3, j4, j5, j6, j7, j8, j9, j10, j11, j12, j13⟩, h.tw, h.wy, h.tt, h.dt, rfl, fun p r hr c hc => h.cl p r hr c (Nat.lt_of_lt_of_le hc hk)⟩
  · exact ⟨h.ic, h.wf, h.mw, ⟨j1, hk8, j3, j4, j5, j6, j7, j8, j9, j10, j11, j12, j13⟩, h.tw, h.wy, h.tt, h.dt, show σ 0 2 = k by omega, fun p r hr c hc => h.cl p r hr c hc⟩
theorem IR.drs {σ τ : Nat → Nat → Nat} (h : IR σ τ) : DrS τ := by
  intro k hk
  have hd := h.dt.1
  have h3 := h.ic.draft
  obtain ⟨e, l1, l2, l3⟩ := h.dt.2 k (by omega)
  obtain ⟨d1, d2, -⟩ := h.im.dr (j := k) (by omega)
  obtain ⟨-, q1, q2, -⟩ := litF_ok (decide (τ 19 k = 1)) d1 d2
  rw [e, q1] at l1
  rw [e, q2] at l2
  rw [e, q1, q2] at l3
  rw [← h.tt.2.1 _ l1, ← h.tt.2.1 _ l2]
  exact l3.symm
theorem hb_bit {τ : Nat → Nat → Nat} {p r c : Nat} (hm : τ 0 15 < 8) (hc : c ≤ τ 0 15) : (hbF τ p r).testBit c = if c = τ 0 15 then dhB τ p r else (τ 13 r).testBit c := by
  unfold hbF
  cases hd : dhB τ p r with
  | true =>
    rw [if_pos rfl, Nat.testBit_or, Nat.testBit_two_pow]
    by_cases z : c = τ 0 15
    · rw [if_pos z, z, decide_eq_true rfl, Bool.or_true]
    · rw [if_neg z, decide_eq_false (fun y => z y.symm), Bool.or_false]
  | false =>
    rw [if_neg (by decide), Nat.testBit_and, bit_off _ hm c (by omega)]
    by_cases z : c = τ 0 15
    · rw [if_pos z, decide_eq_false (fun y => y z), Bool.and_false]
    · rw [if_neg z, decide_eq_true z, Bool.and_true]
theorem IR.claim {σ τ u : Nat → Nat → Nat} (h : IR σ τ) (hd0 : σ 0 0 ≠ 0) (hc8 : σ 0 2 < 8) (hM : CLM τ u) : IR (sU (addMF σ 0 (σ 0 0)) 0 0 0) u := by
  obtain ⟨m1, m2, m3, m4, m5, m6⟩ := hM
  obtain ⟨a1, a2, a3, a4, a5⟩ := addMF_rows (σ := σ) (o := 0) (z := σ 0 0)
  have hcn := h.cn
  have r0 : ∀ j, j ≠ 0 → j ≠ 2 → sU (addMF σ 0 (σ 0 0)) 0 0 0 0 j = σ 0 j := fun j b c => by
    show va_up (addMF σ 0 (σ 0 0) 0) 0 0 j = _
    rw [va_up_app, if_neg b, a2 j c]
  have r00 : sU (addMF σ 0 (σ 0 0)) 0 0 0 0 0 = 0 := rfl
  have r02 : sU (addMF σ 0 (σ 0 0)) 0 0 0 0 2 = σ 0 2 + 1 := a3
  have r11 : ∀ j, sU (addMF σ 0 (σ 0 0)) 0 0 0 11 j = if j = σ 0 2 then σ 0 0 else σ 11 j := a4
  have r10 : ∀ j, sU (addMF σ 0 (σ 0 0)) 0 0 0 10 j = if σ 0 2 * 3 ≤ j ∧ j < σ 0 2 * 3 + σ 0 0 then σ 3 (0 + (j - σ 0 2 * 3)) else σ 10 j := a5
  have ro : ∀ r, r ≠ 0 → r ≠ 10 → r ≠ 11 → sU (addMF σ 0 (σ 0 0)) 0 0 0 r = σ r := fun r b c d => by
    rw [sU_ne _ _ _ b, a1 r c d b]
  generalize sU (addMF σ 0 (σ 0 0)) 0 0 0 = σ' at r0 r00 r02 r11 r10 ro
  obtain ⟨i1, i2, i3, i4, i5, i6, i7, i8, i9, i10, i11, i12, i13, i14⟩ := id h.ic
  obtain ⟨j1, j2, j3, j4, j5, j6, j7, j8, j9, j10, j11, j12, j13⟩ := id h.im
  have hl' : ∀ v, litW σ v → litW σ' v := fun v ⟨b1, b2, b3⟩ => ⟨by rw [r0 1 (by decide) (by decide)]; exact b1, by rw [r0 1 (by decide) (by decide)]; exact b2, by rw [ro 6 (by decide) (by decide) (by decide)]; exact b3⟩
  have rn : ∀ k, k < σ 0 0 → σ' 10 (σ 0 2 * 3 + k) = σ 3 k := fun k hk => by
    rw [r10, if_pos ⟨by omega, by omega⟩, show 0 + (σ 0 2 * 3 + k - σ 0 2 * 3) = k by omega]
  have rold : ∀ c k, c < σ 0 2 → k < σ 11 c → σ' 10 (c * 3 + k) = σ 10 (c * 3 + k) := fun c k hc hk => by
    have := i10 c (by omega)
    rw [r10, if_neg (by omega)]
  have hr2 : DRow τ u := ⟨m1 2 (by decide) (by decide), m1 8 (by decide) (by decide), m1 9 (by decide) (by decide), m1 10 (by decide) (by decide), m1 11 (by decide) (by decide), m1 14 (by decide) (by decide)⟩
  have hrd : ∀ p r v, RdL u p r v ↔ RdL τ p r v := fun p r v => by unfold RdL; rw [siB_rows hr2]
  refine ⟨⟨?_, ?_, ?_, ?_, ?_, ?_, ?_, ?_, fun j hj => ?_, fun j hj => ?_, ?_, ?_, ?_, ?_⟩, ?_, fun c hc k hk => ?_, ⟨?_, ?_, ?_, ?_, ?_, ?_, ?_, ?_, ?_, fun j hj => ?_, ?_, ?_, ?_⟩, ?_, ?_, ?_, ⟨?_, fun k hk => ?_⟩, ?_, fun p r hr c hc => ?_⟩
  · rw [r0 1 (by decide) (by decide)]; exact i1
  · rw [r00]; exact Nat.zero_le _
  · rw [r02]; omega
  · rw [r0 4 (by decide) (by decide)]; exact i4
  · rw [ro 6 (by decide) (by decide) (by decide)]; exact i5
  · rw [ro 7 (by decide) (by decide) (by decide), ro 8 (by decide) (by decide) (by decide), ro 9 (by decide) (by decide) (by decide)]; exact i6
  · rw [r0 1 (by decide) (by decide), ro 6 (by decide) (by decide) (by decide), ro 7 (by decide) (by decide) (by decide), ro 8 (by decide) (by decide) (by decide), ro 9 (by decide) (by decide) (by decide)]; exact i7
  · rw [ro 3 (by decide) (by decide) (by decide)]; exact i8
  · rw [r10]
    split
    · exact i8 _ (by omega)
    · exact i9 j hj
  · rw [r11]; have := i10 j hj; split <;> omega
  · rw [ro 12 (by decide) (by decide) (by decide)]; exact i11
  · rw [ro 13 (by decide) (by decide) (by decide)]; exact i12
  · rw [ro 14 (by decide) (by decide) (by decide)]; exact i13
  · rw [ro 15 (by decide) (by decide) (by decide)]; exact i14
  · have := h.wf
    unfold WF at this ⊢
    rw [r0 1 (by decide) (by decide), ro 6 (by decide) (by decide) (by decide), ro 7 (by decide) (by decide) (by decide), ro 9 (by decide) (by decide) (by decide)]
    exact this
  · rw [r02] at hc
    rw [r11] at hk
    by_cases z : c = σ 0 2
    · rw [if_pos z] at hk
      rw [z, rn k hk]
      exact hl' _ (h.dt.2 k hk).2
    · rw [if_neg z] at hk
      rw [rold c k (by omega) hk]
      exact hl' _ (h.mw c (by omega) k hk)
  · rw [m3]; exact j1
  · rw [m4]; omega
  · rw [m5]; exact Nat.zero_le _
  · rw [m1 2 (by decide) (by decide)]; exact j4
  · rw [m1 3 (by decide) (by decide), m1 4 (by decide) (by decide), m1 5 (by decide) (by decide), m1 6 (by decide) (by decide)]; exact j5
  · rw [m1 8 (by decide) (by decide)]; exact j6
  · rw [m1 9 (by decide) (by decide)]; exact j7
  · rw [m1 10 (by decide) (by decide)]; exact j8
  · rw [m1 11 (by decide) (by decide)]; exact j9
  · obtain ⟨p, hp, b1, b2⟩ := in_ex hj
    rw [m6 p j hp b1 b2]
    exact hb_lt (j10 j hj) (by omega)
  · rw [m1 14 (by decide) (by decide)]; exact j11
  · rw [m1 17 (by decide) (by decide), m1 18 (by decide) (by decide), m1 19 (by decide) (by decide)]; exact j12
  · rw [m1 2 (by decide) (by decide), m1 9 (by decide) (by decide)]; exact j13
  · have := h.tw
    unfold TW cvF at this ⊢
    rw [m3, m1 2 (by decide) (by decide), m1 4 (by decide) (by decide), m1 5 (by decide) (by decide), m1 6 (by decide) (by decide), m1 9 (by decide) (by decide)]
    exact this
  · have := h.wy
    unfold WY at this ⊢
    rw [m1 10 (by decide) (by decide)]; exact this
  · have := h.tt
    unfold TT at this ⊢
    rw [m3, r0 1 (by decide) (by decide), ro 6 (by decide) (by decide) (by decide), ro 7 (by decide) (by decide) (by decide), ro 8 (by decide) (by decide) (by decide), ro 9 (by decide) (by decide) (by decide), m1 2 (by decide) (by decide), m1 3 (by decide) (by decide), m1 4 (by decide) (by decide), m1 5 (by decide) (by decide), m1 6 (by decide) (by decide)]
    exact this
  · rw [r00, m5]
  · rw [r00] at hk; omega
  · rw [r02, m4]; omega
  · rw [r02] at hc
    rw [m6 p r hr.1 hr.2.1 hr.2.2, hb_bit (by omega) (by omega), ← hcn, r11]
    simp only [hrd]
    by_cases z : c = σ 0 2
    · rw [if_pos z, if_pos z, h.dh p r, z]
      constructor
      · rintro ⟨k, hk, hl⟩; exact ⟨k, hk, by rw [rn k hk]; exact hl⟩
      · rintro ⟨k, hk, hl⟩; exact ⟨k, hk, by rw [rn k hk] at hl; exact hl⟩
    · rw [if_neg z, if_neg z, h.cl p r hr c (by omega)]
      constructor
      · rintro ⟨k, hk, hl⟩; exact ⟨k, hk, by rw [rold c k (by omega) hk]; exact hl⟩
      · rintro ⟨k, hk, hl⟩; exact ⟨k, hk, by rw [rold c k (by omega) hk] at hl; exact hl⟩
theorem cdN_lt : ∀ p, p < 5 → ∀ t, t < 7 → cdN p t < 1024 ∧ (t < 5 → cdN p t < 8) := by decide +kernel
theorem wy_in {j : Nat} (h : j < 4358) : ∃ c2 k, c2 < 3 ∧ k < hmT c2 ∧ j = wfF c2 + k := by
  have e0 : hmT 0 = 15 := rfl
  have e1 : hmT 1 = 203 := rfl
  have e2 : hmT 2 = 4140 := rfl
  have f0 : wfF 0 = 0 := rfl
  have f1 : wfF 1 = 15 := rfl
  have f2 : wfF 2 = 218 := rfl
  rcases Nat.lt_or_ge j 15 with z | z
  · exact ⟨0, j, by decide, by omega, by omega⟩
  · rcases Nat.lt_or_ge j 218 with y | y
    · exact ⟨1, j - 15, by decide, by omega, by omega⟩
    · exact ⟨2, j - 218, by decide, by omega, by omega⟩
theorem lit_z : litOK 0 := by unfold litOK; decide
theorem sg0_ok : (∀ j, j < 24 → sg0 6 j ≤ 2) ∧ (∀ j, j < 24 → sg0 7 j ≤ 24 ∧ sg0 8 j ≤ 24 ∧ sg0 9 j ≤ 24) ∧ (∀ t, t < 7 → sg0 6 t = srtF t) := by decide +kernel
/-- at the start -/
theorem IR.init {τ : Nat → Nat → Nat} (h : TI τ) : IR sg0 τ := by
  obtain ⟨h1, h2, h9, hY⟩ := h
  obtain ⟨g1, g2, g3⟩ := sg0_ok
  have q : ∀ r, r ≠ 10 → r ≠ 2 → r ≠ 9 → τ r = ta0 r := h1
  refine ⟨⟨⟨by decide, by decide⟩, by decide, by decide, by decide, g1, g2, fun j a b => ?_, fun j _ => lit_z, fun j _ => lit_z, fun j _ => Nat.zero_le _, fun j _ => lit_z, fun j _ => Nat.zero_le _, fun j _ => Nat.zero_lt_succ _, fun j _ => (by decide : 1 ≤ 20)⟩, ⟨rfl, rfl, rfl, rfl, rfl, rfl, rfl, fun t a b => ?_⟩, fun c hc => absurd hc (Nat.not_lt_zero c), ⟨?_, ?_, ?_, fun j hj => ?_, fun j hj => ?_, fun j hj => ?_, fun j hj => ?_, fun j hj => ?_, fun j hj => ?_, fun j hj => ?_, fun j hj => ?_, fun j hj => ?_, fun p t hp ht hs => ?_⟩, ⟨fun p t hp ht => ?_, fun p t hp a b => ?_⟩, hY, ⟨?_, fun t ht => ?_, fun t a b => ?_⟩, ⟨?_, fun k hk => absurd hk (Nat.not_lt_zero k)⟩, ?_, fun p r hr c hc => absurd hc (Nat.not_lt_zero c)⟩
  · have b : j < 7 := b
    omega
  · have b : t < 7 := b
    omega
  · rw [q 0 (by decide) (by decide) (by decide)]; exact ⟨by decide, by decide⟩
  · rw [q 0 (by decide) (by decide) (by decide)]; decide
  · rw [q 0 (by decide) (by decide) (by decide)]; decide
  · rw [h2]; unfold srtF; repeat' split
    all_goals omega
  · rw [q 3 (by decide) (by decide) (by decide), q 4 (by decide) (by decide) (by decide), q 5 (by decide) (by decide) (by decide), q 6 (by decide) (by decide) (by decide)]
    exact ⟨Nat.zero_le _, by show 0 < 24; decide, by show 0 < 24; decide, by show 0 < 24; decide⟩
  · rw [q 8 (by decide) (by decide) (by decide)]; exact r8 j hj
  · have e : j = 24 * (j / 24) + j % 24 := by omega
    rw [e, h9 _ _ (by omega) (by omega)]
    split
    · exact (cdN_lt _ (by omega) _ (by assumption)).1
    · decide
  · obtain ⟨c2, k, b1, b2, rfl⟩ := wy_in hj
    rw [hY c2 b1 k b2]; exact it_bd b1 b2
  · rw [q 11 (by decide) (by decide) (by decide)]; exact r11 j hj
  · rw [q 13 (by decide) (by decide) (by decide)]; show 0 < 256; decide
  · rw [q 14 (by decide) (by decide) (by decide)]; exact r14 j hj
  · rw [q 17 (by decide) (by decide) (by decide), q 18 (by decide) (by decide) (by decide), q 19 (by decide) (by decide) (by decide)]
    exact ⟨by show 0 < 24; decide, by show 0 < 24; decide, Nat.zero_le _⟩
  · rw [h2] at hs
    rw [h9 p t hp ht]
    split
    · rename_i hlt
      rw [if_pos hlt] at hs
      refine (cdN_lt p hp t hlt).2 ?_
      unfold srtF at hs
      rcases Nat.lt_or_ge t 5 with z | z
      · exact z
      · rw [if_neg (by omega), if_neg (by omega)] at hs; exact absurd rfl hs
    · decide
  · rw [h9 p t hp (by omega), if_pos ht]
  · rw [q 0 (by decide) (by decide) (by decide)] at b
    have b : t < 7 := b
    omega
  · rw [q 0 (by decide) (by decide) (by decide)]; rfl
  · have ht : t < 7 := ht
    rw [h2, if_pos ht]; exact g3 t ht
  · have b : t < 7 := b
    omega
  · rw [q 0 (by decide) (by decide) (by decide)]; rfl
  · rw [q 0 (by decide) (by decide) (by decide)]; rfl
