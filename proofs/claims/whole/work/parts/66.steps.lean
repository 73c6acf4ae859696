theorem io {n : Nat} (x : Int32) : (x < 0 ∨ nI n ≤ x) ∨ ∃ a, a < n ∧ x = nI a := by
  by_cases h : x < 0
  · exact Or.inl (Or.inl h)
  · obtain ⟨j, hj, rfl⟩ := nI_of h
    by_cases hjn : j < n
    · exact Or.inr ⟨j, hjn, rfl⟩
    · exact Or.inl (Or.inr (nI_le (Nat.le_of_not_lt hjn) hj))
theorem io_le {n : Nat} (x : Int32) : (x < 0 ∨ ¬ x ≤ nI n) ∨ ∃ a, a ≤ n ∧ x = nI a := by
  by_cases h : x < 0
  · exact Or.inl (Or.inl h)
  · obtain ⟨j, hj, rfl⟩ := nI_of h
    by_cases hjn : j ≤ n
    · exact Or.inr ⟨j, hjn, rfl⟩
    · exact Or.inl (Or.inr (nI_ge (Nat.lt_of_not_le hjn) hj))
theorem io_lt {n : Nat} (x : Int32) : (x < 0 ∨ ¬ x < nI n) ∨ ∃ a, a < n ∧ x = nI a := by
  by_cases h : x < 0
  · exact Or.inl (Or.inl h)
  · obtain ⟨j, hj, rfl⟩ := nI_of h
    by_cases hjn : j < n
    · exact Or.inr ⟨j, hjn, rfl⟩
    · exact Or.inl (Or.inr (nI_nlt (Nat.le_of_not_lt hjn) hj))
theorem io_b (x : Int32) : ∃ b : Bool, x = 0 ↔ b = false := by
  by_cases h : x = 0
  · exact ⟨false, fun _ => rfl, fun _ => h⟩
  · exact ⟨true, fun z => absurd z h, fun z => by cases z⟩
theorem findF_lt {σ : Nat → Nat → Nat} {q a i x k : Nat} : ∀ n t, findF σ q a i x n t = k + 1 → k < t + n
  | 0, t => fun h => by simp [findF] at h
  | n + 1, t => fun h => by
    have ih := findF_lt (σ := σ) (q := q) (a := a) (i := i) (x := x) (k := k) n (t + 1)
    unfold findF at h
    split at h
    · split at h
      · split at h
        · split at h
          · omega
          · have := ih h; omega
        · have := ih h; omega
      · have := ih h; omega
    · have := ih h; omega
theorem thr0 (τ : Nat → Nat → Nat) (v : Nat) : sU τ 0 0 v 0 0 = v := by simp [sU, va_up_app]
/-- both refuse -/
theorem qt {σ τ σ1 τ1 : Nat → Nat → Nat} {r1 r2 : Int32} {v : Nat} {z : Int64} (hI : IR σ τ) (hs : σ1 = σ ∨ KS σ σ1) (hv : 1 ≤ v ∧ v ≤ 3) (h1 : r1 = nI v) (h2 : τ1 = sU τ 0 0 v) : IR σ1 τ1 ∧ r1 = nI (τ1 0 0) ∧ (r1 = 0 → z = r2.toInt64) := by
  subst h1; subst h2
  refine ⟨?_, by rw [thr0], fun h0 => absurd ((nI_z (by omega)).mp h0) (by omega)⟩
  rcases hs with rfl | ks
  · exact hI.thr v
  · exact (hI.ks ks).thr v
/-- both answer -/
theorem qo {σ1 τ1 : Nat → Nat → Nat} {r1 r2 : Int32} {z : Int64} (hI : IR σ1 τ1) (h0 : τ1 0 0 = 0) (h1 : r1 = nI 0) (hz : z = r2.toInt64) : IR σ1 τ1 ∧ r1 = nI (τ1 0 0) ∧ (r1 = 0 → z = r2.toInt64) := ⟨hI, by rw [h0]; exact h1, fun _ => hz⟩
theorem qz {σ1 τ1 : Nat → Nat → Nat} {r1 r2 : Int32} {z : Int64} {b : Bool} (h : IR σ1 τ1 ∧ r1 = nI (τ1 0 0) ∧ (r1 = 0 → z = r2.toInt64)) (hb : r2 = bI b) : IR σ1 τ1 ∧ r1 = nI (τ1 0 0) ∧ (r1 = 0 → z = r2.toInt64) ∧ ∃ b2, r2 = bI b2 := ⟨h.1, h.2.1, h.2.2, b, hb⟩
set_option maxHeartbeats 4000000 in
set_option maxRecDepth 100000 in
theorem st_sort {p : Program} {l : Launch} {e : Env} {s : State} {m : MethodId} {args : Array Value} {below : List Frame} {meth : Method} {c : Code} {H : Heap} {locs : List Loc} {cells slots : Nat} {Q : State → Prop} {D : va_G} {cI cZ cL : ClassId} {AM : Nat → Prop} {adC adM : Nat → Nat} {o b L i : Nat} {xs : Nat → Int32} {σ τ : Nat → Nat → Nat} {f : Nat → Int64} {ls : Array Slot} (C : Lw p l s m args c D cI cZ cL AM o b L xs) (h : Lp s D cI cZ cL AM adC adM o σ τ f H locs) (hI : IR σ τ) (hl : lv_has ls 7 [(0, .ref b), (1, .ref (adC 0)), (2, .ref (adM 0)), (3, .ref o), (4, .int (nI i))]) (hiL : i + 4 ≤ L) (hL : L ≤ 2048) (hc : cells + 1 ≤ room_1.cells) (hs : slots + 6 ≤ room_1.slots) (k : Kt p l e s m args below meth c Q D cI cZ cL AM adC adM o b i (cells + 1) (slots + 6)) : W p l e room_1 s m args below meth c H locs cells slots Q (F0 m 277 ls []) := by
  rcases io (n := σ 0 1) (xs (i + 1)) with ho | ⟨a, ha, xa⟩
  · exact st_sort_out C h hI hl hiL hL hc hs rfl ho k
  · exact st_sort_in C h hI hl hiL hL hc hs xa ha k
set_option maxHeartbeats 4000000 in
set_option maxRecDepth 100000 in
theorem st_keep {p : Program} {l : Launch} {e : Env} {s : State} {m : MethodId} {args : Array Value} {below : List Frame} {meth : Method} {c : Code} {H : Heap} {locs : List Loc} {cells slots : Nat} {Q : State → Prop} {D : va_G} {cI cZ cL : ClassId} {AM : Nat → Prop} {adC adM : Nat → Nat} {o b L i : Nat} {xs : Nat → Int32} {σ τ : Nat → Nat → Nat} {f : Nat → Int64} {ls : Array Slot} (C : Lw p l s m args c D cI cZ cL AM o b L xs) (h : Lp s D cI cZ cL AM adC adM o σ τ f H locs) (hI : IR σ τ) (hl : lv_has ls 7 [(0, .ref b), (1, .ref (adC 0)), (2, .ref (adM 0)), (3, .ref o), (4, .int (nI i))]) (hiL : i + 4 ≤ L) (hL : L ≤ 2048) (hc : cells + 1 ≤ room_1.cells) (hs : slots + 6 ≤ room_1.slots) (k : Kt p l e s m args below meth c Q D cI cZ cL AM adC adM o b i (cells + 1) (slots + 6)) : W p l e room_1 s m args below meth c H locs cells slots Q (F0 m 466 ls []) := by
  rcases io_le (n := σ 0 2) (xs (i + 1)) with ho | ⟨a, ha, xa⟩
  · exact st_keep_out C h hI hl hiL hL hc hs rfl ho k
  · exact st_keep_in C h hI hl hiL hL hc hs xa ha k
set_option maxHeartbeats 4000000 in
set_option maxRecDepth 100000 in
theorem st_select {p : Program} {l : Launch} {e : Env} {s : State} {m : MethodId} {args : Array Value} {below : List Frame} {meth : Method} {c : Code} {H : Heap} {locs : List Loc} {cells slots : Nat} {Q : State → Prop} {D : va_G} {cI cZ cL : ClassId} {AM : Nat → Prop} {adC adM : Nat → Nat} {o b L i : Nat} {xs : Nat → Int32} {σ τ : Nat → Nat → Nat} {f : Nat → Int64} {ls : Array Slot} (C : Lw p l s m args c D cI cZ cL AM o b L xs) (h : Lp s D cI cZ cL AM adC adM o σ τ f H locs) (hI : IR σ τ) (hl : lv_has ls 7 [(0, .ref b), (1, .ref (adC 0)), (2, .ref (adM 0)), (3, .ref o), (4, .int (nI i))]) (hiL : i + 4 ≤ L) (hL : L ≤ 2048) (hc : cells + 1 ≤ room_1.cells) (hs : slots + 6 ≤ room_1.slots) (k : Kt p l e s m args below meth c Q D cI cZ cL AM adC adM o b i (cells + 1) (slots + 6)) : W p l e room_1 s m args below meth c H locs cells slots Q (F0 m 116 ls []) := by
  obtain ⟨-, -, -, -, -, -, -, -, -, -, -, -, -, hlt, -, -⟩ := id C
  have t4 := hI.ic.terms
  have t5 := hI.im.terms
  have e1 := hI.tt.1
  have es := hI.tt.2.1
  rcases io (n := σ 0 1) (xs (i + 1)) with ho | ⟨a, ha, xa⟩
  · exact op_select C h hl hiL hL hc hs rfl rfl (c_L_select_o1 l hlt D cI cL _ adC σ o f _ _ t4 ho) (c_X5_select_o1 l D cI cZ AM adM τ _ _ t5 (by rw [← e1]; exact ho)) rfl rfl ⟨by decide, by decide⟩ (fun r1 u r2 τ1 h1 h2 => qt hI (Or.inl h1.2.1) (by decide) h1.1 h2.2) k
  rcases io (n := σ 0 1) (xs (i + 2)) with ho | ⟨j, hj, xj⟩
  · exact op_select C h hl hiL hL hc hs xa rfl (c_L_select_o2 l hlt D cI cL _ adC σ o f a _ t4 ha ho) (c_X5_select_o2 l D cI cZ AM adM τ a _ t5 (by rw [← e1]; exact ha) (by rw [← e1]; exact ho)) rfl rfl ⟨by decide, by decide⟩ (fun r1 u r2 τ1 h1 h2 => qt hI (Or.inl h1.2.1) (by decide) h1.1 h2.2) k
  by_cases hb : σ 6 a ≠ 2 ∨ σ 6 j ≠ 0
  · exact op_select C h hl hiL hL hc hs xa xj (c_L_select_sort l hlt D cI cL _ adC σ o f a j hI.ic ha hj hb) (c_X5_select_sort l D cI cZ AM adM τ a j hI.im (by rw [← e1]; exact ha) (by rw [← e1]; exact hj) (by rw [← es a ha, ← es j hj]; exact hb)) rfl rfl ⟨by decide, by decide⟩ (fun r1 u r2 τ1 h1 h2 => qt hI (Or.inl h1.2.1) (by decide) h1.1 h2.2) k
  have hsa : σ 6 a = 2 := Decidable.byContradiction fun z => hb (Or.inl z)
  have hsj : σ 6 j = 0 := Decidable.byContradiction fun z => hb (Or.inr z)
  have ma : a < τ 0 1 := by rw [← e1]; exact ha
  have mj : j < τ 0 1 := by rw [← e1]; exact hj
  have ta : τ 2 a = 2 := by rw [← es a ha]; exact hsa
  have tj : τ 2 j = 0 := by rw [← es j hj]; exact hsj
  have ff : findF σ 1 (a + 1) (j + 1) 0 (σ 0 1 - 7) 7 = foundF τ 1 a j 0 (τ 0 1 - 7) 7 := by rw [← e1]; exact fd_eq hI.tt (Or.inl ⟨rfl, rfl, rfl⟩) _ _ (Nat.le_refl _) (by omega)
  cases hf : findF σ 1 (a + 1) (j + 1) 0 (σ 0 1 - 7) 7 with
  | succ n =>
    have hn : n < 24 := by have := findF_lt _ _ hf; omega
    exact op_select C h hl hiL hL hc hs xa xj (c_L_select_found l hlt D cI cL _ adC σ o f a j n hI.ic ha hj hsa hsj hn hf) (c_X5_select_found l D cI cZ AM adM τ a j n hI.im ma mj ta tj hn (by rw [← ff]; exact hf)) rfl rfl ⟨by decide, by decide⟩ (fun r1 u r2 τ1 h1 h2 => qo (by rw [h1.2.1, h2.2]; exact hI.thr 0) (by rw [h2.2]; exact thr0 τ 0) h1.1 (by rw [h1.2.2, h2.1])) k
  | zero =>
    by_cases hfl : σ 0 1 = 24
    · exact op_select C h hl hiL hL hc hs xa xj (c_L_select_full l hlt D cI cL _ adC σ o f a j hI.ic ha hj hsa hsj hf hfl) (c_X5_select_full l D cI cZ AM adM τ a j hI.im ma mj ta tj (by rw [← ff]; exact hf) (by rw [← e1]; exact hfl)) rfl rfl ⟨by decide, by decide⟩ (fun r1 u r2 τ1 h1 h2 => qt (hI.thr 0) (Or.inl h1.2.1) (by decide) h1.1 h2.2) k
    · have hfl : σ 0 1 < 24 := by omega
      exact op_select C h hl hiL hL hc hs xa xj (c_L_select_new l hlt D cI cL _ adC σ o f a j hI.ic ha hj hsa hsj hf hfl) (c_X5_select_new l D cI cZ AM adM τ a j hI.im ma mj ta tj (by rw [← ff]; exact hf) (by rw [← e1]; exact hfl) (hI.ci hj hsj)) rfl rfl ⟨by decide, by decide⟩ (fun r1 u r2 τ1 h1 h2 => qo (by rw [h1.2.1]; exact (hI.thr 0).new ha hj hsa hsj (Or.inl ⟨rfl, rfl, rfl⟩) hfl h2.2) ((h2.2.2.1 0 (by decide)).trans (thr0 τ 0)) h1.1 (by rw [h1.2.2, h2.1, e1])) k
set_option maxHeartbeats 4000000 in
set_option maxRecDepth 100000 in
theorem st_store {p : Program} {l : Launch} {e : Env} {s : State} {m : MethodId} {args : Array Value} {below : List Frame} {meth : Method} {c : Code} {H : Heap} {locs : List Loc} {cells slots : Nat} {Q : State → Prop} {D : va_G} {cI cZ cL : ClassId} {AM : Nat → Prop} {adC adM : Nat → Nat} {o b L i : Nat} {xs : Nat → Int32} {σ τ : Nat → Nat → Nat} {f : Nat → Int64} {ls : Array Slot} (C : Lw p l s m args c D cI cZ cL AM o b L xs) (h : Lp s D cI cZ cL AM adC adM o σ τ f H locs) (hI : IR σ τ) (hl : lv_has ls 7 [(0, .ref b), (1, .ref (adC 0)), (2, .ref (adM 0)), (3, .ref o), (4, .int (nI i))]) (hiL : i + 4 ≤ L) (hL : L ≤ 2048) (hc : cells + 1 ≤ room_1.cells) (hs : slots + 6 ≤ room_1.slots) (k : Kt p l e s m args below meth c Q D cI cZ cL AM adC adM o b i (cells + 1) (slots + 6)) : W p l e room_1 s m args below meth c H locs cells slots Q (F0 m 184 ls []) := by
  obtain ⟨-, -, -, -, -, -, -, -, -, -, -, -, -, hlt, -, -⟩ := id C
  have t4 := hI.ic.terms
  have t5 := hI.im.terms
  have e1 := hI.tt.1
  have es := hI.tt.2.1
  rcases io (n := σ 0 1) (xs (i + 1)) with ho | ⟨a, ha, xa⟩
  · exact op_store C h hl hiL hL hc hs rfl rfl rfl (c_L_store_o1 l hlt D cI cL _ adC σ o f _ _ _ t4 ho) (c_X5_store_o1 l D cI cZ AM adM τ _ _ _ t5 (by rw [← e1]; exact ho)) rfl rfl ⟨by decide, by decide⟩ (fun r1 u r2 τ1 h1 h2 => qt hI (Or.inl h1.2.1) (by decide) h1.1 h2.2) k
  rcases io (n := σ 0 1) (xs (i + 2)) with ho | ⟨j, hj, xj⟩
  · exact op_store C h hl hiL hL hc hs xa rfl rfl (c_L_store_o2 l hlt D cI cL _ adC σ o f a _ _ t4 ha ho) (c_X5_store_o2 l D cI cZ AM adM τ a _ _ t5 (by rw [← e1]; exact ha) (by rw [← e1]; exact ho)) rfl rfl ⟨by decide, by decide⟩ (fun r1 u r2 τ1 h1 h2 => qt hI (Or.inl h1.2.1) (by decide) h1.1 h2.2) k
  rcases io (n := σ 0 1) (xs (i + 3)) with ho | ⟨x, hx3, xx⟩
  · exact op_store C h hl hiL hL hc hs xa xj rfl (c_L_store_o3 l hlt D cI cL _ adC σ o f a j _ t4 ha hj ho) (c_X5_store_o3 l D cI cZ AM adM τ a j _ t5 (by rw [← e1]; exact ha) (by rw [← e1]; exact hj) (by rw [← e1]; exact ho)) rfl rfl ⟨by decide, by decide⟩ (fun r1 u r2 τ1 h1 h2 => qt hI (Or.inl h1.2.1) (by decide) h1.1 h2.2) k
  by_cases hb : σ 6 a ≠ 2 ∨ σ 6 j ≠ 0 ∨ σ 6 x ≠ 1
  · exact op_store C h hl hiL hL hc hs xa xj xx (c_L_store_sort l hlt D cI cL _ adC σ o f a j x hI.ic ha hj hx3 hb) (c_X5_store_sort l D cI cZ AM adM τ a j x hI.im (by rw [← e1]; exact ha) (by rw [← e1]; exact hj) (by rw [← e1]; exact hx3) (by rw [← es a ha, ← es j hj, ← es x hx3]; exact hb)) rfl rfl ⟨by decide, by decide⟩ (fun r1 u r2 τ1 h1 h2 => qt hI (Or.inl h1.2.1) (by decide) h1.1 h2.2) k
  have hsa : σ 6 a = 2 := Decidable.byContradiction fun z => hb (Or.inl z)
  have hsj : σ 6 j = 0 := Decidable.byContradiction fun z => hb (Or.inr (Or.inl z))
  have hsx : σ 6 x = 1 := Decidable.byContradiction fun z => hb (Or.inr (Or.inr z))
  have ma : a < τ 0 1 := by rw [← e1]; exact ha
  have mj : j < τ 0 1 := by rw [← e1]; exact hj
  have mx : x < τ 0 1 := by rw [← e1]; exact hx3
  have ta : τ 2 a = 2 := by rw [← es a ha]; exact hsa
  have tj : τ 2 j = 0 := by rw [← es j hj]; exact hsj
  have tx : τ 2 x = 1 := by rw [← es x hx3]; exact hsx
  have ff : findF σ 2 (a + 1) (j + 1) (x + 1) (σ 0 1 - 7) 7 = foundF τ 2 a j x (τ 0 1 - 7) 7 := by rw [← e1]; exact fd_eq hI.tt (Or.inr ⟨rfl, rfl⟩) _ _ (Nat.le_refl _) (by omega)
  cases hf : findF σ 2 (a + 1) (j + 1) (x + 1) (σ 0 1 - 7) 7 with
  | succ n =>
    have hn : n < 24 := by have := findF_lt _ _ hf; omega
    exact op_store C h hl hiL hL hc hs xa xj xx (c_L_store_found l hlt D cI cL _ adC σ o f a j x n hI.ic ha hj hx3 hsa hsj hsx hn hf) (c_X5_store_found l D cI cZ AM adM τ a j x n hI.im ma mj mx ta tj tx hn (by rw [← ff]; exact hf)) rfl rfl ⟨by decide, by decide⟩ (fun r1 u r2 τ1 h1 h2 => qo (by rw [h1.2.1, h2.2]; exact hI.thr 0) (by rw [h2.2]; exact thr0 τ 0) h1.1 (by rw [h1.2.2, h2.1])) k
  | zero =>
    by_cases hfl : σ 0 1 = 24
    · exact op_store C h hl hiL hL hc hs xa xj xx (c_L_store_full l hlt D cI cL _ adC σ o f a j x hI.ic ha hj hx3 hsa hsj hsx hf hfl) (c_X5_store_full l D cI cZ AM adM τ a j x hI.im ma mj mx ta tj tx (by rw [← ff]; exact hf) (by rw [← e1]; exact hfl)) rfl rfl ⟨by decide, by decide⟩ (fun r1 u r2 τ1 h1 h2 => qt (hI.thr 0) (Or.inl h1.2.1) (by decide) h1.1 h2.2) k
    · have hfl : σ 0 1 < 24 := by omega
      exact op_store C h hl hiL hL hc hs xa xj xx (c_L_store_new l hlt D cI cL _ adC σ o f a j x hI.ic ha hj hx3 hsa hsj hsx hf hfl) (c_X5_store_new l D cI cZ AM adM τ a j x hI.im ma mj mx ta tj tx (by rw [← ff]; exact hf) (by rw [← e1]; exact hfl) (hI.ci hj hsj) (hI.ce hx3 hsx)) rfl rfl ⟨by decide, by decide⟩ (fun r1 u r2 τ1 h1 h2 => qo (by rw [h1.2.1]; exact (hI.thr 0).new ha hj hsa hsj (Or.inr ⟨rfl, rfl, hx3, hsx⟩) hfl h2.2) ((h2.2.2.1 0 (by decide)).trans (thr0 τ 0)) h1.1 (by rw [h1.2.2, h2.1, e1])) k
set_option maxHeartbeats 4000000 in
set_option maxRecDepth 100000 in
theorem st_literal {p : Program} {l : Launch} {e : Env} {s : State} {m : MethodId} {args : Array Value} {below : List Frame} {meth : Method} {c : Code} {H : Heap} {locs : List Loc} {cells slots : Nat} {Q : State → Prop} {D : va_G} {cI cZ cL : ClassId} {AM : Nat → Prop} {adC adM : Nat → Nat} {o b L i : Nat} {xs : Nat → Int32} {σ τ : Nat → Nat → Nat} {f : Nat → Int64} {ls : Array Slot} (C : Lw p l s m args c D cI cZ cL AM o b L xs) (h : Lp s D cI cZ cL AM adC adM o σ τ f H locs) (hI : IR σ τ) (hl : lv_has ls 7 [(0, .ref b), (1, .ref (adC 0)), (2, .ref (adM 0)), (3, .ref o), (4, .int (nI i))]) (hiL : i + 4 ≤ L) (hL : L ≤ 2048) (hc : cells + 1 ≤ room_1.cells) (hs : slots + 6 ≤ room_1.slots) (k : Kt p l e s m args below meth c Q D cI cZ cL AM adC adM o b i (cells + 1) (slots + 6)) : W p l e room_1 s m args below meth c H locs cells slots Q (F0 m 302 ls []) := by
  obtain ⟨-, -, -, -, -, -, -, -, -, -, -, -, -, hlt, -, -⟩ := id C
  have t4 := hI.ic.terms
  have t5 := hI.im.terms
  have e1 := hI.tt.1
  have es := hI.tt.2.1
  obtain ⟨bb, hbb⟩ := io_b (xs (i + 3))
  rcases io (n := σ 0 1) (xs (i + 1)) with ho | ⟨a, ha, xa⟩
  · exact op_literal C h hl hiL hL hc hs rfl rfl hbb (c_L_literal_o1 l hlt D cI cL _ adC σ o f _ _ bb t4 ho) (c_X5_literal_o1 l D cI cZ AM adM τ _ _ bb t5 (by rw [← e1]; exact ho)) rfl rfl ⟨by decide, by decide⟩ (fun r1 u r2 τ1 h1 h2 => qt hI (Or.inl h1.2.1) (by decide) h1.1 h2.2) k
  rcases io (n := σ 0 1) (xs (i + 2)) with ho | ⟨j, hj, xj⟩
  · exact op_literal C h hl hiL hL hc hs xa rfl hbb (c_L_literal_o2 l hlt D cI cL _ adC σ o f a _ bb t4 ha ho) (c_X5_literal_o2 l D cI cZ AM adM τ a _ bb t5 (by rw [← e1]; exact ha) (by rw [← e1]; exact ho)) rfl rfl ⟨by decide, by decide⟩ (fun r1 u r2 τ1 h1 h2 => qt hI (Or.inl h1.2.1) (by decide) h1.1 h2.2) k
  have ma : a < τ 0 1 := by rw [← e1]; exact ha
  have mj : j < τ 0 1 := by rw [← e1]; exact hj
  by_cases hsu : σ 6 a ≠ σ 6 j
  · exact op_literal C h hl hiL hL hc hs xa xj hbb (c_L_literal_sort l hlt D cI cL _ adC σ o f a j bb hI.ic ha hj hsu) (c_X5_literal_sort l D cI cZ AM adM τ a j bb hI.im ma mj (by rw [← es a ha, ← es j hj]; exact hsu)) rfl rfl ⟨by decide, by decide⟩ (fun r1 u r2 τ1 h1 h2 => qt hI (Or.inl h1.2.1) (by decide) h1.1 h2.2) k
  have hsu : σ 6 a = σ 6 j := Decidable.byContradiction hsu
  have tsu : τ 2 a = τ 2 j := by rw [← es a ha, ← es j hj]; exact hsu
  have d3 := hI.ic.draft
  have ed := hI.dt.1
  by_cases hd : σ 0 0 = 3
  · exact op_literal C h hl hiL hL hc hs xa xj hbb (c_L_literal_full l hlt D cI cL _ adC σ o f a j bb hI.ic ha hj hsu hd) (c_X5_literal_full l D cI cZ AM adM τ a j bb hI.im ma mj tsu (by rw [← ed]; exact hd)) rfl rfl ⟨by decide, by decide⟩ (fun r1 u r2 τ1 h1 h2 => qt hI (Or.inl h1.2.1) (by decide) h1.1 h2.2) k
  · have hd : σ 0 0 < 3 := by omega
    exact op_literal C h hl hiL hL hc hs xa xj hbb (c_L_literal_ok l hlt D cI cL _ adC σ o f a j bb hI.ic ha hj hsu hd) (c_X5_literal_ok l D cI cZ AM adM τ a j bb hI.im ma mj tsu (by rw [← ed]; omega)) rfl rfl ⟨by decide, by decide⟩ (fun r1 u r2 τ1 h1 h2 => qo (by rw [h1.2.1, h2.2]; exact hI.lit ha hj hsu hd) (by rw [h2.2]; simp [sU, va_up_app]) h1.1 (by rw [h1.2.2, h2.1, ed])) k
set_option maxHeartbeats 4000000 in
set_option maxRecDepth 100000 in
theorem st_claim {p : Program} {l : Launch} {e : Env} {s : State} {m : MethodId} {args : Array Value} {below : List Frame} {meth : Method} {c : Code} {H : Heap} {locs : List Loc} {cells slots : Nat} {Q : State → Prop} {D : va_G} {cI cZ cL : ClassId} {AM : Nat → Prop} {adC adM : Nat → Nat} {o b L i : Nat} {xs : Nat → Int32} {σ τ : Nat → Nat → Nat} {f : Nat → Int64} {ls : Array Slot} (C : Lw p l s m args c D cI cZ cL AM o b L xs) (h : Lp s D cI cZ cL AM adC adM o σ τ f H locs) (hI : IR σ τ) (hl : lv_has ls 7 [(0, .ref b), (1, .ref (adC 0)), (2, .ref (adM 0)), (3, .ref o), (4, .int (nI i))]) (hiL : i + 4 ≤ L) (hL : L ≤ 2048) (hc : cells + 1 ≤ room_1.cells) (hs : slots + 6 ≤ room_1.slots) (k : Kt p l e s m args below meth c Q D cI cZ cL AM adC adM o b i (cells + 1) (slots + 6)) : W p l e room_1 s m args below meth c H locs cells slots Q (F0 m 422 ls []) := by
  obtain ⟨-, -, -, -, -, -, -, -, -, -, -, -, -, hlt, -, -⟩ := id C
  have t4 := hI.ic.terms
  have t5 := hI.im.terms
  have e1 := hI.tt.1
  have es := hI.tt.2.1
  have ed := hI.dt.1
  have c8 := hI.ic.claims
  have ec := hI.cn
  by_cases hd : σ 0 0 = 0
  · exact op_claim C h hl hiL hL hc hs  (c_L_claim_none l hlt D cI cL _ adC σ o f hd) (c_X5_claim_none l D cI cZ AM adM τ (by rw [← ed]; exact hd)) rfl rfl ⟨by decide, by decide⟩ (fun r1 u r2 τ1 h1 h2 => qt hI (Or.inl h1.2.1) (by decide) h1.1 h2.2) k
  by_cases h8 : σ 0 2 = 8
  · exact op_claim C h hl hiL hL hc hs  (c_L_claim_full l hlt D cI cL _ adC σ o f hI.ic hd h8) (c_X5_claim_full l D cI cZ AM adM τ hI.im (by rw [← ed]; exact hd) (by rw [← ec]; exact h8)) rfl rfl ⟨by decide, by decide⟩ (fun r1 u r2 τ1 h1 h2 => qt hI (Or.inl h1.2.1) (by decide) h1.1 h2.2) k
  have h8 : σ 0 2 < 8 := by omega
  exact op_claim C h hl hiL hL hc hs  (c_L_claim_ok l hlt D cI cL _ adC σ o f hI.ic hd h8) (c_X5_claim_ok l D cI cZ AM adM τ hI.im hI.drs (by rw [← ed]; exact hd) (by rw [← ec]; exact h8)) rfl rfl ⟨by decide, by decide⟩ (fun r1 u r2 τ1 h1 h2 => by
    obtain ⟨a1, r9, ⟨rfl, a2⟩, a3⟩ := h1
    exact qo (by rw [a2]; exact hI.claim hd h8 h2.2) h2.2.2.1 a1 (by rw [a3, h2.1, ec])) k
set_option maxHeartbeats 4000000 in
set_option maxRecDepth 100000 in
theorem st_without {p : Program} {l : Launch} {e : Env} {s : State} {m : MethodId} {args : Array Value} {below : List Frame} {meth : Method} {c : Code} {H : Heap} {locs : List Loc} {cells slots : Nat} {Q : State → Prop} {D : va_G} {cI cZ cL : ClassId} {AM : Nat → Prop} {adC adM : Nat → Nat} {o b L i : Nat} {xs : Nat → Int32} {σ τ : Nat → Nat → Nat} {f : Nat → Int64} {ls : Array Slot} (C : Lw p l s m args c D cI cZ cL AM o b L xs) (h : Lp s D cI cZ cL AM adC adM o σ τ f H locs) (hI : IR σ τ) (hl : lv_has ls 7 [(0, .ref b), (1, .ref (adC 0)), (2, .ref (adM 0)), (3, .ref o), (4, .int (nI i))]) (hiL : i + 4 ≤ L) (hL : L ≤ 2048) (hc : cells + 1 ≤ room_1.cells) (hs : slots + 6 ≤ room_1.slots) (k : Kt p l e s m args below meth c Q D cI cZ cL AM adC adM o b i (cells + 1) (slots + 6)) : W p l e room_1 s m args below meth c H locs cells slots Q (F0 m 530 ls []) := by
  obtain ⟨-, -, -, -, -, -, -, -, -, -, -, -, -, hlt, -, -⟩ := id C
  have t4 := hI.ic.terms
  have t5 := hI.im.terms
  have e1 := hI.tt.1
  have es := hI.tt.2.1
  have ec := hI.cn
  rcases io_lt (n := σ 0 2) (xs (i + 1)) with ho | ⟨a, ha, xa⟩
  · exact op_without C h hl hiL hL hc hs rfl (c_L_without_out l hlt D cI cL _ adC σ o f _ ho) (c_X5_without_out l D cI cZ AM adM τ _ (by rw [← ec]; exact ho)) rfl rfl ⟨by decide, by decide⟩ (fun r1 u r2 τ1 h1 h2 => qz (qt hI (Or.inl h1.2.1) (by decide) h1.1 h2.2) h2.1) k
  · exact op_without C h hl hiL hL hc hs xa (c_L_without_ok l hlt D cI cL _ adC σ o f a hI.ic hI.wf hI.mw ha) (c_X5_without_in l D cI cZ AM adM τ a hI.im (by rw [← ec]; exact ha)) rfl rfl ⟨by decide, by decide⟩ (fun r1 u r2 τ1 h1 h2 => by
      obtain ⟨a1, r9, ⟨rfl, a2⟩, a3⟩ := h1
      exact qz (qo (by rw [h2.2]; exact (hI.ks a2).thr 0) (by rw [h2.2]; exact thr0 τ 0) a1 (by rw [a3, h2.1, hI.a_wo ha])) h2.1) k
set_option maxHeartbeats 4000000 in
set_option maxRecDepth 100000 in
theorem st_same {p : Program} {l : Launch} {e : Env} {s : State} {m : MethodId} {args : Array Value} {below : List Frame} {meth : Method} {c : Code} {H : Heap} {locs : List Loc} {cells slots : Nat} {Q : State → Prop} {D : va_G} {cI cZ cL : ClassId} {AM : Nat → Prop} {adC adM : Nat → Nat} {o b L i : Nat} {xs : Nat → Int32} {σ τ : Nat → Nat → Nat} {f : Nat → Int64} {ls : Array Slot} (C : Lw p l s m args c D cI cZ cL AM o b L xs) (h : Lp s D cI cZ cL AM adC adM o σ τ f H locs) (hI : IR σ τ) (hl : lv_has ls 7 [(0, .ref b), (1, .ref (adC 0)), (2, .ref (adM 0)), (3, .ref o), (4, .int (nI i))]) (hiL : i + 4 ≤ L) (hL : L ≤ 2048) (hc : cells + 1 ≤ room_1.cells) (hs : slots + 6 ≤ room_1.slots) (k : Kt p l e s m args below meth c Q D cI cZ cL AM adC adM o b i (cells + 1) (slots + 6)) : W p l e room_1 s m args below meth c H locs cells slots Q (F0 m 593 ls []) := by
  obtain ⟨-, -, -, -, -, -, -, -, -, -, -, -, -, hlt, -, -⟩ := id C
  have t4 := hI.ic.terms
  have t5 := hI.im.terms
  have e1 := hI.tt.1
  have es := hI.tt.2.1
  rcases io (n := σ 0 1) (xs (i + 1)) with ho | ⟨a, ha, xa⟩
  · exact op_same C h hl hiL hL hc hs rfl rfl (c_L_same_o1 l hlt D cI cL _ adC σ o f _ _ hI.ic ho) (c_X5_same_o1 l D cI cZ AM adM τ _ _ t5 (by rw [← e1]; exact ho)) rfl rfl ⟨by decide, by decide⟩ (fun r1 u r2 τ1 h1 h2 => qt hI (Or.inr h1.2.1) (by decide) h1.1 h2.2) k
  rcases io (n := σ 0 1) (xs (i + 2)) with ho | ⟨j, hj, xj⟩
  · exact op_same C h hl hiL hL hc hs xa rfl (c_L_same_o2 l hlt D cI cL _ adC σ o f a _ hI.ic ha ho) (c_X5_same_o2 l D cI cZ AM adM τ a _ t5 (by rw [← e1]; exact ha) (by rw [← e1]; exact ho)) rfl rfl ⟨by decide, by decide⟩ (fun r1 u r2 τ1 h1 h2 => qt hI (Or.inr h1.2.1) (by decide) h1.1 h2.2) k
  have ma : a < τ 0 1 := by rw [← e1]; exact ha
  have mj : j < τ 0 1 := by rw [← e1]; exact hj
  by_cases hsu : σ 6 a ≠ σ 6 j
  · exact op_same C h hl hiL hL hc hs xa xj (c_L_same_sort l hlt D cI cL _ adC σ o f a j hI.ic ha hj hsu) (c_X5_same_sort l D cI cZ AM adM τ a j hI.im ma mj (by rw [← es a ha, ← es j hj]; exact hsu)) rfl rfl ⟨by decide, by decide⟩ (fun r1 u r2 τ1 h1 h2 => qt hI (Or.inr h1.2.1) (by decide) h1.1 h2.2) k
  have hsu : σ 6 a = σ 6 j := Decidable.byContradiction hsu
  have tsu : τ 2 a = τ 2 j := by rw [← es a ha, ← es j hj]; exact hsu
  have hct := hI.a_cant ha hj hsu
  cases hch : chB τ (2 ^ (τ 0 15) - 1) with
  | false =>
    have n1 : canXB σ 1 (fun _ => litF a j true) = false := eq_false_of_ne_true (fun z => by rw [hct.mp (Or.inl z)] at hch; cases hch)
    have n0 : canXB σ 1 (fun _ => litF a j false) = false := eq_false_of_ne_true (fun z => by rw [hct.mp (Or.inr z)] at hch; cases hch)
    exact op_same C h hl hiL hL hc hs xa xj (c_L_same_cant l hlt D cI cL _ adC σ o f a j hI.ic ha hj hsu hI.wf hI.mw n1 n0) (c_X5_same_cant l D cI cZ AM adM τ a j hI.im ma mj tsu hch) rfl rfl ⟨by decide, by decide⟩ (fun r1 u r2 τ1 h1 h2 => qt hI (Or.inr h1.2.1) (by decide) h1.1 h2.2) k
  | true =>
    exact op_same C h hl hiL hL hc hs xa xj (c_L_same_ok l hlt D cI cL _ adC σ o f a j hI.ic ha hj hsu hI.wf hI.mw (hct.mpr hch)) (c_X5_same_ok l D cI cZ AM adM τ a j hI.im ma mj tsu hch) rfl rfl ⟨by decide, by decide⟩ (fun r1 u r2 τ1 h1 h2 => by
      obtain ⟨a1, r9, ⟨a4, a2⟩, a3⟩ := h1
      exact qo (by rw [h2.2]; exact (hI.ks a2).thr 0) (by rw [h2.2]; exact thr0 τ 0) a1 (by rw [a3, hI.a_same ha hj hsu a4 h2.1])) k
set_option maxHeartbeats 4000000 in
set_option maxRecDepth 100000 in
theorem st_follows {p : Program} {l : Launch} {e : Env} {s : State} {m : MethodId} {args : Array Value} {below : List Frame} {meth : Method} {c : Code} {H : Heap} {locs : List Loc} {cells slots : Nat} {Q : State → Prop} {D : va_G} {cI cZ cL : ClassId} {AM : Nat → Prop} {adC adM : Nat → Nat} {o b L i : Nat} {xs : Nat → Int32} {σ τ : Nat → Nat → Nat} {f : Nat → Int64} {ls : Array Slot} (C : Lw p l s m args c D cI cZ cL AM o b L xs) (h : Lp s D cI cZ cL AM adC adM o σ τ f H locs) (hI : IR σ τ) (hl : lv_has ls 7 [(0, .ref b), (1, .ref (adC 0)), (2, .ref (adM 0)), (3, .ref o), (4, .int (nI i))]) (hiL : i + 4 ≤ L) (hL : L ≤ 2048) (hc : cells + 1 ≤ room_1.cells) (hs : slots + 6 ≤ room_1.slots) (k : Kt p l e s m args below meth c Q D cI cZ cL AM adC adM o b i (cells + 1) (slots + 6)) : W p l e room_1 s m args below meth c H locs cells slots Q (F0 m 661 ls []) := by
  obtain ⟨-, -, -, -, -, -, -, -, -, -, -, -, -, hlt, -, -⟩ := id C
  have t4 := hI.ic.terms
  have t5 := hI.im.terms
  have e1 := hI.tt.1
  have es := hI.tt.2.1
  have ed := hI.dt.1
  by_cases hd : σ 0 0 = 0
  · exact op_follows C h hl hiL hL hc hs  (c_L_follows_none l hlt D cI cL _ adC σ o f hI.ic hd) (c_X5_follows_none l D cI cZ AM adM τ hI.im (by rw [← ed]; exact hd)) rfl rfl ⟨by decide, by decide⟩ (fun r1 u r2 τ1 h1 h2 => qz (qt hI (Or.inr h1.2.1) (by decide) h1.1 h2.2) h2.1) k
  · exact op_follows C h hl hiL hL hc hs  (c_L_follows_ok l hlt D cI cL _ adC σ o f hI.ic hI.wf hI.mw hd (fun k hk => (hI.dt.2 k hk).2)) (c_X5_follows_ok l D cI cZ AM adM τ hI.im hI.drs (by rw [← ed]; exact hd)) rfl rfl ⟨by decide, by decide⟩ (fun r1 u r2 τ1 h1 h2 => by
      obtain ⟨a1, r9, ⟨rfl, a2⟩, a3⟩ := h1
      exact qz (qo (by rw [h2.2]; exact (hI.ks a2).thr 0) (by rw [h2.2]; exact thr0 τ 0) a1 (by rw [a3, h2.1, hI.a_foll])) h2.1) k
set_option maxHeartbeats 4000000 in
set_option maxRecDepth 100000 in
theorem st_apart {p : Program} {l : Launch} {e : Env} {s : State} {m : MethodId} {args : Array Value} {below : List Frame} {meth : Method} {c : Code} {H : Heap} {locs : List Loc} {cells slots : Nat} {Q : State → Prop} {D : va_G} {cI cZ cL : ClassId} {AM : Nat → Prop} {adC adM : Nat → Nat} {o b L i : Nat} {xs : Nat → Int32} {σ τ : Nat → Nat → Nat} {f : Nat → Int64} {ls : Array Slot} (C : Lw p l s m args c D cI cZ cL AM o b L xs) (h : Lp s D cI cZ cL AM adC adM o σ τ f H locs) (hI : IR σ τ) (hl : lv_has ls 7 [(0, .ref b), (1, .ref (adC 0)), (2, .ref (adM 0)), (3, .ref o), (4, .int (nI i))]) (hiL : i + 4 ≤ L) (hL : L ≤ 2048) (hc : cells + 1 ≤ room_1.cells) (hs : slots + 6 ≤ room_1.slots) (k : Kt p l e s m args below meth c Q D cI cZ cL AM adC adM o b i (cells + 1) (slots + 6)) : W p l e room_1 s m args below meth c H locs cells slots Q (F0 m 712 ls []) := by
  obtain ⟨-, -, -, -, -, -, -, -, -, -, -, -, -, hlt, -, -⟩ := id C
  have t4 := hI.ic.terms
  have t5 := hI.im.terms
  have e1 := hI.tt.1
  have es := hI.tt.2.1
  obtain ⟨bb, hbb⟩ := io_b (xs (i + 1))
  have hct := hI.a_sat
  cases hch : chB τ (2 ^ (τ 0 15) - 1) with
  | false =>
    have n1 : ¬ ∃ w, w < 5 ∧ SatM σ w (σ 0 2) 0 := fun z => by rw [hct.mp z] at hch; cases hch
    cases bb with
    | true =>
      exact op_apart C h hl hiL hL hc hs hbb (c_L_apart_f_no l hlt D cI cL _ adC σ o f hI.ic hI.wf hI.mw n1) (c_X5_apart_f_no l D cI cZ AM adM τ hI.im hch) rfl rfl ⟨by decide, by decide⟩ (fun r1 u r2 τ1 h1 h2 => qt hI (Or.inr h1.2.1) (by decide) h1.1 h2.2) k
    | false =>
      exact op_apart C h hl hiL hL hc hs hbb (c_L_apart_m_no l hlt D cI cL _ adC σ o f hI.ic hI.wf hI.mw n1) (c_X5_apart_m_no l D cI cZ AM adM τ hI.im hch) rfl rfl ⟨by decide, by decide⟩ (fun r1 u r2 τ1 h1 h2 => qt hI (Or.inr h1.2.1) (by decide) h1.1 h2.2) k
  | true =>
    obtain ⟨w, hw, hsw⟩ := hct.mpr hch
    have hd := dif13 w hw
    cases bb with
    | true =>
      exact op_apart C h hl hiL hL hc hs hbb (c_L_apart_f_ok l hlt D cI cL _ adC σ o f hI.ic hI.wf hI.mw ⟨difF w - 1, by omega, w, hw, by omega, hsw⟩) (c_X5_apart_f_ok l D cI cZ AM adM τ hI.im hch) rfl rfl ⟨by decide, by decide⟩ (fun r1 u r2 τ1 h1 h2 => by
        obtain ⟨a1, r9, ⟨⟨kk, hkk, rfl, w1, w2⟩, a2⟩, a3⟩ := h1
        obtain ⟨be, rfl, hbe, rfl⟩ := h2
        exact qo ((hI.ks a2).thr 0) (thr0 τ 0) a1 (by rw [a3, hI.a_apf hkk w1 w2 hbe])) k
    | false =>
      exact op_apart C h hl hiL hL hc hs hbb (c_L_apart_m_ok l hlt D cI cL _ adC σ o f hI.ic hI.wf hI.mw ⟨3 - difF w, by omega, w, hw, by omega, hsw⟩) (c_X5_apart_m_ok l D cI cZ AM adM τ hI.im hch) rfl rfl ⟨by decide, by decide⟩ (fun r1 u r2 τ1 h1 h2 => by
        obtain ⟨a1, r9, ⟨⟨kk, hkk, rfl, w1, w2⟩, a2⟩, a3⟩ := h1
        obtain ⟨be, rfl, hbe, rfl⟩ := h2
        exact qo ((hI.ks a2).thr 0) (thr0 τ 0) a1 (by rw [a3, hI.a_apm hkk w1 w2 hbe])) k
