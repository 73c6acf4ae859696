/-! THE LAW's WRAPPERS -/
def WO (o : Nat) (cL : ClassId) (f : Nat → Int64) : va_W := [(o, .inl (cL, 1, .inr (.inl f)))]
def Ao (A : Nat → Prop) (o : Nat) : Nat → Prop := fun q => A q ∧ q ≠ o
def xcL : List String := ["java/lang/IndexOutOfBoundsException", "java/lang/IllegalArgumentException", "java/lang/UnsupportedOperationException", "java/lang/IllegalStateException"]
def Nx (U : State) : Prop := ∀ E ∈ xcL, ∀ F ∈ xcL, E ≠ F → va_Nc E F U
def Wo (D : va_G) (cI cL : ClassId) (A : Nat → Prop) (ad : Nat → Nat) (σ : Nat → Nat → Nat) (o : Nat) (f : Nat → Int64) (U : State) : Prop := Wx D cI (Ao A o) ad σ U ∧ va_P D vwCl (WO o cL f) U.heap ∧ va_K D vwCl [(cI, .int), (cL, .long)] U ∧ A o ∧ Nx U
def Bo (D : va_G) (cI cL : ClassId) (A : Nat → Prop) (ad : Nat → Nat) (o : Nat) (u : (Nat → Nat → Nat) × (Nat → Int64)) (t : State) : Prop := va_P D vwCl (WC ad cI u.1) t.heap ∧ va_D (Ao A o) (WC ad cI u.1) ∧ va_P D vwCl (WO o cL u.2) t.heap
theorem tw_cast {args : Array Value} {U : State} (h : Tw U) {E : String} (hE : (Cond.castable E E) ∈ twL) : (Cond.castable E E).before args U = true := h.use _ hE
theorem Ao.le {A : Nat → Prop} {o q : Nat} (h : Ao A o q) : A q := h.1
theorem WO.keep {D : va_G} {o : Nat} {cL : ClassId} {f : Nat → Int64} {A : Nat → Prop} {H H1 : Heap} (h : va_P D vwCl (WO o cL f) H) (hk : ∀ q : Nat, q < H.size → ¬ Ao A o q → H1[q]? = H[q]?) : va_P D vwCl (WO o cL f) H1 := h.kept (fun k q hq => by
  have hlt := (h k q hq).lt
  refine hk q.1 hlt (fun z => z.2 ?_)
  cases k with
  | zero => cases hq; rfl
  | succ k => cases hq)
theorem w_widen {p : Program} {l : Launch} {e : Env} {R : Room} {s : State} {m : MethodId} {args : Array Value} {below : List Frame} {meth : Method} {c : Code} {H : Heap} {locs : List Loc} {cells slots : Nat} {Q : State → Prop} {g : JFrame} {k n : Nat} (h1 : cells ≤ k) (h2 : slots ≤ n) (kk : W p l e R s m args below meth c H locs k n Q g) : W p l e R s m args below meth c H locs cells slots Q g := fun T hT X => kk T hT (stand_widen X h1 h2)
def rL : Room := { frames := 20, cells := 1, slots := 6, locals := 600 }
theorem WO.dis {A : Nat → Prop} {o : Nat} {cL : ClassId} {f : Nat → Int64} {ws : va_W} (h : va_D (Ao A o) ws) (ho : A o) : va_D A (ws ++ WO o cL f) := by
  refine va_D.app (h.weaken (fun _ _ _ z => z.1)) ⟨fun i j p q hi hj _ => ?_, fun k q hk => ?_⟩ (fun i j p q hi hj z => ?_)
  · cases i with
    | zero => cases j with
      | zero => rfl
      | succ j => cases hj
    | succ i => cases hi
  · cases k with
    | zero => cases hk; exact ho
    | succ k => cases hk
  · cases j with
    | zero => cases hj; exact (h.2 i p hi).2 z
    | succ j => cases hj
theorem upL0 {f : Nat → Int64} {v : Int64} : vp_updL f (nI 0).toNatClampNeg v 0 = v := by
  have : (nI 0).toNatClampNeg = 0 := by decide +kernel
  rw [this]; simp [vp_updL]
set_option maxHeartbeats 4000000 in
set_option maxRecDepth 100000 in
theorem c_L_select_found (l : Launch) (hlt : l.stackTraces = false) (D : va_G) (cI cL : ClassId) (A : Nat → Prop) (ad : Nat → Nat) (σ : Nat → Nat → Nat) (o : Nat) (f : Nat → Int64) (a i k : Nat) (hI : IC σ) (ha : a < σ 0 1) (hi : i < σ 0 1) (hsa : σ 6 a = 2) (hsi : σ 6 i = 0) (hk : k < 24) (hfd : findF σ 1 (a + 1) (i + 1) 0 (σ 0 1 - 7) 7 = k + 1) : vx_Met l yL_select wsL_select rL (va_Pc [.ref (ad 0), .int (nI a), .int (nI i), .ref o] (Wo D cI cL A ad σ o f)) (va_Qi (fun r u => r = nI 0 ∧ u.1 = σ ∧ u.2 0 = (nI k).toInt64) (Bo D cI cL A ad o) A) (fun _ _ _ => False) 1 6 A := by
  refine vx_ofWH (cc := cL_select) (maxL := 5) (ret := (some .int)) (hh := [(0, 10, 13, 13), (0, 10, 17, 15), (0, 10, 21, 17)]) (by decide) rfl ?_
  intro p e s m args below meth c s₁ B hml hv
  obtain ⟨rfl, ⟨⟨hP, hK, hD, hN, hZ⟩, hTh, hTw⟩, hPo, hKo, hAo, hNx⟩ := hv
  have hx := B.exec
  have hb := B.bytes
  have hr := B.returns
  have hts := atoms_spec (ws := wsL_select) B.pre
  have hown : s.vm.findClass RL = some m.cls := findClass_of_methodNamed B.named
  have htb := vx_table (x := yL_select) B (hts _ List.mem_cons_self)
  have hS : va_S A s.heap s.heap [] := va_S.rf
  have hl := lv_entry ([.ref (ad 0), .int (nI a), .int (nI i), .ref o]) (n := 5) (Nat.le_of_ble_eq_true rfl)
  rw [lg_entry_eq]
  generalize (lg_sl ([.ref (ad 0), .int (nI a), .int (nI i), .ref o]) ++ List.replicate (5 - (lg_sl ([.ref (ad 0), .int (nI a), .int (nI i), .ref o])).length) Slot.unset).toArray = ls at hl ⊢
  have hl : lv_has ls 5 [(0, .ref (ad 0)), (1, .int (nI a)), (2, .int (nI i)), (3, .ref o)] := hl
  refine lv_aload_n hx hb dL_select_0 rfl (lv_at hl 3 rfl) ?_
  refine lv_iconst (v := nI 0) hx hb dL_select_1 (by decide) ?_
  refine lv_aload_n hx hb dL_select_2 rfl (lv_at hl 0 rfl) ?_
  refine lv_iload_n hx hb dL_select_3 rfl (lv_at hl 1 rfl) ?_
  refine lv_iload_n hx hb dL_select_4 rfl (lv_at hl 2 rfl) ?_
  refine vp_callSi (va_Run.run (va_runV (As := [.int (nI a), .int (nI i)]) (rest := [.int (nI 0), .ref o]) ⟨hx, hb, hml, hown, hts⟩ (c_X4_select_found l D cI (Ao A o) ad σ a i k hI ha hi hsa hsi hk hfd) (cwV 2 hts gL_select_X4_select rfl rfl rfl (by decide +kernel) ⟨Nat.le_of_ble_eq_true rfl, Nat.le_of_ble_eq_true rfl⟩) ⟨Wc.blind, va_recv hK hP (ci := 3) (q0 := 0) rfl rfl, fun U hU hW => ⟨rfl, Wc.go hP hK hD hN hZ va_S.rf hU hW⟩⟩ rfl rfl hl.1 rfl (lv_room (Nat.le_of_ble_eq_true rfl)) dL_select_5 ⟨Nat.le_of_ble_eq_true rfl, Nat.le_of_ble_eq_true rfl⟩)) (fun r hw => ?_)
  obtain rfl := hw
  have hP1 := hP
  have hPo1 := hPo
  have hD1 := hD
  have hS1 := hS
  have hu : σ = σ := rfl
  refine lv_i2l (v := (nI k).toInt64) hx hb dL_select_8 rfl ?_
  refine va_last hx hb hKo (va_P.app hP1 hPo1) (WO.dis (cL := cL) (f := f) hD1 hAo) hS1 16 1 rfl rfl (vp_in_nI (by decide) (by decide)) dL_select_9 (fun H2 locs2 hP2 hD2 hS2 => ?_)
  refine lv_goto (tgt := 25) hx hb dL_select_10 (by decide) ?_
  refine lv_iconst (v := nI 0) hx hb dL_select_25 (by decide) ?_
  exact w_widen (k := 1) (n := 6) (by decide) (by decide) (vx_ret (W.iret (v := nI 0) hx hb hr (fun t ht hW => ⟨⟨_, (σ, vp_updL f (nI 0).toNatClampNeg (nI k).toInt64), rfl, ⟨rfl, hu, upL0 (f := f) (v := (nI k).toInt64)⟩, by rw [ht]; exact hP2.sub [0, 1, 2, 3, 4, 5, 6, 7, 8, 9, 10, 11, 12, 13, 14, 15] rfl, hD1, by rw [ht]; exact hP2.sub [16] rfl⟩, hS2.F ht⟩) hS2.2.2 dL_select_26))
set_option maxHeartbeats 4000000 in
set_option maxRecDepth 100000 in
theorem c_L_select_new (l : Launch) (hlt : l.stackTraces = false) (D : va_G) (cI cL : ClassId) (A : Nat → Prop) (ad : Nat → Nat) (σ : Nat → Nat → Nat) (o : Nat) (f : Nat → Int64) (a i : Nat) (hI : IC σ) (ha : a < σ 0 1) (hi : i < σ 0 1) (hsa : σ 6 a = 2) (hsi : σ 6 i = 0) (hfd : findF σ 1 (a + 1) (i + 1) 0 (σ 0 1 - 7) 7 = 0) (hfl : σ 0 1 < 24) : vx_Met l yL_select wsL_select rL (va_Pc [.ref (ad 0), .int (nI a), .int (nI i), .ref o] (Wo D cI cL A ad σ o f)) (va_Qi (fun r u => r = nI 0 ∧ u.1 = addTF σ 1 (a + 1) (i + 1) 0 ∧ u.2 0 = (nI (σ 0 1)).toInt64) (Bo D cI cL A ad o) A) (fun _ _ _ => False) 1 6 A := by
  refine vx_ofWH (cc := cL_select) (maxL := 5) (ret := (some .int)) (hh := [(0, 10, 13, 13), (0, 10, 17, 15), (0, 10, 21, 17)]) (by decide) rfl ?_
  intro p e s m args below meth c s₁ B hml hv
  obtain ⟨rfl, ⟨⟨hP, hK, hD, hN, hZ⟩, hTh, hTw⟩, hPo, hKo, hAo, hNx⟩ := hv
  have hx := B.exec
  have hb := B.bytes
  have hr := B.returns
  have hts := atoms_spec (ws := wsL_select) B.pre
  have hown : s.vm.findClass RL = some m.cls := findClass_of_methodNamed B.named
  have htb := vx_table (x := yL_select) B (hts _ List.mem_cons_self)
  have hS : va_S A s.heap s.heap [] := va_S.rf
  have hl := lv_entry ([.ref (ad 0), .int (nI a), .int (nI i), .ref o]) (n := 5) (Nat.le_of_ble_eq_true rfl)
  rw [lg_entry_eq]
  generalize (lg_sl ([.ref (ad 0), .int (nI a), .int (nI i), .ref o]) ++ List.replicate (5 - (lg_sl ([.ref (ad 0), .int (nI a), .int (nI i), .ref o])).length) Slot.unset).toArray = ls at hl ⊢
  have hl : lv_has ls 5 [(0, .ref (ad 0)), (1, .int (nI a)), (2, .int (nI i)), (3, .ref o)] := hl
  refine lv_aload_n hx hb dL_select_0 rfl (lv_at hl 3 rfl) ?_
  refine lv_iconst (v := nI 0) hx hb dL_select_1 (by decide) ?_
  refine lv_aload_n hx hb dL_select_2 rfl (lv_at hl 0 rfl) ?_
  refine lv_iload_n hx hb dL_select_3 rfl (lv_at hl 1 rfl) ?_
  refine lv_iload_n hx hb dL_select_4 rfl (lv_at hl 2 rfl) ?_
  refine va_calli (va_runV (As := [.int (nI a), .int (nI i)]) (rest := [.int (nI 0), .ref o]) ⟨hx, hb, hml, hown, hts⟩ (c_X4_select_new l D cI (Ao A o) ad σ a i hI ha hi hsa hsi hfd hfl) (cwV 2 hts gL_select_X4_select rfl rfl rfl (by decide +kernel) ⟨Nat.le_of_ble_eq_true rfl, Nat.le_of_ble_eq_true rfl⟩) ⟨Wc.blind, va_recv hK hP (ci := 3) (q0 := 0) rfl rfl, fun U hU hW => ⟨rfl, Wc.go hP hK hD hN hZ va_S.rf hU hW⟩⟩ rfl rfl hl.1 rfl (lv_room (Nat.le_of_ble_eq_true rfl)) dL_select_5 ⟨Nat.le_of_ble_eq_true rfl, Nat.le_of_ble_eq_true rfl⟩) hS (fun q _ h => h.1) (fun q h => h.1) (fun r u t H1 locs1 ht hvm hw hB hz hk hS1 => ?_)
  obtain ⟨rfl, hu⟩ := hw
  obtain ⟨hP1, -, hD1, -, -⟩ := hB
  rw [ht] at hP1
  have hPo1 := WO.keep hPo hk
  refine lv_i2l (v := (nI (σ 0 1)).toInt64) hx hb dL_select_8 rfl ?_
  refine va_last hx hb hKo (va_P.app hP1 hPo1) (WO.dis (cL := cL) (f := f) hD1 hAo) hS1 16 1 rfl rfl (vp_in_nI (by decide) (by decide)) dL_select_9 (fun H2 locs2 hP2 hD2 hS2 => ?_)
  refine lv_goto (tgt := 25) hx hb dL_select_10 (by decide) ?_
  refine lv_iconst (v := nI 0) hx hb dL_select_25 (by decide) ?_
  exact w_widen (k := 1) (n := 6) (by decide) (by decide) (vx_ret (W.iret (v := nI 0) hx hb hr (fun t ht hW => ⟨⟨_, (u, vp_updL f (nI 0).toNatClampNeg (nI (σ 0 1)).toInt64), rfl, ⟨rfl, hu, upL0 (f := f) (v := (nI (σ 0 1)).toInt64)⟩, by rw [ht]; exact hP2.sub [0, 1, 2, 3, 4, 5, 6, 7, 8, 9, 10, 11, 12, 13, 14, 15] rfl, hD1, by rw [ht]; exact hP2.sub [16] rfl⟩, hS2.F ht⟩) hS2.2.2 dL_select_26))
set_option maxHeartbeats 4000000 in
set_option maxRecDepth 100000 in
theorem c_L_store_found (l : Launch) (hlt : l.stackTraces = false) (D : va_G) (cI cL : ClassId) (A : Nat → Prop) (ad : Nat → Nat) (σ : Nat → Nat → Nat) (o : Nat) (f : Nat → Int64) (a i e1 k : Nat) (hI : IC σ) (ha : a < σ 0 1) (hi : i < σ 0 1) (he1 : e1 < σ 0 1) (hsa : σ 6 a = 2) (hsi : σ 6 i = 0) (hse : σ 6 e1 = 1) (hk : k < 24) (hfd : findF σ 2 (a + 1) (i + 1) (e1 + 1) (σ 0 1 - 7) 7 = k + 1) : vx_Met l yL_store wsL_store rL (va_Pc [.ref (ad 0), .int (nI a), .int (nI i), .int (nI e1), .ref o] (Wo D cI cL A ad σ o f)) (va_Qi (fun r u => r = nI 0 ∧ u.1 = σ ∧ u.2 0 = (nI k).toInt64) (Bo D cI cL A ad o) A) (fun _ _ _ => False) 1 6 A := by
  refine vx_ofWH (cc := cL_store) (maxL := 6) (ret := (some .int)) (hh := [(0, 12, 15, 13), (0, 12, 19, 15), (0, 12, 23, 17)]) (by decide) rfl ?_
  intro p e s m args below meth c s₁ B hml hv
  obtain ⟨rfl, ⟨⟨hP, hK, hD, hN, hZ⟩, hTh, hTw⟩, hPo, hKo, hAo, hNx⟩ := hv
  have hx := B.exec
  have hb := B.bytes
  have hr := B.returns
  have hts := atoms_spec (ws := wsL_store) B.pre
  have hown : s.vm.findClass RL = some m.cls := findClass_of_methodNamed B.named
  have htb := vx_table (x := yL_store) B (hts _ List.mem_cons_self)
  have hS : va_S A s.heap s.heap [] := va_S.rf
  have hl := lv_entry ([.ref (ad 0), .int (nI a), .int (nI i), .int (nI e1), .ref o]) (n := 6) (Nat.le_of_ble_eq_true rfl)
  rw [lg_entry_eq]
  generalize (lg_sl ([.ref (ad 0), .int (nI a), .int (nI i), .int (nI e1), .ref o]) ++ List.replicate (6 - (lg_sl ([.ref (ad 0), .int (nI a), .int (nI i), .int (nI e1), .ref o])).length) Slot.unset).toArray = ls at hl ⊢
  have hl : lv_has ls 6 [(0, .ref (ad 0)), (1, .int (nI a)), (2, .int (nI i)), (3, .int (nI e1)), (4, .ref o)] := hl
  refine lv_aload hx hb dL_store_0 (lv_at hl 4 rfl) ?_
  refine lv_iconst (v := nI 0) hx hb dL_store_2 (by decide) ?_
  refine lv_aload_n hx hb dL_store_3 rfl (lv_at hl 0 rfl) ?_
  refine lv_iload_n hx hb dL_store_4 rfl (lv_at hl 1 rfl) ?_
  refine lv_iload_n hx hb dL_store_5 rfl (lv_at hl 2 rfl) ?_
  refine lv_iload_n hx hb dL_store_6 rfl (lv_at hl 3 rfl) ?_
  refine vp_callSi (va_Run.run (va_runV (As := [.int (nI a), .int (nI i), .int (nI e1)]) (rest := [.int (nI 0), .ref o]) ⟨hx, hb, hml, hown, hts⟩ (c_X4_store_found l D cI (Ao A o) ad σ a i e1 k hI ha hi he1 hsa hsi hse hk hfd) (cwV 3 hts gL_store_X4_store rfl rfl rfl (by decide +kernel) ⟨Nat.le_of_ble_eq_true rfl, Nat.le_of_ble_eq_true rfl⟩) ⟨Wc.blind, va_recv hK hP (ci := 3) (q0 := 0) rfl rfl, fun U hU hW => ⟨rfl, Wc.go hP hK hD hN hZ va_S.rf hU hW⟩⟩ rfl rfl hl.1 rfl (lv_room (Nat.le_of_ble_eq_true rfl)) dL_store_7 ⟨Nat.le_of_ble_eq_true rfl, Nat.le_of_ble_eq_true rfl⟩)) (fun r hw => ?_)
  obtain rfl := hw
  have hP1 := hP
  have hPo1 := hPo
  have hD1 := hD
  have hS1 := hS
  have hu : σ = σ := rfl
  refine lv_i2l (v := (nI k).toInt64) hx hb dL_store_10 rfl ?_
  refine va_last hx hb hKo (va_P.app hP1 hPo1) (WO.dis (cL := cL) (f := f) hD1 hAo) hS1 16 1 rfl rfl (vp_in_nI (by decide) (by decide)) dL_store_11 (fun H2 locs2 hP2 hD2 hS2 => ?_)
  refine lv_goto (tgt := 27) hx hb dL_store_12 (by decide) ?_
  refine lv_iconst (v := nI 0) hx hb dL_store_27 (by decide) ?_
  exact w_widen (k := 1) (n := 6) (by decide) (by decide) (vx_ret (W.iret (v := nI 0) hx hb hr (fun t ht hW => ⟨⟨_, (σ, vp_updL f (nI 0).toNatClampNeg (nI k).toInt64), rfl, ⟨rfl, hu, upL0 (f := f) (v := (nI k).toInt64)⟩, by rw [ht]; exact hP2.sub [0, 1, 2, 3, 4, 5, 6, 7, 8, 9, 10, 11, 12, 13, 14, 15] rfl, hD1, by rw [ht]; exact hP2.sub [16] rfl⟩, hS2.F ht⟩) hS2.2.2 dL_store_28))
set_option maxHeartbeats 4000000 in
set_option maxRecDepth 100000 in
theorem c_L_store_new (l : Launch) (hlt : l.stackTraces = false) (D : va_G) (cI cL : ClassId) (A : Nat → Prop) (ad : Nat → Nat) (σ : Nat → Nat → Nat) (o : Nat) (f : Nat → Int64) (a i e1 : Nat) (hI : IC σ) (ha : a < σ 0 1) (hi : i < σ 0 1) (he1 : e1 < σ 0 1) (hsa : σ 6 a = 2) (hsi : σ 6 i = 0) (hse : σ 6 e1 = 1) (hfd : findF σ 2 (a + 1) (i + 1) (e1 + 1) (σ 0 1 - 7) 7 = 0) (hfl : σ 0 1 < 24) : vx_Met l yL_store wsL_store rL (va_Pc [.ref (ad 0), .int (nI a), .int (nI i), .int (nI e1), .ref o] (Wo D cI cL A ad σ o f)) (va_Qi (fun r u => r = nI 0 ∧ u.1 = addTF σ 2 (a + 1) (i + 1) (e1 + 1) ∧ u.2 0 = (nI (σ 0 1)).toInt64) (Bo D cI cL A ad o) A) (fun _ _ _ => False) 1 6 A := by
  refine vx_ofWH (cc := cL_store) (maxL := 6) (ret := (some .int)) (hh := [(0, 12, 15, 13), (0, 12, 19, 15), (0, 12, 23, 17)]) (by decide) rfl ?_
  intro p e s m args below meth c s₁ B hml hv
  obtain ⟨rfl, ⟨⟨hP, hK, hD, hN, hZ⟩, hTh, hTw⟩, hPo, hKo, hAo, hNx⟩ := hv
  have hx := B.exec
  have hb := B.bytes
  have hr := B.returns
  have hts := atoms_spec (ws := wsL_store) B.pre
  have hown : s.vm.findClass RL = some m.cls := findClass_of_methodNamed B.named
  have htb := vx_table (x := yL_store) B (hts _ List.mem_cons_self)
  have hS : va_S A s.heap s.heap [] := va_S.rf
  have hl := lv_entry ([.ref (ad 0), .int (nI a), .int (nI i), .int (nI e1), .ref o]) (n := 6) (Nat.le_of_ble_eq_true rfl)
  rw [lg_entry_eq]
  generalize (lg_sl ([.ref (ad 0), .int (nI a), .int (nI i), .int (nI e1), .ref o]) ++ List.replicate (6 - (lg_sl ([.ref (ad 0), .int (nI a), .int (nI i), .int (nI e1), .ref o])).length) Slot.unset).toArray = ls at hl ⊢
  have hl : lv_has ls 6 [(0, .ref (ad 0)), (1, .int (nI a)), (2, .int (nI i)), (3, .int (nI e1)), (4, .ref o)] := hl
  refine lv_aload hx hb dL_store_0 (lv_at hl 4 rfl) ?_
  refine lv_iconst (v := nI 0) hx hb dL_store_2 (by decide) ?_
  refine lv_aload_n hx hb dL_store_3 rfl (lv_at hl 0 rfl) ?_
  refine lv_iload_n hx hb dL_store_4 rfl (lv_at hl 1 rfl) ?_
  refine lv_iload_n hx hb dL_store_5 rfl (lv_at hl 2 rfl) ?_
  refine lv_iload_n hx hb dL_store_6 rfl (lv_at hl 3 rfl) ?_
  refine va_calli (va_runV (As := [.int (nI a), .int (nI i), .int (nI e1)]) (rest := [.int (nI 0), .ref o]) ⟨hx, hb, hml, hown, hts⟩ (c_X4_store_new l D cI (Ao A o) ad σ a i e1 hI ha hi he1 hsa hsi hse hfd hfl) (cwV 3 hts gL_store_X4_store rfl rfl rfl (by decide +kernel) ⟨Nat.le_of_ble_eq_true rfl, Nat.le_of_ble_eq_true rfl⟩) ⟨Wc.blind, va_recv hK hP (ci := 3) (q0 := 0) rfl rfl, fun U hU hW => ⟨rfl, Wc.go hP hK hD hN hZ va_S.rf hU hW⟩⟩ rfl rfl hl.1 rfl (lv_room (Nat.le_of_ble_eq_true rfl)) dL_store_7 ⟨Nat.le_of_ble_eq_true rfl, Nat.le_of_ble_eq_true rfl⟩) hS (fun q _ h => h.1) (fun q h => h.1) (fun r u t H1 locs1 ht hvm hw hB hz hk hS1 => ?_)
  obtain ⟨rfl, hu⟩ := hw
  obtain ⟨hP1, -, hD1, -, -⟩ := hB
  rw [ht] at hP1
  have hPo1 := WO.keep hPo hk
  refine lv_i2l (v := (nI (σ 0 1)).toInt64) hx hb dL_store_10 rfl ?_
  refine va_last hx hb hKo (va_P.app hP1 hPo1) (WO.dis (cL := cL) (f := f) hD1 hAo) hS1 16 1 rfl rfl (vp_in_nI (by decide) (by decide)) dL_store_11 (fun H2 locs2 hP2 hD2 hS2 => ?_)
  refine lv_goto (tgt := 27) hx hb dL_store_12 (by decide) ?_
  refine lv_iconst (v := nI 0) hx hb dL_store_27 (by decide) ?_
  exact w_widen (k := 1) (n := 6) (by decide) (by decide) (vx_ret (W.iret (v := nI 0) hx hb hr (fun t ht hW => ⟨⟨_, (u, vp_updL f (nI 0).toNatClampNeg (nI (σ 0 1)).toInt64), rfl, ⟨rfl, hu, upL0 (f := f) (v := (nI (σ 0 1)).toInt64)⟩, by rw [ht]; exact hP2.sub [0, 1, 2, 3, 4, 5, 6, 7, 8, 9, 10, 11, 12, 13, 14, 15] rfl, hD1, by rw [ht]; exact hP2.sub [16] rfl⟩, hS2.F ht⟩) hS2.2.2 dL_store_28))
set_option maxHeartbeats 4000000 in
set_option maxRecDepth 100000 in
theorem c_L_literal_ok (l : Launch) (hlt : l.stackTraces = false) (D : va_G) (cI cL : ClassId) (A : Nat → Prop) (ad : Nat → Nat) (σ : Nat → Nat → Nat) (o : Nat) (f : Nat → Int64) (t1 u1 : Nat) (b : Bool) (hI : IC σ) (ht : t1 < σ 0 1) (hu : u1 < σ 0 1) (hsu : σ 6 t1 = σ 6 u1) (hd3 : σ 0 0 < 3) : vx_Met l yL_literal wsL_literal rL (va_Pc [.ref (ad 0), .int (nI t1), .int (nI u1), .int (bI b), .ref o] (Wo D cI cL A ad σ o f)) (va_Qi (fun r u => r = nI 0 ∧ u.1 = sU (sU σ 3 (σ 0 0) (litF t1 u1 b)) 0 0 (σ 0 0 + 1) ∧ u.2 0 = (nI (σ 0 0 + 1)).toInt64) (Bo D cI cL A ad o) A) (fun _ _ _ => False) 1 6 A := by
  refine vx_ofWH (cc := cL_literal) (maxL := 6) (ret := (some .int)) (hh := [(0, 12, 15, 13), (0, 12, 19, 15), (0, 12, 23, 27)]) (by decide) rfl ?_
  intro p e s m args below meth c s₁ B hml hv
  obtain ⟨rfl, ⟨⟨hP, hK, hD, hN, hZ⟩, hTh, hTw⟩, hPo, hKo, hAo, hNx⟩ := hv
  have hx := B.exec
  have hb := B.bytes
  have hr := B.returns
  have hts := atoms_spec (ws := wsL_literal) B.pre
  have hown : s.vm.findClass RL = some m.cls := findClass_of_methodNamed B.named
  have htb := vx_table (x := yL_literal) B (hts _ List.mem_cons_self)
  have hS : va_S A s.heap s.heap [] := va_S.rf
  have hl := lv_entry ([.ref (ad 0), .int (nI t1), .int (nI u1), .int (bI b), .ref o]) (n := 6) (Nat.le_of_ble_eq_true rfl)
  rw [lg_entry_eq]
  generalize (lg_sl ([.ref (ad 0), .int (nI t1), .int (nI u1), .int (bI b), .ref o]) ++ List.replicate (6 - (lg_sl ([.ref (ad 0), .int (nI t1), .int (nI u1), .int (bI b), .ref o])).length) Slot.unset).toArray = ls at hl ⊢
  have hl : lv_has ls 6 [(0, .ref (ad 0)), (1, .int (nI t1)), (2, .int (nI u1)), (3, .int (bI b)), (4, .ref o)] := hl
  refine lv_aload hx hb dL_literal_0 (lv_at hl 4 rfl) ?_
  refine lv_iconst (v := nI 0) hx hb dL_literal_2 (by decide) ?_
  refine lv_aload_n hx hb dL_literal_3 rfl (lv_at hl 0 rfl) ?_
  refine lv_iload_n hx hb dL_literal_4 rfl (lv_at hl 1 rfl) ?_
  refine lv_iload_n hx hb dL_literal_5 rfl (lv_at hl 2 rfl) ?_
  refine lv_iload_n hx hb dL_literal_6 rfl (lv_at hl 3 rfl) ?_
  refine va_calli (va_runV (As := [.int (nI t1), .int (nI u1), .int (bI b)]) (rest := [.int (nI 0), .ref o]) ⟨hx, hb, hml, hown, hts⟩ (c_X4_literal_ok l D cI (Ao A o) ad σ t1 u1 b hI ht hu hsu hd3) (cwV 3 hts gL_literal_X4_literal rfl rfl rfl (by decide +kernel) ⟨Nat.le_of_ble_eq_true rfl, Nat.le_of_ble_eq_true rfl⟩) ⟨Wc.blind, va_recv hK hP (ci := 3) (q0 := 0) rfl rfl, fun U hU hW => ⟨rfl, Wc.go hP hK hD hN hZ va_S.rf hU hW⟩⟩ rfl rfl hl.1 rfl (lv_room (Nat.le_of_ble_eq_true rfl)) dL_literal_7 ⟨Nat.le_of_ble_eq_true rfl, Nat.le_of_ble_eq_true rfl⟩) hS (fun q _ h => h.1) (fun q h => h.1) (fun r u t H1 locs1 ht hvm hw hB hz hk hS1 => ?_)
  obtain ⟨rfl, hu⟩ := hw
  obtain ⟨hP1, -, hD1, -, -⟩ := hB
  rw [ht] at hP1
  have hPo1 := WO.keep hPo hk
  refine lv_i2l (v := (nI (σ 0 0 + 1)).toInt64) hx hb dL_literal_10 rfl ?_
  refine va_last hx hb hKo (va_P.app hP1 hPo1) (WO.dis (cL := cL) (f := f) hD1 hAo) hS1 16 1 rfl rfl (vp_in_nI (by decide) (by decide)) dL_literal_11 (fun H2 locs2 hP2 hD2 hS2 => ?_)
  refine lv_goto (tgt := 27) hx hb dL_literal_12 (by decide) ?_
  refine lv_iconst (v := nI 0) hx hb dL_literal_27 (by decide) ?_
  exact w_widen (k := 1) (n := 6) (by decide) (by decide) (vx_ret (W.iret (v := nI 0) hx hb hr (fun t ht hW => ⟨⟨_, (u, vp_updL f (nI 0).toNatClampNeg (nI (σ 0 0 + 1)).toInt64), rfl, ⟨rfl, hu, upL0 (f := f) (v := (nI (σ 0 0 + 1)).toInt64)⟩, by rw [ht]; exact hP2.sub [0, 1, 2, 3, 4, 5, 6, 7, 8, 9, 10, 11, 12, 13, 14, 15] rfl, hD1, by rw [ht]; exact hP2.sub [16] rfl⟩, hS2.F ht⟩) hS2.2.2 dL_literal_28))
set_option maxHeartbeats 4000000 in
set_option maxRecDepth 100000 in
theorem c_L_claim_ok (l : Launch) (hlt : l.stackTraces = false) (D : va_G) (cI cL : ClassId) (A : Nat → Prop) (ad : Nat → Nat) (σ : Nat → Nat → Nat) (o : Nat) (f : Nat → Int64)  (hI : IC σ) (hd0 : σ 0 0 ≠ 0) (hc8 : σ 0 2 < 8) : vx_Met l yL_claim wsL_claim rL (va_Pc [.ref (ad 0), .ref o] (Wo D cI cL A ad σ o f)) (va_Qi (fun r u => r = nI 0 ∧ ∃ r1 : Int32, (r1 = nI (σ 0 2) ∧ u.1 = sU (addMF σ 0 (σ 0 0)) 0 0 0) ∧ u.2 0 = r1.toInt64) (Bo D cI cL A ad o) A) (fun _ _ _ => False) 1 6 A := by
  refine vx_ofWH (cc := cL_claim) (maxL := 3) (ret := (some .int)) (hh := [(0, 8, 11, 27), (0, 8, 14, 17)]) (by decide) rfl ?_
  intro p e s m args below meth c s₁ B hml hv
  obtain ⟨rfl, ⟨⟨hP, hK, hD, hN, hZ⟩, hTh, hTw⟩, hPo, hKo, hAo, hNx⟩ := hv
  have hx := B.exec
  have hb := B.bytes
  have hr := B.returns
  have hts := atoms_spec (ws := wsL_claim) B.pre
  have hown : s.vm.findClass RL = some m.cls := findClass_of_methodNamed B.named
  have htb := vx_table (x := yL_claim) B (hts _ List.mem_cons_self)
  have hS : va_S A s.heap s.heap [] := va_S.rf
  have hl := lv_entry ([.ref (ad 0), .ref o]) (n := 3) (Nat.le_of_ble_eq_true rfl)
  rw [lg_entry_eq]
  generalize (lg_sl ([.ref (ad 0), .ref o]) ++ List.replicate (3 - (lg_sl ([.ref (ad 0), .ref o])).length) Slot.unset).toArray = ls at hl ⊢
  have hl : lv_has ls 3 [(0, .ref (ad 0)), (1, .ref o)] := hl
  refine lv_aload_n hx hb dL_claim_0 rfl (lv_at hl 1 rfl) ?_
  refine lv_iconst (v := nI 0) hx hb dL_claim_1 (by decide) ?_
  refine lv_aload_n hx hb dL_claim_2 rfl (lv_at hl 0 rfl) ?_
  refine va_calli (va_runV (As := []) (rest := [.int (nI 0), .ref o]) ⟨hx, hb, hml, hown, hts⟩ (c_X4_claim_ok l D cI (Ao A o) ad σ  hI hd0 hc8) (cwV 0 hts gL_claim_X4_claim rfl rfl rfl (by decide +kernel) ⟨Nat.le_of_ble_eq_true rfl, Nat.le_of_ble_eq_true rfl⟩) ⟨Wc.blind, va_recv hK hP (ci := 3) (q0 := 0) rfl rfl, fun U hU hW => ⟨rfl, Wc.go hP hK hD hN hZ va_S.rf hU hW⟩⟩ rfl rfl hl.1 rfl (lv_room (Nat.le_of_ble_eq_true rfl)) dL_claim_3 ⟨Nat.le_of_ble_eq_true rfl, Nat.le_of_ble_eq_true rfl⟩) hS (fun q _ h => h.1) (fun q h => h.1) (fun r u t H1 locs1 ht hvm hw hB hz hk hS1 => ?_)
  obtain ⟨hP1, -, hD1, -, -⟩ := hB
  rw [ht] at hP1
  have hPo1 := WO.keep hPo hk
  refine lv_i2l (v := r.toInt64) hx hb dL_claim_6 rfl ?_
  refine va_last hx hb hKo (va_P.app hP1 hPo1) (WO.dis (cL := cL) (f := f) hD1 hAo) hS1 16 1 rfl rfl (vp_in_nI (by decide) (by decide)) dL_claim_7 (fun H2 locs2 hP2 hD2 hS2 => ?_)
  refine lv_goto (tgt := 17) hx hb dL_claim_8 (by decide) ?_
  refine lv_iconst (v := nI 0) hx hb dL_claim_17 (by decide) ?_
  exact w_widen (k := 1) (n := 6) (by decide) (by decide) (vx_ret (W.iret (v := nI 0) hx hb hr (fun t ht hW => ⟨⟨_, (u, vp_updL f (nI 0).toNatClampNeg r.toInt64), rfl, ⟨rfl, r, hw, upL0 (f := f) (v := r.toInt64)⟩, by rw [ht]; exact hP2.sub [0, 1, 2, 3, 4, 5, 6, 7, 8, 9, 10, 11, 12, 13, 14, 15] rfl, hD1, by rw [ht]; exact hP2.sub [16] rfl⟩, hS2.F ht⟩) hS2.2.2 dL_claim_18))
set_option maxHeartbeats 4000000 in
set_option maxRecDepth 100000 in
theorem c_L_without_ok (l : Launch) (hlt : l.stackTraces = false) (D : va_G) (cI cL : ClassId) (A : Nat → Prop) (ad : Nat → Nat) (σ : Nat → Nat → Nat) (o : Nat) (f : Nat → Int64) (k : Nat) (hI : IC σ) (hW0 : WF σ) (hM0 : MadeW σ) (hk : k < σ 0 2) : vx_Met l yL_without wsL_without rL (va_Pc [.ref (ad 0), .int (nI k), .ref o] (Wo D cI cL A ad σ o f)) (va_Qi (fun r u => r = nI 0 ∧ ∃ r1 : Int32, (r1 = bI (canB σ (σ 0 2) (k + 1)) ∧ KS σ u.1) ∧ u.2 0 = r1.toInt64) (Bo D cI cL A ad o) A) (fun _ _ _ => False) 1 6 A := by
  refine vx_ofWH (cc := cL_without) (maxL := 4) (ret := (some .int)) (hh := [(0, 16, 19, 13)]) (by decide) rfl ?_
  intro p e s m args below meth c s₁ B hml hv
  obtain ⟨rfl, ⟨⟨hP, hK, hD, hN, hZ⟩, hTh, hTw⟩, hPo, hKo, hAo, hNx⟩ := hv
  have hx := B.exec
  have hb := B.bytes
  have hr := B.returns
  have hts := atoms_spec (ws := wsL_without) B.pre
  have hown : s.vm.findClass RL = some m.cls := findClass_of_methodNamed B.named
  have htb := vx_table (x := yL_without) B (hts _ List.mem_cons_self)
  have hS : va_S A s.heap s.heap [] := va_S.rf
  have hl := lv_entry ([.ref (ad 0), .int (nI k), .ref o]) (n := 4) (Nat.le_of_ble_eq_true rfl)
  rw [lg_entry_eq]
  generalize (lg_sl ([.ref (ad 0), .int (nI k), .ref o]) ++ List.replicate (4 - (lg_sl ([.ref (ad 0), .int (nI k), .ref o])).length) Slot.unset).toArray = ls at hl ⊢
  have hl : lv_has ls 4 [(0, .ref (ad 0)), (1, .int (nI k)), (2, .ref o)] := hl
  refine lv_aload_n hx hb dL_without_0 rfl (lv_at hl 2 rfl) ?_
  refine lv_iconst (v := nI 0) hx hb dL_without_1 (by decide) ?_
  refine lv_aload_n hx hb dL_without_2 rfl (lv_at hl 0 rfl) ?_
  refine lv_iload_n hx hb dL_without_3 rfl (lv_at hl 1 rfl) ?_
  refine va_calli (va_runV (As := [.int (nI k)]) (rest := [.int (nI 0), .ref o]) ⟨hx, hb, hml, hown, hts⟩ (c_X4_without_ok l D cI (Ao A o) ad σ k hI hW0 hM0 hk) (cwV 1 hts gL_without_X4_without rfl rfl rfl (by decide +kernel) ⟨Nat.le_of_ble_eq_true rfl, Nat.le_of_ble_eq_true rfl⟩) ⟨Wc.blind, va_recv hK hP (ci := 3) (q0 := 0) rfl rfl, fun U hU hW => ⟨rfl, Wc.go hP hK hD hN hZ va_S.rf hU hW⟩⟩ rfl rfl hl.1 rfl (lv_room (Nat.le_of_ble_eq_true rfl)) dL_without_4 ⟨Nat.le_of_ble_eq_true rfl, Nat.le_of_ble_eq_true rfl⟩) hS (fun q _ h => h.1) (fun q h => h.1) (fun r u t H1 locs1 ht hvm hw hB hz hk hS1 => ?_)
  obtain ⟨hP1, -, hD1, -, -⟩ := hB
  rw [ht] at hP1
  have hPo1 := WO.keep hPo hk
  obtain ⟨rfl, hks⟩ := hw
  refine q_if_eq hx hb (tgt := 14) (bI_z (b := (canB σ (σ 0 2) (k + 1)))) dL_without_7 (by decide) (fun c_z => ?_) (fun c_z => ?_)
  · refine lv_lconst (v := 0) hx hb dL_without_14 (by decide) ?_
    refine va_last hx hb hKo (va_P.app hP1 hPo1) (WO.dis (cL := cL) (f := f) hD1 hAo) hS1 16 1 rfl rfl (vp_in_nI (by decide) (by decide)) dL_without_15 (fun H2 locs2 hP2 hD2 hS2 => ?_)
    refine lv_goto (tgt := 22) hx hb dL_without_16 (by decide) ?_
    refine lv_iconst (v := nI 0) hx hb dL_without_22 (by decide) ?_
    exact w_widen (k := 1) (n := 6) (by decide) (by decide) (vx_ret (W.iret (v := nI 0) hx hb hr (fun t ht hW => ⟨⟨_, (u, vp_updL f (nI 0).toNatClampNeg 0), rfl, ⟨rfl, bI (canB σ (σ 0 2) (k + 1)), ⟨rfl, hks⟩, by rw [c_z]; exact upL0 (f := f) (v := 0)⟩, by rw [ht]; exact hP2.sub [0, 1, 2, 3, 4, 5, 6, 7, 8, 9, 10, 11, 12, 13, 14, 15] rfl, hD1, by rw [ht]; exact hP2.sub [16] rfl⟩, hS2.F ht⟩) hS2.2.2 dL_without_23))
  · refine lv_lconst (v := 1) hx hb dL_without_10 (by decide) ?_
    refine lv_goto (tgt := 15) hx hb dL_without_11 (by decide) ?_
    refine va_last hx hb hKo (va_P.app hP1 hPo1) (WO.dis (cL := cL) (f := f) hD1 hAo) hS1 16 1 rfl rfl (vp_in_nI (by decide) (by decide)) dL_without_15 (fun H2 locs2 hP2 hD2 hS2 => ?_)
    refine lv_goto (tgt := 22) hx hb dL_without_16 (by decide) ?_
    refine lv_iconst (v := nI 0) hx hb dL_without_22 (by decide) ?_
    exact w_widen (k := 1) (n := 6) (by decide) (by decide) (vx_ret (W.iret (v := nI 0) hx hb hr (fun t ht hW => ⟨⟨_, (u, vp_updL f (nI 0).toNatClampNeg 1), rfl, ⟨rfl, bI (canB σ (σ 0 2) (k + 1)), ⟨rfl, hks⟩, by rw [(Bool.not_eq_false _).mp c_z]; exact upL0 (f := f) (v := 1)⟩, by rw [ht]; exact hP2.sub [0, 1, 2, 3, 4, 5, 6, 7, 8, 9, 10, 11, 12, 13, 14, 15] rfl, hD1, by rw [ht]; exact hP2.sub [16] rfl⟩, hS2.F ht⟩) hS2.2.2 dL_without_23))
set_option maxHeartbeats 4000000 in
set_option maxRecDepth 100000 in
theorem c_L_same_ok (l : Launch) (hlt : l.stackTraces = false) (D : va_G) (cI cL : ClassId) (A : Nat → Prop) (ad : Nat → Nat) (σ : Nat → Nat → Nat) (o : Nat) (f : Nat → Int64) (t1 u1 : Nat) (hI : IC σ) (ht : t1 < σ 0 1) (hu : u1 < σ 0 1) (hsu : σ 6 t1 = σ 6 u1) (hW0 : WF σ) (hM0 : MadeW σ) (hcan : canXB σ 1 (fun _ => litF t1 u1 true) = true ∨ canXB σ 1 (fun _ => litF t1 u1 false) = true) : vx_Met l yL_same wsL_same rL (va_Pc [.ref (ad 0), .int (nI t1), .int (nI u1), .ref o] (Wo D cI cL A ad σ o f)) (va_Qi (fun r u => r = nI 0 ∧ ∃ r1 : Int32, (((r1 = nI 2 ∧ canXB σ 1 (fun _ => litF t1 u1 true) = true ∧ canXB σ 1 (fun _ => litF t1 u1 false) = true) ∨ (r1 = nI 1 ∧ canXB σ 1 (fun _ => litF t1 u1 true) = true ∧ canXB σ 1 (fun _ => litF t1 u1 false) = false) ∨ (r1 = nI 0 ∧ canXB σ 1 (fun _ => litF t1 u1 true) = false ∧ canXB σ 1 (fun _ => litF t1 u1 false) = true)) ∧ KS σ u.1) ∧ u.2 0 = r1.toInt64) (Bo D cI cL A ad o) A) (fun _ _ _ => False) 1 6 A := by
  refine vx_ofWH (cc := cL_same) (maxL := 5) (ret := (some .int)) (hh := [(0, 10, 13, 13), (0, 10, 17, 15), (0, 10, 21, 27)]) (by decide) rfl ?_
  intro p e s m args below meth c s₁ B hml hv
  obtain ⟨rfl, ⟨⟨hP, hK, hD, hN, hZ⟩, hTh, hTw⟩, hPo, hKo, hAo, hNx⟩ := hv
  have hx := B.exec
  have hb := B.bytes
  have hr := B.returns
  have hts := atoms_spec (ws := wsL_same) B.pre
  have hown : s.vm.findClass RL = some m.cls := findClass_of_methodNamed B.named
  have htb := vx_table (x := yL_same) B (hts _ List.mem_cons_self)
  have hS : va_S A s.heap s.heap [] := va_S.rf
  have hl := lv_entry ([.ref (ad 0), .int (nI t1), .int (nI u1), .ref o]) (n := 5) (Nat.le_of_ble_eq_true rfl)
  rw [lg_entry_eq]
  generalize (lg_sl ([.ref (ad 0), .int (nI t1), .int (nI u1), .ref o]) ++ List.replicate (5 - (lg_sl ([.ref (ad 0), .int (nI t1), .int (nI u1), .ref o])).length) Slot.unset).toArray = ls at hl ⊢
  have hl : lv_has ls 5 [(0, .ref (ad 0)), (1, .int (nI t1)), (2, .int (nI u1)), (3, .ref o)] := hl
  refine lv_aload_n hx hb dL_same_0 rfl (lv_at hl 3 rfl) ?_
  refine lv_iconst (v := nI 0) hx hb dL_same_1 (by decide) ?_
  refine lv_aload_n hx hb dL_same_2 rfl (lv_at hl 0 rfl) ?_
  refine lv_iload_n hx hb dL_same_3 rfl (lv_at hl 1 rfl) ?_
  refine lv_iload_n hx hb dL_same_4 rfl (lv_at hl 2 rfl) ?_
  refine va_calli (va_runV (As := [.int (nI t1), .int (nI u1)]) (rest := [.int (nI 0), .ref o]) ⟨hx, hb, hml, hown, hts⟩ (c_X4_same_ok l D cI (Ao A o) ad σ t1 u1 hI ht hu hsu hW0 hM0 hcan) (cwV 2 hts gL_same_X4_same rfl rfl rfl (by decide +kernel) ⟨Nat.le_of_ble_eq_true rfl, Nat.le_of_ble_eq_true rfl⟩) ⟨Wc.blind, va_recv hK hP (ci := 3) (q0 := 0) rfl rfl, fun U hU hW => ⟨rfl, Wc.go hP hK hD hN hZ va_S.rf hU hW⟩⟩ rfl rfl hl.1 rfl (lv_room (Nat.le_of_ble_eq_true rfl)) dL_same_5 ⟨Nat.le_of_ble_eq_true rfl, Nat.le_of_ble_eq_true rfl⟩) hS (fun q _ h => h.1) (fun q h => h.1) (fun r u t H1 locs1 ht hvm hw hB hz hk hS1 => ?_)
  obtain ⟨hP1, -, hD1, -, -⟩ := hB
  rw [ht] at hP1
  have hPo1 := WO.keep hPo hk
  refine lv_i2l (v := r.toInt64) hx hb dL_same_8 rfl ?_
  refine va_last hx hb hKo (va_P.app hP1 hPo1) (WO.dis (cL := cL) (f := f) hD1 hAo) hS1 16 1 rfl rfl (vp_in_nI (by decide) (by decide)) dL_same_9 (fun H2 locs2 hP2 hD2 hS2 => ?_)
  refine lv_goto (tgt := 25) hx hb dL_same_10 (by decide) ?_
  refine lv_iconst (v := nI 0) hx hb dL_same_25 (by decide) ?_
  exact w_widen (k := 1) (n := 6) (by decide) (by decide) (vx_ret (W.iret (v := nI 0) hx hb hr (fun t ht hW => ⟨⟨_, (u, vp_updL f (nI 0).toNatClampNeg r.toInt64), rfl, ⟨rfl, r, hw, upL0 (f := f) (v := r.toInt64)⟩, by rw [ht]; exact hP2.sub [0, 1, 2, 3, 4, 5, 6, 7, 8, 9, 10, 11, 12, 13, 14, 15] rfl, hD1, by rw [ht]; exact hP2.sub [16] rfl⟩, hS2.F ht⟩) hS2.2.2 dL_same_26))
set_option maxHeartbeats 4000000 in
set_option maxRecDepth 100000 in
theorem c_L_follows_ok (l : Launch) (hlt : l.stackTraces = false) (D : va_G) (cI cL : ClassId) (A : Nat → Prop) (ad : Nat → Nat) (σ : Nat → Nat → Nat) (o : Nat) (f : Nat → Int64)  (hI : IC σ) (hW0 : WF σ) (hM0 : MadeW σ) (hd0 : σ 0 0 ≠ 0) (hD0 : ∀ k, k < σ 0 0 → litW σ (σ 3 k)) : vx_Met l yL_follows wsL_follows rL (va_Pc [.ref (ad 0), .ref o] (Wo D cI cL A ad σ o f)) (va_Qi (fun r u => r = nI 0 ∧ ∃ r1 : Int32, (r1 = bI (!canXB σ (σ 0 0) (fun i => oppF (σ 3 i))) ∧ KS σ u.1) ∧ u.2 0 = r1.toInt64) (Bo D cI cL A ad o) A) (fun _ _ _ => False) 1 6 A := by
  refine vx_ofWH (cc := cL_follows) (maxL := 3) (ret := (some .int)) (hh := [(0, 15, 18, 27)]) (by decide) rfl ?_
  intro p e s m args below meth c s₁ B hml hv
  obtain ⟨rfl, ⟨⟨hP, hK, hD, hN, hZ⟩, hTh, hTw⟩, hPo, hKo, hAo, hNx⟩ := hv
  have hx := B.exec
  have hb := B.bytes
  have hr := B.returns
  have hts := atoms_spec (ws := wsL_follows) B.pre
  have hown : s.vm.findClass RL = some m.cls := findClass_of_methodNamed B.named
  have htb := vx_table (x := yL_follows) B (hts _ List.mem_cons_self)
  have hS : va_S A s.heap s.heap [] := va_S.rf
  have hl := lv_entry ([.ref (ad 0), .ref o]) (n := 3) (Nat.le_of_ble_eq_true rfl)
  rw [lg_entry_eq]
  generalize (lg_sl ([.ref (ad 0), .ref o]) ++ List.replicate (3 - (lg_sl ([.ref (ad 0), .ref o])).length) Slot.unset).toArray = ls at hl ⊢
  have hl : lv_has ls 3 [(0, .ref (ad 0)), (1, .ref o)] := hl
  refine lv_aload_n hx hb dL_follows_0 rfl (lv_at hl 1 rfl) ?_
  refine lv_iconst (v := nI 0) hx hb dL_follows_1 (by decide) ?_
  refine lv_aload_n hx hb dL_follows_2 rfl (lv_at hl 0 rfl) ?_
  refine va_calli (va_runV (As := []) (rest := [.int (nI 0), .ref o]) ⟨hx, hb, hml, hown, hts⟩ (c_X4_follows_ok l D cI (Ao A o) ad σ  hI hW0 hM0 hd0 hD0) (cwV 0 hts gL_follows_X4_follows rfl rfl rfl (by decide +kernel) ⟨Nat.le_of_ble_eq_true rfl, Nat.le_of_ble_eq_true rfl⟩) ⟨Wc.blind, va_recv hK hP (ci := 3) (q0 := 0) rfl rfl, fun U hU hW => ⟨rfl, Wc.go hP hK hD hN hZ va_S.rf hU hW⟩⟩ rfl rfl hl.1 rfl (lv_room (Nat.le_of_ble_eq_true rfl)) dL_follows_3 ⟨Nat.le_of_ble_eq_true rfl, Nat.le_of_ble_eq_true rfl⟩) hS (fun q _ h => h.1) (fun q h => h.1) (fun r u t H1 locs1 ht hvm hw hB hz hk hS1 => ?_)
  obtain ⟨hP1, -, hD1, -, -⟩ := hB
  rw [ht] at hP1
  have hPo1 := WO.keep hPo hk
  obtain ⟨rfl, hks⟩ := hw
  refine q_if_eq hx hb (tgt := 13) (bI_z (b := (!canXB σ (σ 0 0) (fun i => oppF (σ 3 i))))) dL_follows_6 (by decide) (fun c_z => ?_) (fun c_z => ?_)
  · refine lv_lconst (v := 0) hx hb dL_follows_13 (by decide) ?_
    refine va_last hx hb hKo (va_P.app hP1 hPo1) (WO.dis (cL := cL) (f := f) hD1 hAo) hS1 16 1 rfl rfl (vp_in_nI (by decide) (by decide)) dL_follows_14 (fun H2 locs2 hP2 hD2 hS2 => ?_)
    refine lv_goto (tgt := 21) hx hb dL_follows_15 (by decide) ?_
    refine lv_iconst (v := nI 0) hx hb dL_follows_21 (by decide) ?_
    exact w_widen (k := 1) (n := 6) (by decide) (by decide) (vx_ret (W.iret (v := nI 0) hx hb hr (fun t ht hW => ⟨⟨_, (u, vp_updL f (nI 0).toNatClampNeg 0), rfl, ⟨rfl, bI (!canXB σ (σ 0 0) (fun i => oppF (σ 3 i))), ⟨rfl, hks⟩, by rw [c_z]; exact upL0 (f := f) (v := 0)⟩, by rw [ht]; exact hP2.sub [0, 1, 2, 3, 4, 5, 6, 7, 8, 9, 10, 11, 12, 13, 14, 15] rfl, hD1, by rw [ht]; exact hP2.sub [16] rfl⟩, hS2.F ht⟩) hS2.2.2 dL_follows_22))
  · refine lv_lconst (v := 1) hx hb dL_follows_9 (by decide) ?_
    refine lv_goto (tgt := 14) hx hb dL_follows_10 (by decide) ?_
    refine va_last hx hb hKo (va_P.app hP1 hPo1) (WO.dis (cL := cL) (f := f) hD1 hAo) hS1 16 1 rfl rfl (vp_in_nI (by decide) (by decide)) dL_follows_14 (fun H2 locs2 hP2 hD2 hS2 => ?_)
    refine lv_goto (tgt := 21) hx hb dL_follows_15 (by decide) ?_
    refine lv_iconst (v := nI 0) hx hb dL_follows_21 (by decide) ?_
    exact w_widen (k := 1) (n := 6) (by decide) (by decide) (vx_ret (W.iret (v := nI 0) hx hb hr (fun t ht hW => ⟨⟨_, (u, vp_updL f (nI 0).toNatClampNeg 1), rfl, ⟨rfl, bI (!canXB σ (σ 0 0) (fun i => oppF (σ 3 i))), ⟨rfl, hks⟩, by rw [(Bool.not_eq_false _).mp c_z]; exact upL0 (f := f) (v := 1)⟩, by rw [ht]; exact hP2.sub [0, 1, 2, 3, 4, 5, 6, 7, 8, 9, 10, 11, 12, 13, 14, 15] rfl, hD1, by rw [ht]; exact hP2.sub [16] rfl⟩, hS2.F ht⟩) hS2.2.2 dL_follows_22))
set_option maxHeartbeats 4000000 in
set_option maxRecDepth 100000 in
theorem c_L_apart_f_ok (l : Launch) (hlt : l.stackTraces = false) (D : va_G) (cI cL : ClassId) (A : Nat → Prop) (ad : Nat → Nat) (σ : Nat → Nat → Nat) (o : Nat) (f : Nat → Int64)  (hI : IC σ) (hW0 : WF σ) (hM0 : MadeW σ) (hcan : ∃ k, k < 3 ∧ (∃ w, w < 5 ∧ difF w = (1 + k) ∧ SatM σ w (σ 0 2) 0)) : vx_Met l yL_apart wsL_apart rL (va_Pc [.ref (ad 0), .int (nI 1), .ref o] (Wo D cI cL A ad σ o f)) (va_Qi (fun r u => r = nI 0 ∧ ∃ r1 : Int32, ((∃ k, k < 3 ∧ r1 = nI (1 + k) ∧ (∃ w, w < 5 ∧ difF w = (1 + k) ∧ SatM σ w (σ 0 2) 0) ∧ ∀ k1, k1 < k → ¬ (∃ w, w < 5 ∧ difF w = (1 + k1) ∧ SatM σ w (σ 0 2) 0)) ∧ KS σ u.1) ∧ u.2 0 = r1.toInt64) (Bo D cI cL A ad o) A) (fun _ _ _ => False) 1 6 A := by
  refine vx_ofWH (cc := cL_apart) (maxL := 4) (ret := (some .int)) (hh := [(0, 9, 12, 27)]) (by decide) rfl ?_
  intro p e s m args below meth c s₁ B hml hv
  obtain ⟨rfl, ⟨⟨hP, hK, hD, hN, hZ⟩, hTh, hTw⟩, hPo, hKo, hAo, hNx⟩ := hv
  have hx := B.exec
  have hb := B.bytes
  have hr := B.returns
  have hts := atoms_spec (ws := wsL_apart) B.pre
  have hown : s.vm.findClass RL = some m.cls := findClass_of_methodNamed B.named
  have htb := vx_table (x := yL_apart) B (hts _ List.mem_cons_self)
  have hS : va_S A s.heap s.heap [] := va_S.rf
  have hl := lv_entry ([.ref (ad 0), .int (nI 1), .ref o]) (n := 4) (Nat.le_of_ble_eq_true rfl)
  rw [lg_entry_eq]
  generalize (lg_sl ([.ref (ad 0), .int (nI 1), .ref o]) ++ List.replicate (4 - (lg_sl ([.ref (ad 0), .int (nI 1), .ref o])).length) Slot.unset).toArray = ls at hl ⊢
  have hl : lv_has ls 4 [(0, .ref (ad 0)), (1, .int (nI 1)), (2, .ref o)] := hl
  refine lv_aload_n hx hb dL_apart_0 rfl (lv_at hl 2 rfl) ?_
  refine lv_iconst (v := nI 0) hx hb dL_apart_1 (by decide) ?_
  refine lv_aload_n hx hb dL_apart_2 rfl (lv_at hl 0 rfl) ?_
  refine lv_iload_n hx hb dL_apart_3 rfl (lv_at hl 1 rfl) ?_
  refine va_calli (va_runV (As := [.int (nI 1)]) (rest := [.int (nI 0), .ref o]) ⟨hx, hb, hml, hown, hts⟩ (c_X4_apart_f_ok l D cI (Ao A o) ad σ  hI hW0 hM0 hcan) (cwV 1 hts gL_apart_X4_apart rfl rfl rfl (by decide +kernel) ⟨Nat.le_of_ble_eq_true rfl, Nat.le_of_ble_eq_true rfl⟩) ⟨Wc.blind, va_recv hK hP (ci := 3) (q0 := 0) rfl rfl, fun U hU hW => ⟨rfl, Wc.go hP hK hD hN hZ va_S.rf hU hW⟩⟩ rfl rfl hl.1 rfl (lv_room (Nat.le_of_ble_eq_true rfl)) dL_apart_4 ⟨Nat.le_of_ble_eq_true rfl, Nat.le_of_ble_eq_true rfl⟩) hS (fun q _ h => h.1) (fun q h => h.1) (fun r u t H1 locs1 ht hvm hw hB hz hk hS1 => ?_)
  obtain ⟨hP1, -, hD1, -, -⟩ := hB
  rw [ht] at hP1
  have hPo1 := WO.keep hPo hk
  refine lv_i2l (v := r.toInt64) hx hb dL_apart_7 rfl ?_
  refine va_last hx hb hKo (va_P.app hP1 hPo1) (WO.dis (cL := cL) (f := f) hD1 hAo) hS1 16 1 rfl rfl (vp_in_nI (by decide) (by decide)) dL_apart_8 (fun H2 locs2 hP2 hD2 hS2 => ?_)
  refine lv_goto (tgt := 15) hx hb dL_apart_9 (by decide) ?_
  refine lv_iconst (v := nI 0) hx hb dL_apart_15 (by decide) ?_
  exact w_widen (k := 1) (n := 6) (by decide) (by decide) (vx_ret (W.iret (v := nI 0) hx hb hr (fun t ht hW => ⟨⟨_, (u, vp_updL f (nI 0).toNatClampNeg r.toInt64), rfl, ⟨rfl, r, hw, upL0 (f := f) (v := r.toInt64)⟩, by rw [ht]; exact hP2.sub [0, 1, 2, 3, 4, 5, 6, 7, 8, 9, 10, 11, 12, 13, 14, 15] rfl, hD1, by rw [ht]; exact hP2.sub [16] rfl⟩, hS2.F ht⟩) hS2.2.2 dL_apart_16))
set_option maxHeartbeats 4000000 in
set_option maxRecDepth 100000 in
theorem c_L_apart_m_ok (l : Launch) (hlt : l.stackTraces = false) (D : va_G) (cI cL : ClassId) (A : Nat → Prop) (ad : Nat → Nat) (σ : Nat → Nat → Nat) (o : Nat) (f : Nat → Int64)  (hI : IC σ) (hW0 : WF σ) (hM0 : MadeW σ) (hcan : ∃ k, k < 3 ∧ (∃ w, w < 5 ∧ difF w = (3 - k) ∧ SatM σ w (σ 0 2) 0)) : vx_Met l yL_apart wsL_apart rL (va_Pc [.ref (ad 0), .int (nI 0), .ref o] (Wo D cI cL A ad σ o f)) (va_Qi (fun r u => r = nI 0 ∧ ∃ r1 : Int32, ((∃ k, k < 3 ∧ r1 = nI (3 - k) ∧ (∃ w, w < 5 ∧ difF w = (3 - k) ∧ SatM σ w (σ 0 2) 0) ∧ ∀ k1, k1 < k → ¬ (∃ w, w < 5 ∧ difF w = (3 - k1) ∧ SatM σ w (σ 0 2) 0)) ∧ KS σ u.1) ∧ u.2 0 = r1.toInt64) (Bo D cI cL A ad o) A) (fun _ _ _ => False) 1 6 A := by
  refine vx_ofWH (cc := cL_apart) (maxL := 4) (ret := (some .int)) (hh := [(0, 9, 12, 27)]) (by decide) rfl ?_
  intro p e s m args below meth c s₁ B hml hv
  obtain ⟨rfl, ⟨⟨hP, hK, hD, hN, hZ⟩, hTh, hTw⟩, hPo, hKo, hAo, hNx⟩ := hv
  have hx := B.exec
  have hb := B.bytes
  have hr := B.returns
  have hts := atoms_spec (ws := wsL_apart) B.pre
  have hown : s.vm.findClass RL = some m.cls := findClass_of_methodNamed B.named
  have htb := vx_table (x := yL_apart) B (hts _ List.mem_cons_self)
  have hS : va_S A s.heap s.heap [] := va_S.rf
  have hl := lv_entry ([.ref (ad 0), .int (nI 0), .ref o]) (n := 4) (Nat.le_of_ble_eq_true rfl)
  rw [lg_entry_eq]
  generalize (lg_sl ([.ref (ad 0), .int (nI 0), .ref o]) ++ List.replicate (4 - (lg_sl ([.ref (ad 0), .int (nI 0), .ref o])).length) Slot.unset).toArray = ls at hl ⊢
  have hl : lv_has ls 4 [(0, .ref (ad 0)), (1, .int (nI 0)), (2, .ref o)] := hl
  refine lv_aload_n hx hb dL_apart_0 rfl (lv_at hl 2 rfl) ?_
  refine lv_iconst (v := nI 0) hx hb dL_apart_1 (by decide) ?_
  refine lv_aload_n hx hb dL_apart_2 rfl (lv_at hl 0 rfl) ?_
  refine lv_iload_n hx hb dL_apart_3 rfl (lv_at hl 1 rfl) ?_
  refine va_calli (va_runV (As := [.int (nI 0)]) (rest := [.int (nI 0), .ref o]) ⟨hx, hb, hml, hown, hts⟩ (c_X4_apart_m_ok l D cI (Ao A o) ad σ  hI hW0 hM0 hcan) (cwV 1 hts gL_apart_X4_apart rfl rfl rfl (by decide +kernel) ⟨Nat.le_of_ble_eq_true rfl, Nat.le_of_ble_eq_true rfl⟩) ⟨Wc.blind, va_recv hK hP (ci := 3) (q0 := 0) rfl rfl, fun U hU hW => ⟨rfl, Wc.go hP hK hD hN hZ va_S.rf hU hW⟩⟩ rfl rfl hl.1 rfl (lv_room (Nat.le_of_ble_eq_true rfl)) dL_apart_4 ⟨Nat.le_of_ble_eq_true rfl, Nat.le_of_ble_eq_true rfl⟩) hS (fun q _ h => h.1) (fun q h => h.1) (fun r u t H1 locs1 ht hvm hw hB hz hk hS1 => ?_)
  obtain ⟨hP1, -, hD1, -, -⟩ := hB
  rw [ht] at hP1
  have hPo1 := WO.keep hPo hk
  refine lv_i2l (v := r.toInt64) hx hb dL_apart_7 rfl ?_
  refine va_last hx hb hKo (va_P.app hP1 hPo1) (WO.dis (cL := cL) (f := f) hD1 hAo) hS1 16 1 rfl rfl (vp_in_nI (by decide) (by decide)) dL_apart_8 (fun H2 locs2 hP2 hD2 hS2 => ?_)
  refine lv_goto (tgt := 15) hx hb dL_apart_9 (by decide) ?_
  refine lv_iconst (v := nI 0) hx hb dL_apart_15 (by decide) ?_
  exact w_widen (k := 1) (n := 6) (by decide) (by decide) (vx_ret (W.iret (v := nI 0) hx hb hr (fun t ht hW => ⟨⟨_, (u, vp_updL f (nI 0).toNatClampNeg r.toInt64), rfl, ⟨rfl, r, hw, upL0 (f := f) (v := r.toInt64)⟩, by rw [ht]; exact hP2.sub [0, 1, 2, 3, 4, 5, 6, 7, 8, 9, 10, 11, 12, 13, 14, 15] rfl, hD1, by rw [ht]; exact hP2.sub [16] rfl⟩, hS2.F ht⟩) hS2.2.2 dL_apart_16))
set_option maxHeartbeats 4000000 in
set_option maxRecDepth 100000 in
theorem c_L_select_o1 (l : Launch) (hlt : l.stackTraces = false) (D : va_G) (cI cL : ClassId) (A : Nat → Prop) (ad : Nat → Nat) (σ : Nat → Nat → Nat) (o : Nat) (f : Nat → Int64) (a : Int32) (i : Int32) (hc : 7 ≤ σ 0 1 ∧ σ 0 1 ≤ 24) (hxo : a < 0 ∨ nI (σ 0 1) ≤ a) : vx_Met l yL_select wsL_select rL (va_Pc [.ref (ad 0), .int a, .int i, .ref o] (Wo D cI cL A ad σ o f)) (va_Qi (fun r u => r = nI 1 ∧ u.1 = σ ∧ u.2 = f) (Bo D cI cL A ad o) A) (fun _ _ _ => False) 1 6 A := by
  refine vx_ofWH (cc := cL_select) (maxL := 5) (ret := (some .int)) (hh := [(0, 10, 13, 13), (0, 10, 17, 15), (0, 10, 21, 17)]) (by decide) rfl ?_
  intro p e s m args below meth c s₁ B hml hv
  obtain ⟨rfl, ⟨⟨hP, hK, hD, hN, hZ⟩, hTh, hTw⟩, hPo, hKo, hAo, hNx⟩ := hv
  have hx := B.exec
  have hb := B.bytes
  have hr := B.returns
  have hts := atoms_spec (ws := wsL_select) B.pre
  have hown : s.vm.findClass RL = some m.cls := findClass_of_methodNamed B.named
  have htb := vx_table (x := yL_select) B (hts _ List.mem_cons_self)
  have hS : va_S A s.heap s.heap [] := va_S.rf
  have hl := lv_entry ([.ref (ad 0), .int a, .int i, .ref o]) (n := 5) (Nat.le_of_ble_eq_true rfl)
  rw [lg_entry_eq]
  generalize (lg_sl ([.ref (ad 0), .int a, .int i, .ref o]) ++ List.replicate (5 - (lg_sl ([.ref (ad 0), .int a, .int i, .ref o])).length) Slot.unset).toArray = ls at hl ⊢
  have hl : lv_has ls 5 [(0, .ref (ad 0)), (1, .int a), (2, .int i), (3, .ref o)] := hl
  refine lv_aload_n hx hb dL_select_0 rfl (lv_at hl 3 rfl) ?_
  refine lv_iconst (v := nI 0) hx hb dL_select_1 (by decide) ?_
  refine lv_aload_n hx hb dL_select_2 rfl (lv_at hl 0 rfl) ?_
  refine lv_iload_n hx hb dL_select_3 rfl (lv_at hl 1 rfl) ?_
  refine lv_iload_n hx hb dL_select_4 rfl (lv_at hl 2 rfl) ?_
  exact vx_calli (vx_runV (As := [.int a, .int i]) (rest := [.int (nI 0), .ref o]) ⟨hx, hb, hml, hown, hts⟩ (x_X4_select_o1 l hlt D cI (Ao A o) ad σ a i hc hxo) (cwV 2 hts gL_select_X4_select rfl rfl rfl (by decide +kernel) ⟨Nat.le_of_ble_eq_true rfl, Nat.le_of_ble_eq_true rfl⟩) ⟨Wx.blind, va_recv hK hP (ci := 3) (q0 := 0) rfl rfl, fun U hU hW => ⟨rfl, Wx.go hP hK hD hN hZ hTh hTw va_S.rf hU hW⟩⟩ rfl rfl hl.1 rfl (lv_room (Nat.le_of_ble_eq_true rfl)) dL_select_5 ⟨Nat.le_of_ble_eq_true rfl, Nat.le_of_ble_eq_true rfl⟩) hS (fun q _ h => h.1) (fun q h => h.1) (fun q _ h => h.1) (fun E9 ce9 q9 u9 t9 H9 locs9 ht9 hvm9 hpx9 hB9 hz9 hk9 hS9 hce9 hcv9 hcl9 => by
    obtain ⟨hE9, hP9, hD9⟩ := hB9
    rw [ht9] at hP9
    subst hE9
    have hPo9 := WO.keep hPo hk9
    refine vx_catch hown (own := RL) [] _ _ htb (fun z hz => nomatch hz) (by decide) (by decide) (name := "java/lang/IndexOutOfBoundsException") (hts _ (by decide +kernel)) (tw_cast hTw (by decide +kernel)) hce9 hcv9 hcl9 ?_
    refine lv_astore hx hb dL_select_13 hl (by decide) rfl (fun ls2 hl2 => ?_)
    refine lv_iconst (v := nI 1) hx hb dL_select_15 (by decide) ?_
    exact vx_ret (W.iret (v := nI 1) hx hb hr (fun t ht hW => ⟨⟨_, (u9, f), rfl, ⟨rfl, hpx9, rfl⟩, by rw [ht]; exact hP9, hD9, by rw [ht]; exact hPo9⟩, hS9.F ht⟩) hS9.2.2 dL_select_16)) (fun r u t H1 locs1 ht hvm hw => hw.elim)
set_option maxHeartbeats 4000000 in
set_option maxRecDepth 100000 in
theorem c_L_select_o2 (l : Launch) (hlt : l.stackTraces = false) (D : va_G) (cI cL : ClassId) (A : Nat → Prop) (ad : Nat → Nat) (σ : Nat → Nat → Nat) (o : Nat) (f : Nat → Int64) (a : Nat) (i : Int32) (hc : 7 ≤ σ 0 1 ∧ σ 0 1 ≤ 24) (ha : a < σ 0 1) (hxo : i < 0 ∨ nI (σ 0 1) ≤ i) : vx_Met l yL_select wsL_select rL (va_Pc [.ref (ad 0), .int (nI a), .int i, .ref o] (Wo D cI cL A ad σ o f)) (va_Qi (fun r u => r = nI 1 ∧ u.1 = σ ∧ u.2 = f) (Bo D cI cL A ad o) A) (fun _ _ _ => False) 1 6 A := by
  refine vx_ofWH (cc := cL_select) (maxL := 5) (ret := (some .int)) (hh := [(0, 10, 13, 13), (0, 10, 17, 15), (0, 10, 21, 17)]) (by decide) rfl ?_
  intro p e s m args below meth c s₁ B hml hv
  obtain ⟨rfl, ⟨⟨hP, hK, hD, hN, hZ⟩, hTh, hTw⟩, hPo, hKo, hAo, hNx⟩ := hv
  have hx := B.exec
  have hb := B.bytes
  have hr := B.returns
  have hts := atoms_spec (ws := wsL_select) B.pre
  have hown : s.vm.findClass RL = some m.cls := findClass_of_methodNamed B.named
  have htb := vx_table (x := yL_select) B (hts _ List.mem_cons_self)
  have hS : va_S A s.heap s.heap [] := va_S.rf
  have hl := lv_entry ([.ref (ad 0), .int (nI a), .int i, .ref o]) (n := 5) (Nat.le_of_ble_eq_true rfl)
  rw [lg_entry_eq]
  generalize (lg_sl ([.ref (ad 0), .int (nI a), .int i, .ref o]) ++ List.replicate (5 - (lg_sl ([.ref (ad 0), .int (nI a), .int i, .ref o])).length) Slot.unset).toArray = ls at hl ⊢
  have hl : lv_has ls 5 [(0, .ref (ad 0)), (1, .int (nI a)), (2, .int i), (3, .ref o)] := hl
  refine lv_aload_n hx hb dL_select_0 rfl (lv_at hl 3 rfl) ?_
  refine lv_iconst (v := nI 0) hx hb dL_select_1 (by decide) ?_
  refine lv_aload_n hx hb dL_select_2 rfl (lv_at hl 0 rfl) ?_
  refine lv_iload_n hx hb dL_select_3 rfl (lv_at hl 1 rfl) ?_
  refine lv_iload_n hx hb dL_select_4 rfl (lv_at hl 2 rfl) ?_
  exact vx_calli (vx_runV (As := [.int (nI a), .int i]) (rest := [.int (nI 0), .ref o]) ⟨hx, hb, hml, hown, hts⟩ (x_X4_select_o2 l hlt D cI (Ao A o) ad σ a i hc ha hxo) (cwV 2 hts gL_select_X4_select rfl rfl rfl (by decide +kernel) ⟨Nat.le_of_ble_eq_true rfl, Nat.le_of_ble_eq_true rfl⟩) ⟨Wx.blind, va_recv hK hP (ci := 3) (q0 := 0) rfl rfl, fun U hU hW => ⟨rfl, Wx.go hP hK hD hN hZ hTh hTw va_S.rf hU hW⟩⟩ rfl rfl hl.1 rfl (lv_room (Nat.le_of_ble_eq_true rfl)) dL_select_5 ⟨Nat.le_of_ble_eq_true rfl, Nat.le_of_ble_eq_true rfl⟩) hS (fun q _ h => h.1) (fun q h => h.1) (fun q _ h => h.1) (fun E9 ce9 q9 u9 t9 H9 locs9 ht9 hvm9 hpx9 hB9 hz9 hk9 hS9 hce9 hcv9 hcl9 => by
    obtain ⟨hE9, hP9, hD9⟩ := hB9
    rw [ht9] at hP9
    subst hE9
    have hPo9 := WO.keep hPo hk9
    refine vx_catch hown (own := RL) [] _ _ htb (fun z hz => nomatch hz) (by decide) (by decide) (name := "java/lang/IndexOutOfBoundsException") (hts _ (by decide +kernel)) (tw_cast hTw (by decide +kernel)) hce9 hcv9 hcl9 ?_
    refine lv_astore hx hb dL_select_13 hl (by decide) rfl (fun ls2 hl2 => ?_)
    refine lv_iconst (v := nI 1) hx hb dL_select_15 (by decide) ?_
    exact vx_ret (W.iret (v := nI 1) hx hb hr (fun t ht hW => ⟨⟨_, (u9, f), rfl, ⟨rfl, hpx9, rfl⟩, by rw [ht]; exact hP9, hD9, by rw [ht]; exact hPo9⟩, hS9.F ht⟩) hS9.2.2 dL_select_16)) (fun r u t H1 locs1 ht hvm hw => hw.elim)
set_option maxHeartbeats 4000000 in
set_option maxRecDepth 100000 in
theorem c_L_select_sort (l : Launch) (hlt : l.stackTraces = false) (D : va_G) (cI cL : ClassId) (A : Nat → Prop) (ad : Nat → Nat) (σ : Nat → Nat → Nat) (o : Nat) (f : Nat → Int64) (a i : Nat) (hI : IC σ) (ha : a < σ 0 1) (hi : i < σ 0 1) (hbad : σ 6 a ≠ 2 ∨ σ 6 i ≠ 0) : vx_Met l yL_select wsL_select rL (va_Pc [.ref (ad 0), .int (nI a), .int (nI i), .ref o] (Wo D cI cL A ad σ o f)) (va_Qi (fun r u => r = nI 2 ∧ u.1 = σ ∧ u.2 = f) (Bo D cI cL A ad o) A) (fun _ _ _ => False) 1 6 A := by
  refine vx_ofWH (cc := cL_select) (maxL := 5) (ret := (some .int)) (hh := [(0, 10, 13, 13), (0, 10, 17, 15), (0, 10, 21, 17)]) (by decide) rfl ?_
  intro p e s m args below meth c s₁ B hml hv
  obtain ⟨rfl, ⟨⟨hP, hK, hD, hN, hZ⟩, hTh, hTw⟩, hPo, hKo, hAo, hNx⟩ := hv
  have hx := B.exec
  have hb := B.bytes
  have hr := B.returns
  have hts := atoms_spec (ws := wsL_select) B.pre
  have hown : s.vm.findClass RL = some m.cls := findClass_of_methodNamed B.named
  have htb := vx_table (x := yL_select) B (hts _ List.mem_cons_self)
  have hS : va_S A s.heap s.heap [] := va_S.rf
  have hl := lv_entry ([.ref (ad 0), .int (nI a), .int (nI i), .ref o]) (n := 5) (Nat.le_of_ble_eq_true rfl)
  rw [lg_entry_eq]
  generalize (lg_sl ([.ref (ad 0), .int (nI a), .int (nI i), .ref o]) ++ List.replicate (5 - (lg_sl ([.ref (ad 0), .int (nI a), .int (nI i), .ref o])).length) Slot.unset).toArray = ls at hl ⊢
  have hl : lv_has ls 5 [(0, .ref (ad 0)), (1, .int (nI a)), (2, .int (nI i)), (3, .ref o)] := hl
  refine lv_aload_n hx hb dL_select_0 rfl (lv_at hl 3 rfl) ?_
  refine lv_iconst (v := nI 0) hx hb dL_select_1 (by decide) ?_
  refine lv_aload_n hx hb dL_select_2 rfl (lv_at hl 0 rfl) ?_
  refine lv_iload_n hx hb dL_select_3 rfl (lv_at hl 1 rfl) ?_
  refine lv_iload_n hx hb dL_select_4 rfl (lv_at hl 2 rfl) ?_
  exact vx_calli (vx_runV (As := [.int (nI a), .int (nI i)]) (rest := [.int (nI 0), .ref o]) ⟨hx, hb, hml, hown, hts⟩ (x_X4_select_sort l hlt D cI (Ao A o) ad σ a i hI ha hi hbad) (cwV 2 hts gL_select_X4_select rfl rfl rfl (by decide +kernel) ⟨Nat.le_of_ble_eq_true rfl, Nat.le_of_ble_eq_true rfl⟩) ⟨Wx.blind, va_recv hK hP (ci := 3) (q0 := 0) rfl rfl, fun U hU hW => ⟨rfl, Wx.go hP hK hD hN hZ hTh hTw va_S.rf hU hW⟩⟩ rfl rfl hl.1 rfl (lv_room (Nat.le_of_ble_eq_true rfl)) dL_select_5 ⟨Nat.le_of_ble_eq_true rfl, Nat.le_of_ble_eq_true rfl⟩) hS (fun q _ h => h.1) (fun q h => h.1) (fun q _ h => h.1) (fun E9 ce9 q9 u9 t9 H9 locs9 ht9 hvm9 hpx9 hB9 hz9 hk9 hS9 hce9 hcv9 hcl9 => by
    obtain ⟨hE9, hP9, hD9⟩ := hB9
    rw [ht9] at hP9
    subst hE9
    have hPo9 := WO.keep hPo hk9
    refine vx_catch hown (own := RL) [⟨0, 10, 13, 13⟩] _ _ htb (fun z hz => by
      rcases List.mem_cons.mp hz with rfl | hz
      · exact Or.inr ⟨by decide, _, hts _ (List.mem_cons_of_mem _ (by decide +kernel) : Cond.classLink RL 13 "java/lang/IndexOutOfBoundsException" ∈ wsL_select), hNx _ (by decide) _ (by decide) (by decide)⟩
      · exact nomatch hz) (by decide) (by decide) (name := "java/lang/IllegalArgumentException") (hts _ (by decide +kernel)) (tw_cast hTw (by decide +kernel)) hce9 hcv9 hcl9 ?_
    refine lv_astore hx hb dL_select_17 hl (by decide) rfl (fun ls2 hl2 => ?_)
    refine lv_iconst (v := nI 2) hx hb dL_select_19 (by decide) ?_
    exact vx_ret (W.iret (v := nI 2) hx hb hr (fun t ht hW => ⟨⟨_, (u9, f), rfl, ⟨rfl, hpx9, rfl⟩, by rw [ht]; exact hP9, hD9, by rw [ht]; exact hPo9⟩, hS9.F ht⟩) hS9.2.2 dL_select_20)) (fun r u t H1 locs1 ht hvm hw => hw.elim)
set_option maxHeartbeats 4000000 in
set_option maxRecDepth 100000 in
theorem c_L_select_full (l : Launch) (hlt : l.stackTraces = false) (D : va_G) (cI cL : ClassId) (A : Nat → Prop) (ad : Nat → Nat) (σ : Nat → Nat → Nat) (o : Nat) (f : Nat → Int64) (a i : Nat) (hI : IC σ) (ha : a < σ 0 1) (hi : i < σ 0 1) (hsa : σ 6 a = 2) (hsi : σ 6 i = 0) (hfd : findF σ 1 (a + 1) (i + 1) 0 (σ 0 1 - 7) 7 = 0) (hfl : σ 0 1 = 24) : vx_Met l yL_select wsL_select rL (va_Pc [.ref (ad 0), .int (nI a), .int (nI i), .ref o] (Wo D cI cL A ad σ o f)) (va_Qi (fun r u => r = nI 3 ∧ u.1 = σ ∧ u.2 = f) (Bo D cI cL A ad o) A) (fun _ _ _ => False) 1 6 A := by
  refine vx_ofWH (cc := cL_select) (maxL := 5) (ret := (some .int)) (hh := [(0, 10, 13, 13), (0, 10, 17, 15), (0, 10, 21, 17)]) (by decide) rfl ?_
  intro p e s m args below meth c s₁ B hml hv
  obtain ⟨rfl, ⟨⟨hP, hK, hD, hN, hZ⟩, hTh, hTw⟩, hPo, hKo, hAo, hNx⟩ := hv
  have hx := B.exec
  have hb := B.bytes
  have hr := B.returns
  have hts := atoms_spec (ws := wsL_select) B.pre
  have hown : s.vm.findClass RL = some m.cls := findClass_of_methodNamed B.named
  have htb := vx_table (x := yL_select) B (hts _ List.mem_cons_self)
  have hS : va_S A s.heap s.heap [] := va_S.rf
  have hl := lv_entry ([.ref (ad 0), .int (nI a), .int (nI i), .ref o]) (n := 5) (Nat.le_of_ble_eq_true rfl)
  rw [lg_entry_eq]
  generalize (lg_sl ([.ref (ad 0), .int (nI a), .int (nI i), .ref o]) ++ List.replicate (5 - (lg_sl ([.ref (ad 0), .int (nI a), .int (nI i), .ref o])).length) Slot.unset).toArray = ls at hl ⊢
  have hl : lv_has ls 5 [(0, .ref (ad 0)), (1, .int (nI a)), (2, .int (nI i)), (3, .ref o)] := hl
  refine lv_aload_n hx hb dL_select_0 rfl (lv_at hl 3 rfl) ?_
  refine lv_iconst (v := nI 0) hx hb dL_select_1 (by decide) ?_
  refine lv_aload_n hx hb dL_select_2 rfl (lv_at hl 0 rfl) ?_
  refine lv_iload_n hx hb dL_select_3 rfl (lv_at hl 1 rfl) ?_
  refine lv_iload_n hx hb dL_select_4 rfl (lv_at hl 2 rfl) ?_
  exact vx_calli (vx_runV (As := [.int (nI a), .int (nI i)]) (rest := [.int (nI 0), .ref o]) ⟨hx, hb, hml, hown, hts⟩ (x_X4_select_full l hlt D cI (Ao A o) ad σ a i hI ha hi hsa hsi hfd hfl) (cwV 2 hts gL_select_X4_select rfl rfl rfl (by decide +kernel) ⟨Nat.le_of_ble_eq_true rfl, Nat.le_of_ble_eq_true rfl⟩) ⟨Wx.blind, va_recv hK hP (ci := 3) (q0 := 0) rfl rfl, fun U hU hW => ⟨rfl, Wx.go hP hK hD hN hZ hTh hTw va_S.rf hU hW⟩⟩ rfl rfl hl.1 rfl (lv_room (Nat.le_of_ble_eq_true rfl)) dL_select_5 ⟨Nat.le_of_ble_eq_true rfl, Nat.le_of_ble_eq_true rfl⟩) hS (fun q _ h => h.1) (fun q h => h.1) (fun q _ h => h.1) (fun E9 ce9 q9 u9 t9 H9 locs9 ht9 hvm9 hpx9 hB9 hz9 hk9 hS9 hce9 hcv9 hcl9 => by
    obtain ⟨hE9, hP9, hD9⟩ := hB9
    rw [ht9] at hP9
    subst hE9
    have hPo9 := WO.keep hPo hk9
    refine vx_catch hown (own := RL) [⟨0, 10, 13, 13⟩, ⟨0, 10, 17, 15⟩] _ _ htb (fun z hz => by
      rcases List.mem_cons.mp hz with rfl | hz
      · exact Or.inr ⟨by decide, _, hts _ (List.mem_cons_of_mem _ (by decide +kernel) : Cond.classLink RL 13 "java/lang/IndexOutOfBoundsException" ∈ wsL_select), hNx _ (by decide) _ (by decide) (by decide)⟩
      · rcases List.mem_cons.mp hz with rfl | hz
        · exact Or.inr ⟨by decide, _, hts _ (List.mem_cons_of_mem _ (by decide +kernel) : Cond.classLink RL 15 "java/lang/IllegalArgumentException" ∈ wsL_select), hNx _ (by decide) _ (by decide) (by decide)⟩
        · exact nomatch hz) (by decide) (by decide) (name := "java/lang/UnsupportedOperationException") (hts _ (by decide +kernel)) (tw_cast hTw (by decide +kernel)) hce9 hcv9 hcl9 ?_
    refine lv_astore hx hb dL_select_21 hl (by decide) rfl (fun ls2 hl2 => ?_)
    refine lv_iconst (v := nI 3) hx hb dL_select_23 (by decide) ?_
    exact vx_ret (W.iret (v := nI 3) hx hb hr (fun t ht hW => ⟨⟨_, (u9, f), rfl, ⟨rfl, hpx9, rfl⟩, by rw [ht]; exact hP9, hD9, by rw [ht]; exact hPo9⟩, hS9.F ht⟩) hS9.2.2 dL_select_24)) (fun r u t H1 locs1 ht hvm hw => hw.elim)
set_option maxHeartbeats 4000000 in
set_option maxRecDepth 100000 in
theorem c_L_store_o1 (l : Launch) (hlt : l.stackTraces = false) (D : va_G) (cI cL : ClassId) (A : Nat → Prop) (ad : Nat → Nat) (σ : Nat → Nat → Nat) (o : Nat) (f : Nat → Int64) (a : Int32) (i : Int32) (e1 : Int32) (hc : 7 ≤ σ 0 1 ∧ σ 0 1 ≤ 24) (hxo : a < 0 ∨ nI (σ 0 1) ≤ a) : vx_Met l yL_store wsL_store rL (va_Pc [.ref (ad 0), .int a, .int i, .int e1, .ref o] (Wo D cI cL A ad σ o f)) (va_Qi (fun r u => r = nI 1 ∧ u.1 = σ ∧ u.2 = f) (Bo D cI cL A ad o) A) (fun _ _ _ => False) 1 6 A := by
  refine vx_ofWH (cc := cL_store) (maxL := 6) (ret := (some .int)) (hh := [(0, 12, 15, 13), (0, 12, 19, 15), (0, 12, 23, 17)]) (by decide) rfl ?_
  intro p e s m args below meth c s₁ B hml hv
  obtain ⟨rfl, ⟨⟨hP, hK, hD, hN, hZ⟩, hTh, hTw⟩, hPo, hKo, hAo, hNx⟩ := hv
  have hx := B.exec
  have hb := B.bytes
  have hr := B.returns
  have hts := atoms_spec (ws := wsL_store) B.pre
  have hown : s.vm.findClass RL = some m.cls := findClass_of_methodNamed B.named
  have htb := vx_table (x := yL_store) B (hts _ List.mem_cons_self)
  have hS : va_S A s.heap s.heap [] := va_S.rf
  have hl := lv_entry ([.ref (ad 0), .int a, .int i, .int e1, .ref o]) (n := 6) (Nat.le_of_ble_eq_true rfl)
  rw [lg_entry_eq]
  generalize (lg_sl ([.ref (ad 0), .int a, .int i, .int e1, .ref o]) ++ List.replicate (6 - (lg_sl ([.ref (ad 0), .int a, .int i, .int e1, .ref o])).length) Slot.unset).toArray = ls at hl ⊢
  have hl : lv_has ls 6 [(0, .ref (ad 0)), (1, .int a), (2, .int i), (3, .int e1), (4, .ref o)] := hl
  refine lv_aload hx hb dL_store_0 (lv_at hl 4 rfl) ?_
  refine lv_iconst (v := nI 0) hx hb dL_store_2 (by decide) ?_
  refine lv_aload_n hx hb dL_store_3 rfl (lv_at hl 0 rfl) ?_
  refine lv_iload_n hx hb dL_store_4 rfl (lv_at hl 1 rfl) ?_
  refine lv_iload_n hx hb dL_store_5 rfl (lv_at hl 2 rfl) ?_
  refine lv_iload_n hx hb dL_store_6 rfl (lv_at hl 3 rfl) ?_
  exact vx_calli (vx_runV (As := [.int a, .int i, .int e1]) (rest := [.int (nI 0), .ref o]) ⟨hx, hb, hml, hown, hts⟩ (x_X4_store_o1 l hlt D cI (Ao A o) ad σ a i e1 hc hxo) (cwV 3 hts gL_store_X4_store rfl rfl rfl (by decide +kernel) ⟨Nat.le_of_ble_eq_true rfl, Nat.le_of_ble_eq_true rfl⟩) ⟨Wx.blind, va_recv hK hP (ci := 3) (q0 := 0) rfl rfl, fun U hU hW => ⟨rfl, Wx.go hP hK hD hN hZ hTh hTw va_S.rf hU hW⟩⟩ rfl rfl hl.1 rfl (lv_room (Nat.le_of_ble_eq_true rfl)) dL_store_7 ⟨Nat.le_of_ble_eq_true rfl, Nat.le_of_ble_eq_true rfl⟩) hS (fun q _ h => h.1) (fun q h => h.1) (fun q _ h => h.1) (fun E9 ce9 q9 u9 t9 H9 locs9 ht9 hvm9 hpx9 hB9 hz9 hk9 hS9 hce9 hcv9 hcl9 => by
    obtain ⟨hE9, hP9, hD9⟩ := hB9
    rw [ht9] at hP9
    subst hE9
    have hPo9 := WO.keep hPo hk9
    refine vx_catch hown (own := RL) [] _ _ htb (fun z hz => nomatch hz) (by decide) (by decide) (name := "java/lang/IndexOutOfBoundsException") (hts _ (by decide +kernel)) (tw_cast hTw (by decide +kernel)) hce9 hcv9 hcl9 ?_
    refine lv_astore hx hb dL_store_15 hl (by decide) rfl (fun ls2 hl2 => ?_)
    refine lv_iconst (v := nI 1) hx hb dL_store_17 (by decide) ?_
    exact vx_ret (W.iret (v := nI 1) hx hb hr (fun t ht hW => ⟨⟨_, (u9, f), rfl, ⟨rfl, hpx9, rfl⟩, by rw [ht]; exact hP9, hD9, by rw [ht]; exact hPo9⟩, hS9.F ht⟩) hS9.2.2 dL_store_18)) (fun r u t H1 locs1 ht hvm hw => hw.elim)
set_option maxHeartbeats 4000000 in
set_option maxRecDepth 100000 in
theorem c_L_store_o2 (l : Launch) (hlt : l.stackTraces = false) (D : va_G) (cI cL : ClassId) (A : Nat → Prop) (ad : Nat → Nat) (σ : Nat → Nat → Nat) (o : Nat) (f : Nat → Int64) (a : Nat) (i : Int32) (e1 : Int32) (hc : 7 ≤ σ 0 1 ∧ σ 0 1 ≤ 24) (ha : a < σ 0 1) (hxo : i < 0 ∨ nI (σ 0 1) ≤ i) : vx_Met l yL_store wsL_store rL (va_Pc [.ref (ad 0), .int (nI a), .int i, .int e1, .ref o] (Wo D cI cL A ad σ o f)) (va_Qi (fun r u => r = nI 1 ∧ u.1 = σ ∧ u.2 = f) (Bo D cI cL A ad o) A) (fun _ _ _ => False) 1 6 A := by
  refine vx_ofWH (cc := cL_store) (maxL := 6) (ret := (some .int)) (hh := [(0, 12, 15, 13), (0, 12, 19, 15), (0, 12, 23, 17)]) (by decide) rfl ?_
  intro p e s m args below meth c s₁ B hml hv
  obtain ⟨rfl, ⟨⟨hP, hK, hD, hN, hZ⟩, hTh, hTw⟩, hPo, hKo, hAo, hNx⟩ := hv
  have hx := B.exec
  have hb := B.bytes
  have hr := B.returns
  have hts := atoms_spec (ws := wsL_store) B.pre
  have hown : s.vm.findClass RL = some m.cls := findClass_of_methodNamed B.named
  have htb := vx_table (x := yL_store) B (hts _ List.mem_cons_self)
  have hS : va_S A s.heap s.heap [] := va_S.rf
  have hl := lv_entry ([.ref (ad 0), .int (nI a), .int i, .int e1, .ref o]) (n := 6) (Nat.le_of_ble_eq_true rfl)
  rw [lg_entry_eq]
  generalize (lg_sl ([.ref (ad 0), .int (nI a), .int i, .int e1, .ref o]) ++ List.replicate (6 - (lg_sl ([.ref (ad 0), .int (nI a), .int i, .int e1, .ref o])).length) Slot.unset).toArray = ls at hl ⊢
  have hl : lv_has ls 6 [(0, .ref (ad 0)), (1, .int (nI a)), (2, .int i), (3, .int e1), (4, .ref o)] := hl
  refine lv_aload hx hb dL_store_0 (lv_at hl 4 rfl) ?_
  refine lv_iconst (v := nI 0) hx hb dL_store_2 (by decide) ?_
  refine lv_aload_n hx hb dL_store_3 rfl (lv_at hl 0 rfl) ?_
  refine lv_iload_n hx hb dL_store_4 rfl (lv_at hl 1 rfl) ?_
  refine lv_iload_n hx hb dL_store_5 rfl (lv_at hl 2 rfl) ?_
  refine lv_iload_n hx hb dL_store_6 rfl (lv_at hl 3 rfl) ?_
  exact vx_calli (vx_runV (As := [.int (nI a), .int i, .int e1]) (rest := [.int (nI 0), .ref o]) ⟨hx, hb, hml, hown, hts⟩ (x_X4_store_o2 l hlt D cI (Ao A o) ad σ a i e1 hc ha hxo) (cwV 3 hts gL_store_X4_store rfl rfl rfl (by decide +kernel) ⟨Nat.le_of_ble_eq_true rfl, Nat.le_of_ble_eq_true rfl⟩) ⟨Wx.blind, va_recv hK hP (ci := 3) (q0 := 0) rfl rfl, fun U hU hW => ⟨rfl, Wx.go hP hK hD hN hZ hTh hTw va_S.rf hU hW⟩⟩ rfl rfl hl.1 rfl (lv_room (Nat.le_of_ble_eq_true rfl)) dL_store_7 ⟨Nat.le_of_ble_eq_true rfl, Nat.le_of_ble_eq_true rfl⟩) hS (fun q _ h => h.1) (fun q h => h.1) (fun q _ h => h.1) (fun E9 ce9 q9 u9 t9 H9 locs9 ht9 hvm9 hpx9 hB9 hz9 hk9 hS9 hce9 hcv9 hcl9 => by
    obtain ⟨hE9, hP9, hD9⟩ := hB9
    rw [ht9] at hP9
    subst hE9
    have hPo9 := WO.keep hPo hk9
    refine vx_catch hown (own := RL) [] _ _ htb (fun z hz => nomatch hz) (by decide) (by decide) (name := "java/lang/IndexOutOfBoundsException") (hts _ (by decide +kernel)) (tw_cast hTw (by decide +kernel)) hce9 hcv9 hcl9 ?_
    refine lv_astore hx hb dL_store_15 hl (by decide) rfl (fun ls2 hl2 => ?_)
    refine lv_iconst (v := nI 1) hx hb dL_store_17 (by decide) ?_
    exact vx_ret (W.iret (v := nI 1) hx hb hr (fun t ht hW => ⟨⟨_, (u9, f), rfl, ⟨rfl, hpx9, rfl⟩, by rw [ht]; exact hP9, hD9, by rw [ht]; exact hPo9⟩, hS9.F ht⟩) hS9.2.2 dL_store_18)) (fun r u t H1 locs1 ht hvm hw => hw.elim)
set_option maxHeartbeats 4000000 in
set_option maxRecDepth 100000 in
theorem c_L_store_o3 (l : Launch) (hlt : l.stackTraces = false) (D : va_G) (cI cL : ClassId) (A : Nat → Prop) (ad : Nat → Nat) (σ : Nat → Nat → Nat) (o : Nat) (f : Nat → Int64) (a : Nat) (i : Nat) (e1 : Int32) (hc : 7 ≤ σ 0 1 ∧ σ 0 1 ≤ 24) (ha : a < σ 0 1) (hi : i < σ 0 1) (hxo : e1 < 0 ∨ nI (σ 0 1) ≤ e1) : vx_Met l yL_store wsL_store rL (va_Pc [.ref (ad 0), .int (nI a), .int (nI i), .int e1, .ref o] (Wo D cI cL A ad σ o f)) (va_Qi (fun r u => r = nI 1 ∧ u.1 = σ ∧ u.2 = f) (Bo D cI cL A ad o) A) (fun _ _ _ => False) 1 6 A := by
  refine vx_ofWH (cc := cL_store) (maxL := 6) (ret := (some .int)) (hh := [(0, 12, 15, 13), (0, 12, 19, 15), (0, 12, 23, 17)]) (by decide) rfl ?_
  intro p e s m args below meth c s₁ B hml hv
  obtain ⟨rfl, ⟨⟨hP, hK, hD, hN, hZ⟩, hTh, hTw⟩, hPo, hKo, hAo, hNx⟩ := hv
  have hx := B.exec
  have hb := B.bytes
  have hr := B.returns
  have hts := atoms_spec (ws := wsL_store) B.pre
  have hown : s.vm.findClass RL = some m.cls := findClass_of_methodNamed B.named
  have htb := vx_table (x := yL_store) B (hts _ List.mem_cons_self)
  have hS : va_S A s.heap s.heap [] := va_S.rf
  have hl := lv_entry ([.ref (ad 0), .int (nI a), .int (nI i), .int e1, .ref o]) (n := 6) (Nat.le_of_ble_eq_true rfl)
  rw [lg_entry_eq]
  generalize (lg_sl ([.ref (ad 0), .int (nI a), .int (nI i), .int e1, .ref o]) ++ List.replicate (6 - (lg_sl ([.ref (ad 0), .int (nI a), .int (nI i), .int e1, .ref o])).length) Slot.unset).toArray = ls at hl ⊢
  have hl : lv_has ls 6 [(0, .ref (ad 0)), (1, .int (nI a)), (2, .int (nI i)), (3, .int e1), (4, .ref o)] := hl
  refine lv_aload hx hb dL_store_0 (lv_at hl 4 rfl) ?_
  refine lv_iconst (v := nI 0) hx hb dL_store_2 (by decide) ?_
  refine lv_aload_n hx hb dL_store_3 rfl (lv_at hl 0 rfl) ?_
  refine lv_iload_n hx hb dL_store_4 rfl (lv_at hl 1 rfl) ?_
  refine lv_iload_n hx hb dL_store_5 rfl (lv_at hl 2 rfl) ?_
  refine lv_iload_n hx hb dL_store_6 rfl (lv_at hl 3 rfl) ?_
  exact vx_calli (vx_runV (As := [.int (nI a), .int (nI i), .int e1]) (rest := [.int (nI 0), .ref o]) ⟨hx, hb, hml, hown, hts⟩ (x_X4_store_o3 l hlt D cI (Ao A o) ad σ a i e1 hc ha hi hxo) (cwV 3 hts gL_store_X4_store rfl rfl rfl (by decide +kernel) ⟨Nat.le_of_ble_eq_true rfl, Nat.le_of_ble_eq_true rfl⟩) ⟨Wx.blind, va_recv hK hP (ci := 3) (q0 := 0) rfl rfl, fun U hU hW => ⟨rfl, Wx.go hP hK hD hN hZ hTh hTw va_S.rf hU hW⟩⟩ rfl rfl hl.1 rfl (lv_room (Nat.le_of_ble_eq_true rfl)) dL_store_7 ⟨Nat.le_of_ble_eq_true rfl, Nat.le_of_ble_eq_true rfl⟩) hS (fun q _ h => h.1) (fun q h => h.1) (fun q _ h => h.1) (fun E9 ce9 q9 u9 t9 H9 locs9 ht9 hvm9 hpx9 hB9 hz9 hk9 hS9 hce9 hcv9 hcl9 => by
    obtain ⟨hE9, hP9, hD9⟩ := hB9
    rw [ht9] at hP9
    subst hE9
    have hPo9 := WO.keep hPo hk9
    refine vx_catch hown (own := RL) [] _ _ htb (fun z hz => nomatch hz) (by decide) (by decide) (name := "java/lang/IndexOutOfBoundsException") (hts _ (by decide +kernel)) (tw_cast hTw (by decide +kernel)) hce9 hcv9 hcl9 ?_
    refine lv_astore hx hb dL_store_15 hl (by decide) rfl (fun ls2 hl2 => ?_)
    refine lv_iconst (v := nI 1) hx hb dL_store_17 (by decide) ?_
    exact vx_ret (W.iret (v := nI 1) hx hb hr (fun t ht hW => ⟨⟨_, (u9, f), rfl, ⟨rfl, hpx9, rfl⟩, by rw [ht]; exact hP9, hD9, by rw [ht]; exact hPo9⟩, hS9.F ht⟩) hS9.2.2 dL_store_18)) (fun r u t H1 locs1 ht hvm hw => hw.elim)
set_option maxHeartbeats 4000000 in
set_option maxRecDepth 100000 in
theorem c_L_store_sort (l : Launch) (hlt : l.stackTraces = false) (D : va_G) (cI cL : ClassId) (A : Nat → Prop) (ad : Nat → Nat) (σ : Nat → Nat → Nat) (o : Nat) (f : Nat → Int64) (a i e1 : Nat) (hI : IC σ) (ha : a < σ 0 1) (hi : i < σ 0 1) (he1 : e1 < σ 0 1) (hbad : σ 6 a ≠ 2 ∨ σ 6 i ≠ 0 ∨ σ 6 e1 ≠ 1) : vx_Met l yL_store wsL_store rL (va_Pc [.ref (ad 0), .int (nI a), .int (nI i), .int (nI e1), .ref o] (Wo D cI cL A ad σ o f)) (va_Qi (fun r u => r = nI 2 ∧ u.1 = σ ∧ u.2 = f) (Bo D cI cL A ad o) A) (fun _ _ _ => False) 1 6 A := by
  refine vx_ofWH (cc := cL_store) (maxL := 6) (ret := (some .int)) (hh := [(0, 12, 15, 13), (0, 12, 19, 15), (0, 12, 23, 17)]) (by decide) rfl ?_
  intro p e s m args below meth c s₁ B hml hv
  obtain ⟨rfl, ⟨⟨hP, hK, hD, hN, hZ⟩, hTh, hTw⟩, hPo, hKo, hAo, hNx⟩ := hv
  have hx := B.exec
  have hb := B.bytes
  have hr := B.returns
  have hts := atoms_spec (ws := wsL_store) B.pre
  have hown : s.vm.findClass RL = some m.cls := findClass_of_methodNamed B.named
  have htb := vx_table (x := yL_store) B (hts _ List.mem_cons_self)
  have hS : va_S A s.heap s.heap [] := va_S.rf
  have hl := lv_entry ([.ref (ad 0), .int (nI a), .int (nI i), .int (nI e1), .ref o]) (n := 6) (Nat.le_of_ble_eq_true rfl)
  rw [lg_entry_eq]
  generalize (lg_sl ([.ref (ad 0), .int (nI a), .int (nI i), .int (nI e1), .ref o]) ++ List.replicate (6 - (lg_sl ([.ref (ad 0), .int (nI a), .int (nI i), .int (nI e1), .ref o])).length) Slot.unset).toArray = ls at hl ⊢
  have hl : lv_has ls 6 [(0, .ref (ad 0)), (1, .int (nI a)), (2, .int (nI i)), (3, .int (nI e1)), (4, .ref o)] := hl
  refine lv_aload hx hb dL_store_0 (lv_at hl 4 rfl) ?_
  refine lv_iconst (v := nI 0) hx hb dL_store_2 (by decide) ?_
  refine lv_aload_n hx hb dL_store_3 rfl (lv_at hl 0 rfl) ?_
  refine lv_iload_n hx hb dL_store_4 rfl (lv_at hl 1 rfl) ?_
  refine lv_iload_n hx hb dL_store_5 rfl (lv_at hl 2 rfl) ?_
  refine lv_iload_n hx hb dL_store_6 rfl (lv_at hl 3 rfl) ?_
  exact vx_calli (vx_runV (As := [.int (nI a), .int (nI i), .int (nI e1)]) (rest := [.int (nI 0), .ref o]) ⟨hx, hb, hml, hown, hts⟩ (x_X4_store_sort l hlt D cI (Ao A o) ad σ a i e1 hI ha hi he1 hbad) (cwV 3 hts gL_store_X4_store rfl rfl rfl (by decide +kernel) ⟨Nat.le_of_ble_eq_true rfl, Nat.le_of_ble_eq_true rfl⟩) ⟨Wx.blind, va_recv hK hP (ci := 3) (q0 := 0) rfl rfl, fun U hU hW => ⟨rfl, Wx.go hP hK hD hN hZ hTh hTw va_S.rf hU hW⟩⟩ rfl rfl hl.1 rfl (lv_room (Nat.le_of_ble_eq_true rfl)) dL_store_7 ⟨Nat.le_of_ble_eq_true rfl, Nat.le_of_ble_eq_true rfl⟩) hS (fun q _ h => h.1) (fun q h => h.1) (fun q _ h => h.1) (fun E9 ce9 q9 u9 t9 H9 locs9 ht9 hvm9 hpx9 hB9 hz9 hk9 hS9 hce9 hcv9 hcl9 => by
    obtain ⟨hE9, hP9, hD9⟩ := hB9
    rw [ht9] at hP9
    subst hE9
    have hPo9 := WO.keep hPo hk9
    refine vx_catch hown (own := RL) [⟨0, 12, 15, 13⟩] _ _ htb (fun z hz => by
      rcases List.mem_cons.mp hz with rfl | hz
      · exact Or.inr ⟨by decide, _, hts _ (List.mem_cons_of_mem _ (by decide +kernel) : Cond.classLink RL 13 "java/lang/IndexOutOfBoundsException" ∈ wsL_store), hNx _ (by decide) _ (by decide) (by decide)⟩
      · exact nomatch hz) (by decide) (by decide) (name := "java/lang/IllegalArgumentException") (hts _ (by decide +kernel)) (tw_cast hTw (by decide +kernel)) hce9 hcv9 hcl9 ?_
    refine lv_astore hx hb dL_store_19 hl (by decide) rfl (fun ls2 hl2 => ?_)
    refine lv_iconst (v := nI 2) hx hb dL_store_21 (by decide) ?_
    exact vx_ret (W.iret (v := nI 2) hx hb hr (fun t ht hW => ⟨⟨_, (u9, f), rfl, ⟨rfl, hpx9, rfl⟩, by rw [ht]; exact hP9, hD9, by rw [ht]; exact hPo9⟩, hS9.F ht⟩) hS9.2.2 dL_store_22)) (fun r u t H1 locs1 ht hvm hw => hw.elim)
set_option maxHeartbeats 4000000 in
set_option maxRecDepth 100000 in
theorem c_L_store_full (l : Launch) (hlt : l.stackTraces = false) (D : va_G) (cI cL : ClassId) (A : Nat → Prop) (ad : Nat → Nat) (σ : Nat → Nat → Nat) (o : Nat) (f : Nat → Int64) (a i e1 : Nat) (hI : IC σ) (ha : a < σ 0 1) (hi : i < σ 0 1) (he1 : e1 < σ 0 1) (hsa : σ 6 a = 2) (hsi : σ 6 i = 0) (hse : σ 6 e1 = 1) (hfd : findF σ 2 (a + 1) (i + 1) (e1 + 1) (σ 0 1 - 7) 7 = 0) (hfl : σ 0 1 = 24) : vx_Met l yL_store wsL_store rL (va_Pc [.ref (ad 0), .int (nI a), .int (nI i), .int (nI e1), .ref o] (Wo D cI cL A ad σ o f)) (va_Qi (fun r u => r = nI 3 ∧ u.1 = σ ∧ u.2 = f) (Bo D cI cL A ad o) A) (fun _ _ _ => False) 1 6 A := by
  refine vx_ofWH (cc := cL_store) (maxL := 6) (ret := (some .int)) (hh := [(0, 12, 15, 13), (0, 12, 19, 15), (0, 12, 23, 17)]) (by decide) rfl ?_
  intro p e s m args below meth c s₁ B hml hv
  obtain ⟨rfl, ⟨⟨hP, hK, hD, hN, hZ⟩, hTh, hTw⟩, hPo, hKo, hAo, hNx⟩ := hv
  have hx := B.exec
  have hb := B.bytes
  have hr := B.returns
  have hts := atoms_spec (ws := wsL_store) B.pre
  have hown : s.vm.findClass RL = some m.cls := findClass_of_methodNamed B.named
  have htb := vx_table (x := yL_store) B (hts _ List.mem_cons_self)
  have hS : va_S A s.heap s.heap [] := va_S.rf
  have hl := lv_entry ([.ref (ad 0), .int (nI a), .int (nI i), .int (nI e1), .ref o]) (n := 6) (Nat.le_of_ble_eq_true rfl)
  rw [lg_entry_eq]
  generalize (lg_sl ([.ref (ad 0), .int (nI a), .int (nI i), .int (nI e1), .ref o]) ++ List.replicate (6 - (lg_sl ([.ref (ad 0), .int (nI a), .int (nI i), .int (nI e1), .ref o])).length) Slot.unset).toArray = ls at hl ⊢
  have hl : lv_has ls 6 [(0, .ref (ad 0)), (1, .int (nI a)), (2, .int (nI i)), (3, .int (nI e1)), (4, .ref o)] := hl
  refine lv_aload hx hb dL_store_0 (lv_at hl 4 rfl) ?_
  refine lv_iconst (v := nI 0) hx hb dL_store_2 (by decide) ?_
  refine lv_aload_n hx hb dL_store_3 rfl (lv_at hl 0 rfl) ?_
  refine lv_iload_n hx hb dL_store_4 rfl (lv_at hl 1 rfl) ?_
  refine lv_iload_n hx hb dL_store_5 rfl (lv_at hl 2 rfl) ?_
  refine lv_iload_n hx hb dL_store_6 rfl (lv_at hl 3 rfl) ?_
  exact vx_calli (vx_runV (As := [.int (nI a), .int (nI i), .int (nI e1)]) (rest := [.int (nI 0), .ref o]) ⟨hx, hb, hml, hown, hts⟩ (x_X4_store_full l hlt D cI (Ao A o) ad σ a i e1 hI ha hi he1 hsa hsi hse hfd hfl) (cwV 3 hts gL_store_X4_store rfl rfl rfl (by decide +kernel) ⟨Nat.le_of_ble_eq_true rfl, Nat.le_of_ble_eq_true rfl⟩) ⟨Wx.blind, va_recv hK hP (ci := 3) (q0 := 0) rfl rfl, fun U hU hW => ⟨rfl, Wx.go hP hK hD hN hZ hTh hTw va_S.rf hU hW⟩⟩ rfl rfl hl.1 rfl (lv_room (Nat.le_of_ble_eq_true rfl)) dL_store_7 ⟨Nat.le_of_ble_eq_true rfl, Nat.le_of_ble_eq_true rfl⟩) hS (fun q _ h => h.1) (fun q h => h.1) (fun q _ h => h.1) (fun E9 ce9 q9 u9 t9 H9 locs9 ht9 hvm9 hpx9 hB9 hz9 hk9 hS9 hce9 hcv9 hcl9 => by
    obtain ⟨hE9, hP9, hD9⟩ := hB9
    rw [ht9] at hP9
    subst hE9
    have hPo9 := WO.keep hPo hk9
    refine vx_catch hown (own := RL) [⟨0, 12, 15, 13⟩, ⟨0, 12, 19, 15⟩] _ _ htb (fun z hz => by
      rcases List.mem_cons.mp hz with rfl | hz
      · exact Or.inr ⟨by decide, _, hts _ (List.mem_cons_of_mem _ (by decide +kernel) : Cond.classLink RL 13 "java/lang/IndexOutOfBoundsException" ∈ wsL_store), hNx _ (by decide) _ (by decide) (by decide)⟩
      · rcases List.mem_cons.mp hz with rfl | hz
        · exact Or.inr ⟨by decide, _, hts _ (List.mem_cons_of_mem _ (by decide +kernel) : Cond.classLink RL 15 "java/lang/IllegalArgumentException" ∈ wsL_store), hNx _ (by decide) _ (by decide) (by decide)⟩
        · exact nomatch hz) (by decide) (by decide) (name := "java/lang/UnsupportedOperationException") (hts _ (by decide +kernel)) (tw_cast hTw (by decide +kernel)) hce9 hcv9 hcl9 ?_
    refine lv_astore hx hb dL_store_23 hl (by decide) rfl (fun ls2 hl2 => ?_)
    refine lv_iconst (v := nI 3) hx hb dL_store_25 (by decide) ?_
    exact vx_ret (W.iret (v := nI 3) hx hb hr (fun t ht hW => ⟨⟨_, (u9, f), rfl, ⟨rfl, hpx9, rfl⟩, by rw [ht]; exact hP9, hD9, by rw [ht]; exact hPo9⟩, hS9.F ht⟩) hS9.2.2 dL_store_26)) (fun r u t H1 locs1 ht hvm hw => hw.elim)
set_option maxHeartbeats 4000000 in
set_option maxRecDepth 100000 in
theorem c_L_literal_o1 (l : Launch) (hlt : l.stackTraces = false) (D : va_G) (cI cL : ClassId) (A : Nat → Prop) (ad : Nat → Nat) (σ : Nat → Nat → Nat) (o : Nat) (f : Nat → Int64) (t1 u1 : Int32) (b : Bool) (hc : 7 ≤ σ 0 1 ∧ σ 0 1 ≤ 24) (hxo : t1 < 0 ∨ nI (σ 0 1) ≤ t1) : vx_Met l yL_literal wsL_literal rL (va_Pc [.ref (ad 0), .int t1, .int u1, .int (bI b), .ref o] (Wo D cI cL A ad σ o f)) (va_Qi (fun r u => r = nI 1 ∧ u.1 = σ ∧ u.2 = f) (Bo D cI cL A ad o) A) (fun _ _ _ => False) 1 6 A := by
  refine vx_ofWH (cc := cL_literal) (maxL := 6) (ret := (some .int)) (hh := [(0, 12, 15, 13), (0, 12, 19, 15), (0, 12, 23, 27)]) (by decide) rfl ?_
  intro p e s m args below meth c s₁ B hml hv
  obtain ⟨rfl, ⟨⟨hP, hK, hD, hN, hZ⟩, hTh, hTw⟩, hPo, hKo, hAo, hNx⟩ := hv
  have hx := B.exec
  have hb := B.bytes
  have hr := B.returns
  have hts := atoms_spec (ws := wsL_literal) B.pre
  have hown : s.vm.findClass RL = some m.cls := findClass_of_methodNamed B.named
  have htb := vx_table (x := yL_literal) B (hts _ List.mem_cons_self)
  have hS : va_S A s.heap s.heap [] := va_S.rf
  have hl := lv_entry ([.ref (ad 0), .int t1, .int u1, .int (bI b), .ref o]) (n := 6) (Nat.le_of_ble_eq_true rfl)
  rw [lg_entry_eq]
  generalize (lg_sl ([.ref (ad 0), .int t1, .int u1, .int (bI b), .ref o]) ++ List.replicate (6 - (lg_sl ([.ref (ad 0), .int t1, .int u1, .int (bI b), .ref o])).length) Slot.unset).toArray = ls at hl ⊢
  have hl : lv_has ls 6 [(0, .ref (ad 0)), (1, .int t1), (2, .int u1), (3, .int (bI b)), (4, .ref o)] := hl
  refine lv_aload hx hb dL_literal_0 (lv_at hl 4 rfl) ?_
  refine lv_iconst (v := nI 0) hx hb dL_literal_2 (by decide) ?_
  refine lv_aload_n hx hb dL_literal_3 rfl (lv_at hl 0 rfl) ?_
  refine lv_iload_n hx hb dL_literal_4 rfl (lv_at hl 1 rfl) ?_
  refine lv_iload_n hx hb dL_literal_5 rfl (lv_at hl 2 rfl) ?_
  refine lv_iload_n hx hb dL_literal_6 rfl (lv_at hl 3 rfl) ?_
  exact vx_calli (vx_runV (As := [.int t1, .int u1, .int (bI b)]) (rest := [.int (nI 0), .ref o]) ⟨hx, hb, hml, hown, hts⟩ (x_X4_literal_o1 l hlt D cI (Ao A o) ad σ t1 u1 b hc hxo) (cwV 3 hts gL_literal_X4_literal rfl rfl rfl (by decide +kernel) ⟨Nat.le_of_ble_eq_true rfl, Nat.le_of_ble_eq_true rfl⟩) ⟨Wx.blind, va_recv hK hP (ci := 3) (q0 := 0) rfl rfl, fun U hU hW => ⟨rfl, Wx.go hP hK hD hN hZ hTh hTw va_S.rf hU hW⟩⟩ rfl rfl hl.1 rfl (lv_room (Nat.le_of_ble_eq_true rfl)) dL_literal_7 ⟨Nat.le_of_ble_eq_true rfl, Nat.le_of_ble_eq_true rfl⟩) hS (fun q _ h => h.1) (fun q h => h.1) (fun q _ h => h.1) (fun E9 ce9 q9 u9 t9 H9 locs9 ht9 hvm9 hpx9 hB9 hz9 hk9 hS9 hce9 hcv9 hcl9 => by
    obtain ⟨hE9, hP9, hD9⟩ := hB9
    rw [ht9] at hP9
    subst hE9
    have hPo9 := WO.keep hPo hk9
    refine vx_catch hown (own := RL) [] _ _ htb (fun z hz => nomatch hz) (by decide) (by decide) (name := "java/lang/IndexOutOfBoundsException") (hts _ (by decide +kernel)) (tw_cast hTw (by decide +kernel)) hce9 hcv9 hcl9 ?_
    refine lv_astore hx hb dL_literal_15 hl (by decide) rfl (fun ls2 hl2 => ?_)
    refine lv_iconst (v := nI 1) hx hb dL_literal_17 (by decide) ?_
    exact vx_ret (W.iret (v := nI 1) hx hb hr (fun t ht hW => ⟨⟨_, (u9, f), rfl, ⟨rfl, hpx9, rfl⟩, by rw [ht]; exact hP9, hD9, by rw [ht]; exact hPo9⟩, hS9.F ht⟩) hS9.2.2 dL_literal_18)) (fun r u t H1 locs1 ht hvm hw => hw.elim)
set_option maxHeartbeats 4000000 in
set_option maxRecDepth 100000 in
theorem c_L_literal_o2 (l : Launch) (hlt : l.stackTraces = false) (D : va_G) (cI cL : ClassId) (A : Nat → Prop) (ad : Nat → Nat) (σ : Nat → Nat → Nat) (o : Nat) (f : Nat → Int64) (t1 : Nat) (u1 : Int32) (b : Bool) (hc : 7 ≤ σ 0 1 ∧ σ 0 1 ≤ 24) (ht : t1 < σ 0 1) (hxo : u1 < 0 ∨ nI (σ 0 1) ≤ u1) : vx_Met l yL_literal wsL_literal rL (va_Pc [.ref (ad 0), .int (nI t1), .int u1, .int (bI b), .ref o] (Wo D cI cL A ad σ o f)) (va_Qi (fun r u => r = nI 1 ∧ u.1 = σ ∧ u.2 = f) (Bo D cI cL A ad o) A) (fun _ _ _ => False) 1 6 A := by
  refine vx_ofWH (cc := cL_literal) (maxL := 6) (ret := (some .int)) (hh := [(0, 12, 15, 13), (0, 12, 19, 15), (0, 12, 23, 27)]) (by decide) rfl ?_
  intro p e s m args below meth c s₁ B hml hv
  obtain ⟨rfl, ⟨⟨hP, hK, hD, hN, hZ⟩, hTh, hTw⟩, hPo, hKo, hAo, hNx⟩ := hv
  have hx := B.exec
  have hb := B.bytes
  have hr := B.returns
  have hts := atoms_spec (ws := wsL_literal) B.pre
  have hown : s.vm.findClass RL = some m.cls := findClass_of_methodNamed B.named
  have htb := vx_table (x := yL_literal) B (hts _ List.mem_cons_self)
  have hS : va_S A s.heap s.heap [] := va_S.rf
  have hl := lv_entry ([.ref (ad 0), .int (nI t1), .int u1, .int (bI b), .ref o]) (n := 6) (Nat.le_of_ble_eq_true rfl)
  rw [lg_entry_eq]
  generalize (lg_sl ([.ref (ad 0), .int (nI t1), .int u1, .int (bI b), .ref o]) ++ List.replicate (6 - (lg_sl ([.ref (ad 0), .int (nI t1), .int u1, .int (bI b), .ref o])).length) Slot.unset).toArray = ls at hl ⊢
  have hl : lv_has ls 6 [(0, .ref (ad 0)), (1, .int (nI t1)), (2, .int u1), (3, .int (bI b)), (4, .ref o)] := hl
  refine lv_aload hx hb dL_literal_0 (lv_at hl 4 rfl) ?_
  refine lv_iconst (v := nI 0) hx hb dL_literal_2 (by decide) ?_
  refine lv_aload_n hx hb dL_literal_3 rfl (lv_at hl 0 rfl) ?_
  refine lv_iload_n hx hb dL_literal_4 rfl (lv_at hl 1 rfl) ?_
  refine lv_iload_n hx hb dL_literal_5 rfl (lv_at hl 2 rfl) ?_
  refine lv_iload_n hx hb dL_literal_6 rfl (lv_at hl 3 rfl) ?_
  exact vx_calli (vx_runV (As := [.int (nI t1), .int u1, .int (bI b)]) (rest := [.int (nI 0), .ref o]) ⟨hx, hb, hml, hown, hts⟩ (x_X4_literal_o2 l hlt D cI (Ao A o) ad σ t1 u1 b hc ht hxo) (cwV 3 hts gL_literal_X4_literal rfl rfl rfl (by decide +kernel) ⟨Nat.le_of_ble_eq_true rfl, Nat.le_of_ble_eq_true rfl⟩) ⟨Wx.blind, va_recv hK hP (ci := 3) (q0 := 0) rfl rfl, fun U hU hW => ⟨rfl, Wx.go hP hK hD hN hZ hTh hTw va_S.rf hU hW⟩⟩ rfl rfl hl.1 rfl (lv_room (Nat.le_of_ble_eq_true rfl)) dL_literal_7 ⟨Nat.le_of_ble_eq_true rfl, Nat.le_of_ble_eq_true rfl⟩) hS (fun q _ h => h.1) (fun q h => h.1) (fun q _ h => h.1) (fun E9 ce9 q9 u9 t9 H9 locs9 ht9 hvm9 hpx9 hB9 hz9 hk9 hS9 hce9 hcv9 hcl9 => by
    obtain ⟨hE9, hP9, hD9⟩ := hB9
    rw [ht9] at hP9
    subst hE9
    have hPo9 := WO.keep hPo hk9
    refine vx_catch hown (own := RL) [] _ _ htb (fun z hz => nomatch hz) (by decide) (by decide) (name := "java/lang/IndexOutOfBoundsException") (hts _ (by decide +kernel)) (tw_cast hTw (by decide +kernel)) hce9 hcv9 hcl9 ?_
    refine lv_astore hx hb dL_literal_15 hl (by decide) rfl (fun ls2 hl2 => ?_)
    refine lv_iconst (v := nI 1) hx hb dL_literal_17 (by decide) ?_
    exact vx_ret (W.iret (v := nI 1) hx hb hr (fun t ht hW => ⟨⟨_, (u9, f), rfl, ⟨rfl, hpx9, rfl⟩, by rw [ht]; exact hP9, hD9, by rw [ht]; exact hPo9⟩, hS9.F ht⟩) hS9.2.2 dL_literal_18)) (fun r u t H1 locs1 ht hvm hw => hw.elim)
set_option maxHeartbeats 4000000 in
set_option maxRecDepth 100000 in
theorem c_L_literal_sort (l : Launch) (hlt : l.stackTraces = false) (D : va_G) (cI cL : ClassId) (A : Nat → Prop) (ad : Nat → Nat) (σ : Nat → Nat → Nat) (o : Nat) (f : Nat → Int64) (t1 u1 : Nat) (b : Bool) (hI : IC σ) (ht : t1 < σ 0 1) (hu : u1 < σ 0 1) (hsu : σ 6 t1 ≠ σ 6 u1) : vx_Met l yL_literal wsL_literal rL (va_Pc [.ref (ad 0), .int (nI t1), .int (nI u1), .int (bI b), .ref o] (Wo D cI cL A ad σ o f)) (va_Qi (fun r u => r = nI 2 ∧ u.1 = σ ∧ u.2 = f) (Bo D cI cL A ad o) A) (fun _ _ _ => False) 1 6 A := by
  refine vx_ofWH (cc := cL_literal) (maxL := 6) (ret := (some .int)) (hh := [(0, 12, 15, 13), (0, 12, 19, 15), (0, 12, 23, 27)]) (by decide) rfl ?_
  intro p e s m args below meth c s₁ B hml hv
  obtain ⟨rfl, ⟨⟨hP, hK, hD, hN, hZ⟩, hTh, hTw⟩, hPo, hKo, hAo, hNx⟩ := hv
  have hx := B.exec
  have hb := B.bytes
  have hr := B.returns
  have hts := atoms_spec (ws := wsL_literal) B.pre
  have hown : s.vm.findClass RL = some m.cls := findClass_of_methodNamed B.named
  have htb := vx_table (x := yL_literal) B (hts _ List.mem_cons_self)
  have hS : va_S A s.heap s.heap [] := va_S.rf
  have hl := lv_entry ([.ref (ad 0), .int (nI t1), .int (nI u1), .int (bI b), .ref o]) (n := 6) (Nat.le_of_ble_eq_true rfl)
  rw [lg_entry_eq]
  generalize (lg_sl ([.ref (ad 0), .int (nI t1), .int (nI u1), .int (bI b), .ref o]) ++ List.replicate (6 - (lg_sl ([.ref (ad 0), .int (nI t1), .int (nI u1), .int (bI b), .ref o])).length) Slot.unset).toArray = ls at hl ⊢
  have hl : lv_has ls 6 [(0, .ref (ad 0)), (1, .int (nI t1)), (2, .int (nI u1)), (3, .int (bI b)), (4, .ref o)] := hl
  refine lv_aload hx hb dL_literal_0 (lv_at hl 4 rfl) ?_
  refine lv_iconst (v := nI 0) hx hb dL_literal_2 (by decide) ?_
  refine lv_aload_n hx hb dL_literal_3 rfl (lv_at hl 0 rfl) ?_
  refine lv_iload_n hx hb dL_literal_4 rfl (lv_at hl 1 rfl) ?_
  refine lv_iload_n hx hb dL_literal_5 rfl (lv_at hl 2 rfl) ?_
  refine lv_iload_n hx hb dL_literal_6 rfl (lv_at hl 3 rfl) ?_
  exact vx_calli (vx_runV (As := [.int (nI t1), .int (nI u1), .int (bI b)]) (rest := [.int (nI 0), .ref o]) ⟨hx, hb, hml, hown, hts⟩ (x_X4_literal_sort l hlt D cI (Ao A o) ad σ t1 u1 b hI ht hu hsu) (cwV 3 hts gL_literal_X4_literal rfl rfl rfl (by decide +kernel) ⟨Nat.le_of_ble_eq_true rfl, Nat.le_of_ble_eq_true rfl⟩) ⟨Wx.blind, va_recv hK hP (ci := 3) (q0 := 0) rfl rfl, fun U hU hW => ⟨rfl, Wx.go hP hK hD hN hZ hTh hTw va_S.rf hU hW⟩⟩ rfl rfl hl.1 rfl (lv_room (Nat.le_of_ble_eq_true rfl)) dL_literal_7 ⟨Nat.le_of_ble_eq_true rfl, Nat.le_of_ble_eq_true rfl⟩) hS (fun q _ h => h.1) (fun q h => h.1) (fun q _ h => h.1) (fun E9 ce9 q9 u9 t9 H9 locs9 ht9 hvm9 hpx9 hB9 hz9 hk9 hS9 hce9 hcv9 hcl9 => by
    obtain ⟨hE9, hP9, hD9⟩ := hB9
    rw [ht9] at hP9
    subst hE9
    have hPo9 := WO.keep hPo hk9
    refine vx_catch hown (own := RL) [⟨0, 12, 15, 13⟩] _ _ htb (fun z hz => by
      rcases List.mem_cons.mp hz with rfl | hz
      · exact Or.inr ⟨by decide, _, hts _ (List.mem_cons_of_mem _ (by decide +kernel) : Cond.classLink RL 13 "java/lang/IndexOutOfBoundsException" ∈ wsL_literal), hNx _ (by decide) _ (by decide) (by decide)⟩
      · exact nomatch hz) (by decide) (by decide) (name := "java/lang/IllegalArgumentException") (hts _ (by decide +kernel)) (tw_cast hTw (by decide +kernel)) hce9 hcv9 hcl9 ?_
    refine lv_astore hx hb dL_literal_19 hl (by decide) rfl (fun ls2 hl2 => ?_)
    refine lv_iconst (v := nI 2) hx hb dL_literal_21 (by decide) ?_
    exact vx_ret (W.iret (v := nI 2) hx hb hr (fun t ht hW => ⟨⟨_, (u9, f), rfl, ⟨rfl, hpx9, rfl⟩, by rw [ht]; exact hP9, hD9, by rw [ht]; exact hPo9⟩, hS9.F ht⟩) hS9.2.2 dL_literal_22)) (fun r u t H1 locs1 ht hvm hw => hw.elim)
set_option maxHeartbeats 4000000 in
set_option maxRecDepth 100000 in
theorem c_L_literal_full (l : Launch) (hlt : l.stackTraces = false) (D : va_G) (cI cL : ClassId) (A : Nat → Prop) (ad : Nat → Nat) (σ : Nat → Nat → Nat) (o : Nat) (f : Nat → Int64) (t1 u1 : Nat) (b : Bool) (hI : IC σ) (ht : t1 < σ 0 1) (hu : u1 < σ 0 1) (hsu : σ 6 t1 = σ 6 u1) (hd3 : σ 0 0 = 3) : vx_Met l yL_literal wsL_literal rL (va_Pc [.ref (ad 0), .int (nI t1), .int (nI u1), .int (bI b), .ref o] (Wo D cI cL A ad σ o f)) (va_Qi (fun r u => r = nI 3 ∧ u.1 = σ ∧ u.2 = f) (Bo D cI cL A ad o) A) (fun _ _ _ => False) 1 6 A := by
  refine vx_ofWH (cc := cL_literal) (maxL := 6) (ret := (some .int)) (hh := [(0, 12, 15, 13), (0, 12, 19, 15), (0, 12, 23, 27)]) (by decide) rfl ?_
  intro p e s m args below meth c s₁ B hml hv
  obtain ⟨rfl, ⟨⟨hP, hK, hD, hN, hZ⟩, hTh, hTw⟩, hPo, hKo, hAo, hNx⟩ := hv
  have hx := B.exec
  have hb := B.bytes
  have hr := B.returns
  have hts := atoms_spec (ws := wsL_literal) B.pre
  have hown : s.vm.findClass RL = some m.cls := findClass_of_methodNamed B.named
  have htb := vx_table (x := yL_literal) B (hts _ List.mem_cons_self)
  have hS : va_S A s.heap s.heap [] := va_S.rf
  have hl := lv_entry ([.ref (ad 0), .int (nI t1), .int (nI u1), .int (bI b), .ref o]) (n := 6) (Nat.le_of_ble_eq_true rfl)
  rw [lg_entry_eq]
  generalize (lg_sl ([.ref (ad 0), .int (nI t1), .int (nI u1), .int (bI b), .ref o]) ++ List.replicate (6 - (lg_sl ([.ref (ad 0), .int (nI t1), .int (nI u1), .int (bI b), .ref o])).length) Slot.unset).toArray = ls at hl ⊢
  have hl : lv_has ls 6 [(0, .ref (ad 0)), (1, .int (nI t1)), (2, .int (nI u1)), (3, .int (bI b)), (4, .ref o)] := hl
  refine lv_aload hx hb dL_literal_0 (lv_at hl 4 rfl) ?_
  refine lv_iconst (v := nI 0) hx hb dL_literal_2 (by decide) ?_
  refine lv_aload_n hx hb dL_literal_3 rfl (lv_at hl 0 rfl) ?_
  refine lv_iload_n hx hb dL_literal_4 rfl (lv_at hl 1 rfl) ?_
  refine lv_iload_n hx hb dL_literal_5 rfl (lv_at hl 2 rfl) ?_
  refine lv_iload_n hx hb dL_literal_6 rfl (lv_at hl 3 rfl) ?_
  exact vx_calli (vx_runV (As := [.int (nI t1), .int (nI u1), .int (bI b)]) (rest := [.int (nI 0), .ref o]) ⟨hx, hb, hml, hown, hts⟩ (x_X4_literal_full l hlt D cI (Ao A o) ad σ t1 u1 b hI ht hu hsu hd3) (cwV 3 hts gL_literal_X4_literal rfl rfl rfl (by decide +kernel) ⟨Nat.le_of_ble_eq_true rfl, Nat.le_of_ble_eq_true rfl⟩) ⟨Wx.blind, va_recv hK hP (ci := 3) (q0 := 0) rfl rfl, fun U hU hW => ⟨rfl, Wx.go hP hK hD hN hZ hTh hTw va_S.rf hU hW⟩⟩ rfl rfl hl.1 rfl (lv_room (Nat.le_of_ble_eq_true rfl)) dL_literal_7 ⟨Nat.le_of_ble_eq_true rfl, Nat.le_of_ble_eq_true rfl⟩) hS (fun q _ h => h.1) (fun q h => h.1) (fun q _ h => h.1) (fun E9 ce9 q9 u9 t9 H9 locs9 ht9 hvm9 hpx9 hB9 hz9 hk9 hS9 hce9 hcv9 hcl9 => by
    obtain ⟨hE9, hP9, hD9⟩ := hB9
    rw [ht9] at hP9
    subst hE9
    have hPo9 := WO.keep hPo hk9
    refine vx_catch hown (own := RL) [⟨0, 12, 15, 13⟩, ⟨0, 12, 19, 15⟩] _ _ htb (fun z hz => by
      rcases List.mem_cons.mp hz with rfl | hz
      · exact Or.inr ⟨by decide, _, hts _ (List.mem_cons_of_mem _ (by decide +kernel) : Cond.classLink RL 13 "java/lang/IndexOutOfBoundsException" ∈ wsL_literal), hNx _ (by decide) _ (by decide) (by decide)⟩
      · rcases List.mem_cons.mp hz with rfl | hz
        · exact Or.inr ⟨by decide, _, hts _ (List.mem_cons_of_mem _ (by decide +kernel) : Cond.classLink RL 15 "java/lang/IllegalArgumentException" ∈ wsL_literal), hNx _ (by decide) _ (by decide) (by decide)⟩
        · exact nomatch hz) (by decide) (by decide) (name := "java/lang/IllegalStateException") (hts _ (by decide +kernel)) (tw_cast hTw (by decide +kernel)) hce9 hcv9 hcl9 ?_
    refine lv_astore hx hb dL_literal_23 hl (by decide) rfl (fun ls2 hl2 => ?_)
    refine lv_iconst (v := nI 3) hx hb dL_literal_25 (by decide) ?_
    exact vx_ret (W.iret (v := nI 3) hx hb hr (fun t ht hW => ⟨⟨_, (u9, f), rfl, ⟨rfl, hpx9, rfl⟩, by rw [ht]; exact hP9, hD9, by rw [ht]; exact hPo9⟩, hS9.F ht⟩) hS9.2.2 dL_literal_26)) (fun r u t H1 locs1 ht hvm hw => hw.elim)
set_option maxHeartbeats 4000000 in
set_option maxRecDepth 100000 in
theorem c_L_same_o1 (l : Launch) (hlt : l.stackTraces = false) (D : va_G) (cI cL : ClassId) (A : Nat → Prop) (ad : Nat → Nat) (σ : Nat → Nat → Nat) (o : Nat) (f : Nat → Int64) (t1 u1 : Int32) (hI : IC σ) (hxo : t1 < 0 ∨ nI (σ 0 1) ≤ t1) : vx_Met l yL_same wsL_same rL (va_Pc [.ref (ad 0), .int t1, .int u1, .ref o] (Wo D cI cL A ad σ o f)) (va_Qi (fun r u => r = nI 1 ∧ KS σ u.1 ∧ u.2 = f) (Bo D cI cL A ad o) A) (fun _ _ _ => False) 1 6 A := by
  refine vx_ofWH (cc := cL_same) (maxL := 5) (ret := (some .int)) (hh := [(0, 10, 13, 13), (0, 10, 17, 15), (0, 10, 21, 27)]) (by decide) rfl ?_
  intro p e s m args below meth c s₁ B hml hv
  obtain ⟨rfl, ⟨⟨hP, hK, hD, hN, hZ⟩, hTh, hTw⟩, hPo, hKo, hAo, hNx⟩ := hv
  have hx := B.exec
  have hb := B.bytes
  have hr := B.returns
  have hts := atoms_spec (ws := wsL_same) B.pre
  have hown : s.vm.findClass RL = some m.cls := findClass_of_methodNamed B.named
  have htb := vx_table (x := yL_same) B (hts _ List.mem_cons_self)
  have hS : va_S A s.heap s.heap [] := va_S.rf
  have hl := lv_entry ([.ref (ad 0), .int t1, .int u1, .ref o]) (n := 5) (Nat.le_of_ble_eq_true rfl)
  rw [lg_entry_eq]
  generalize (lg_sl ([.ref (ad 0), .int t1, .int u1, .ref o]) ++ List.replicate (5 - (lg_sl ([.ref (ad 0), .int t1, .int u1, .ref o])).length) Slot.unset).toArray = ls at hl ⊢
  have hl : lv_has ls 5 [(0, .ref (ad 0)), (1, .int t1), (2, .int u1), (3, .ref o)] := hl
  refine lv_aload_n hx hb dL_same_0 rfl (lv_at hl 3 rfl) ?_
  refine lv_iconst (v := nI 0) hx hb dL_same_1 (by decide) ?_
  refine lv_aload_n hx hb dL_same_2 rfl (lv_at hl 0 rfl) ?_
  refine lv_iload_n hx hb dL_same_3 rfl (lv_at hl 1 rfl) ?_
  refine lv_iload_n hx hb dL_same_4 rfl (lv_at hl 2 rfl) ?_
  exact vx_calli (vx_runV (As := [.int t1, .int u1]) (rest := [.int (nI 0), .ref o]) ⟨hx, hb, hml, hown, hts⟩ (x_X4_same_o1 l hlt D cI (Ao A o) ad σ t1 u1 hI hxo) (cwV 2 hts gL_same_X4_same rfl rfl rfl (by decide +kernel) ⟨Nat.le_of_ble_eq_true rfl, Nat.le_of_ble_eq_true rfl⟩) ⟨Wx.blind, va_recv hK hP (ci := 3) (q0 := 0) rfl rfl, fun U hU hW => ⟨rfl, Wx.go hP hK hD hN hZ hTh hTw va_S.rf hU hW⟩⟩ rfl rfl hl.1 rfl (lv_room (Nat.le_of_ble_eq_true rfl)) dL_same_5 ⟨Nat.le_of_ble_eq_true rfl, Nat.le_of_ble_eq_true rfl⟩) hS (fun q _ h => h.1) (fun q h => h.1) (fun q _ h => h.1) (fun E9 ce9 q9 u9 t9 H9 locs9 ht9 hvm9 hpx9 hB9 hz9 hk9 hS9 hce9 hcv9 hcl9 => by
    obtain ⟨hE9, hP9, hD9⟩ := hB9
    rw [ht9] at hP9
    subst hE9
    have hPo9 := WO.keep hPo hk9
    refine vx_catch hown (own := RL) [] _ _ htb (fun z hz => nomatch hz) (by decide) (by decide) (name := "java/lang/IndexOutOfBoundsException") (hts _ (by decide +kernel)) (tw_cast hTw (by decide +kernel)) hce9 hcv9 hcl9 ?_
    refine lv_astore hx hb dL_same_13 hl (by decide) rfl (fun ls2 hl2 => ?_)
    refine lv_iconst (v := nI 1) hx hb dL_same_15 (by decide) ?_
    exact vx_ret (W.iret (v := nI 1) hx hb hr (fun t ht hW => ⟨⟨_, (u9, f), rfl, ⟨rfl, hpx9, rfl⟩, by rw [ht]; exact hP9, hD9, by rw [ht]; exact hPo9⟩, hS9.F ht⟩) hS9.2.2 dL_same_16)) (fun r u t H1 locs1 ht hvm hw => hw.elim)
set_option maxHeartbeats 4000000 in
set_option maxRecDepth 100000 in
theorem c_L_same_o2 (l : Launch) (hlt : l.stackTraces = false) (D : va_G) (cI cL : ClassId) (A : Nat → Prop) (ad : Nat → Nat) (σ : Nat → Nat → Nat) (o : Nat) (f : Nat → Int64) (t1 : Nat) (u1 : Int32) (hI : IC σ) (ht : t1 < σ 0 1) (hxo : u1 < 0 ∨ nI (σ 0 1) ≤ u1) : vx_Met l yL_same wsL_same rL (va_Pc [.ref (ad 0), .int (nI t1), .int u1, .ref o] (Wo D cI cL A ad σ o f)) (va_Qi (fun r u => r = nI 1 ∧ KS σ u.1 ∧ u.2 = f) (Bo D cI cL A ad o) A) (fun _ _ _ => False) 1 6 A := by
  refine vx_ofWH (cc := cL_same) (maxL := 5) (ret := (some .int)) (hh := [(0, 10, 13, 13), (0, 10, 17, 15), (0, 10, 21, 27)]) (by decide) rfl ?_
  intro p e s m args below meth c s₁ B hml hv
  obtain ⟨rfl, ⟨⟨hP, hK, hD, hN, hZ⟩, hTh, hTw⟩, hPo, hKo, hAo, hNx⟩ := hv
  have hx := B.exec
  have hb := B.bytes
  have hr := B.returns
  have hts := atoms_spec (ws := wsL_same) B.pre
  have hown : s.vm.findClass RL = some m.cls := findClass_of_methodNamed B.named
  have htb := vx_table (x := yL_same) B (hts _ List.mem_cons_self)
  have hS : va_S A s.heap s.heap [] := va_S.rf
  have hl := lv_entry ([.ref (ad 0), .int (nI t1), .int u1, .ref o]) (n := 5) (Nat.le_of_ble_eq_true rfl)
  rw [lg_entry_eq]
  generalize (lg_sl ([.ref (ad 0), .int (nI t1), .int u1, .ref o]) ++ List.replicate (5 - (lg_sl ([.ref (ad 0), .int (nI t1), .int u1, .ref o])).length) Slot.unset).toArray = ls at hl ⊢
  have hl : lv_has ls 5 [(0, .ref (ad 0)), (1, .int (nI t1)), (2, .int u1), (3, .ref o)] := hl
  refine lv_aload_n hx hb dL_same_0 rfl (lv_at hl 3 rfl) ?_
  refine lv_iconst (v := nI 0) hx hb dL_same_1 (by decide) ?_
  refine lv_aload_n hx hb dL_same_2 rfl (lv_at hl 0 rfl) ?_
  refine lv_iload_n hx hb dL_same_3 rfl (lv_at hl 1 rfl) ?_
  refine lv_iload_n hx hb dL_same_4 rfl (lv_at hl 2 rfl) ?_
  exact vx_calli (vx_runV (As := [.int (nI t1), .int u1]) (rest := [.int (nI 0), .ref o]) ⟨hx, hb, hml, hown, hts⟩ (x_X4_same_o2 l hlt D cI (Ao A o) ad σ t1 u1 hI ht hxo) (cwV 2 hts gL_same_X4_same rfl rfl rfl (by decide +kernel) ⟨Nat.le_of_ble_eq_true rfl, Nat.le_of_ble_eq_true rfl⟩) ⟨Wx.blind, va_recv hK hP (ci := 3) (q0 := 0) rfl rfl, fun U hU hW => ⟨rfl, Wx.go hP hK hD hN hZ hTh hTw va_S.rf hU hW⟩⟩ rfl rfl hl.1 rfl (lv_room (Nat.le_of_ble_eq_true rfl)) dL_same_5 ⟨Nat.le_of_ble_eq_true rfl, Nat.le_of_ble_eq_true rfl⟩) hS (fun q _ h => h.1) (fun q h => h.1) (fun q _ h => h.1) (fun E9 ce9 q9 u9 t9 H9 locs9 ht9 hvm9 hpx9 hB9 hz9 hk9 hS9 hce9 hcv9 hcl9 => by
    obtain ⟨hE9, hP9, hD9⟩ := hB9
    rw [ht9] at hP9
    subst hE9
    have hPo9 := WO.keep hPo hk9
    refine vx_catch hown (own := RL) [] _ _ htb (fun z hz => nomatch hz) (by decide) (by decide) (name := "java/lang/IndexOutOfBoundsException") (hts _ (by decide +kernel)) (tw_cast hTw (by decide +kernel)) hce9 hcv9 hcl9 ?_
    refine lv_astore hx hb dL_same_13 hl (by decide) rfl (fun ls2 hl2 => ?_)
    refine lv_iconst (v := nI 1) hx hb dL_same_15 (by decide) ?_
    exact vx_ret (W.iret (v := nI 1) hx hb hr (fun t ht hW => ⟨⟨_, (u9, f), rfl, ⟨rfl, hpx9, rfl⟩, by rw [ht]; exact hP9, hD9, by rw [ht]; exact hPo9⟩, hS9.F ht⟩) hS9.2.2 dL_same_16)) (fun r u t H1 locs1 ht hvm hw => hw.elim)
set_option maxHeartbeats 4000000 in
set_option maxRecDepth 100000 in
theorem c_L_same_sort (l : Launch) (hlt : l.stackTraces = false) (D : va_G) (cI cL : ClassId) (A : Nat → Prop) (ad : Nat → Nat) (σ : Nat → Nat → Nat) (o : Nat) (f : Nat → Int64) (t1 u1 : Nat) (hI : IC σ) (ht : t1 < σ 0 1) (hu : u1 < σ 0 1) (hsu : σ 6 t1 ≠ σ 6 u1) : vx_Met l yL_same wsL_same rL (va_Pc [.ref (ad 0), .int (nI t1), .int (nI u1), .ref o] (Wo D cI cL A ad σ o f)) (va_Qi (fun r u => r = nI 2 ∧ KS σ u.1 ∧ u.2 = f) (Bo D cI cL A ad o) A) (fun _ _ _ => False) 1 6 A := by
  refine vx_ofWH (cc := cL_same) (maxL := 5) (ret := (some .int)) (hh := [(0, 10, 13, 13), (0, 10, 17, 15), (0, 10, 21, 27)]) (by decide) rfl ?_
  intro p e s m args below meth c s₁ B hml hv
  obtain ⟨rfl, ⟨⟨hP, hK, hD, hN, hZ⟩, hTh, hTw⟩, hPo, hKo, hAo, hNx⟩ := hv
  have hx := B.exec
  have hb := B.bytes
  have hr := B.returns
  have hts := atoms_spec (ws := wsL_same) B.pre
  have hown : s.vm.findClass RL = some m.cls := findClass_of_methodNamed B.named
  have htb := vx_table (x := yL_same) B (hts _ List.mem_cons_self)
  have hS : va_S A s.heap s.heap [] := va_S.rf
  have hl := lv_entry ([.ref (ad 0), .int (nI t1), .int (nI u1), .ref o]) (n := 5) (Nat.le_of_ble_eq_true rfl)
  rw [lg_entry_eq]
  generalize (lg_sl ([.ref (ad 0), .int (nI t1), .int (nI u1), .ref o]) ++ List.replicate (5 - (lg_sl ([.ref (ad 0), .int (nI t1), .int (nI u1), .ref o])).length) Slot.unset).toArray = ls at hl ⊢
  have hl : lv_has ls 5 [(0, .ref (ad 0)), (1, .int (nI t1)), (2, .int (nI u1)), (3, .ref o)] := hl
  refine lv_aload_n hx hb dL_same_0 rfl (lv_at hl 3 rfl) ?_
  refine lv_iconst (v := nI 0) hx hb dL_same_1 (by decide) ?_
  refine lv_aload_n hx hb dL_same_2 rfl (lv_at hl 0 rfl) ?_
  refine lv_iload_n hx hb dL_same_3 rfl (lv_at hl 1 rfl) ?_
  refine lv_iload_n hx hb dL_same_4 rfl (lv_at hl 2 rfl) ?_
  exact vx_calli (vx_runV (As := [.int (nI t1), .int (nI u1)]) (rest := [.int (nI 0), .ref o]) ⟨hx, hb, hml, hown, hts⟩ (x_X4_same_sort l hlt D cI (Ao A o) ad σ t1 u1 hI ht hu hsu) (cwV 2 hts gL_same_X4_same rfl rfl rfl (by decide +kernel) ⟨Nat.le_of_ble_eq_true rfl, Nat.le_of_ble_eq_true rfl⟩) ⟨Wx.blind, va_recv hK hP (ci := 3) (q0 := 0) rfl rfl, fun U hU hW => ⟨rfl, Wx.go hP hK hD hN hZ hTh hTw va_S.rf hU hW⟩⟩ rfl rfl hl.1 rfl (lv_room (Nat.le_of_ble_eq_true rfl)) dL_same_5 ⟨Nat.le_of_ble_eq_true rfl, Nat.le_of_ble_eq_true rfl⟩) hS (fun q _ h => h.1) (fun q h => h.1) (fun q _ h => h.1) (fun E9 ce9 q9 u9 t9 H9 locs9 ht9 hvm9 hpx9 hB9 hz9 hk9 hS9 hce9 hcv9 hcl9 => by
    obtain ⟨hE9, hP9, hD9⟩ := hB9
    rw [ht9] at hP9
    subst hE9
    have hPo9 := WO.keep hPo hk9
    refine vx_catch hown (own := RL) [⟨0, 10, 13, 13⟩] _ _ htb (fun z hz => by
      rcases List.mem_cons.mp hz with rfl | hz
      · exact Or.inr ⟨by decide, _, hts _ (List.mem_cons_of_mem _ (by decide +kernel) : Cond.classLink RL 13 "java/lang/IndexOutOfBoundsException" ∈ wsL_same), hNx _ (by decide) _ (by decide) (by decide)⟩
      · exact nomatch hz) (by decide) (by decide) (name := "java/lang/IllegalArgumentException") (hts _ (by decide +kernel)) (tw_cast hTw (by decide +kernel)) hce9 hcv9 hcl9 ?_
    refine lv_astore hx hb dL_same_17 hl (by decide) rfl (fun ls2 hl2 => ?_)
    refine lv_iconst (v := nI 2) hx hb dL_same_19 (by decide) ?_
    exact vx_ret (W.iret (v := nI 2) hx hb hr (fun t ht hW => ⟨⟨_, (u9, f), rfl, ⟨rfl, hpx9, rfl⟩, by rw [ht]; exact hP9, hD9, by rw [ht]; exact hPo9⟩, hS9.F ht⟩) hS9.2.2 dL_same_20)) (fun r u t H1 locs1 ht hvm hw => hw.elim)
set_option maxHeartbeats 4000000 in
set_option maxRecDepth 100000 in
theorem c_L_same_cant (l : Launch) (hlt : l.stackTraces = false) (D : va_G) (cI cL : ClassId) (A : Nat → Prop) (ad : Nat → Nat) (σ : Nat → Nat → Nat) (o : Nat) (f : Nat → Int64) (t1 u1 : Nat) (hI : IC σ) (ht : t1 < σ 0 1) (hu : u1 < σ 0 1) (hsu : σ 6 t1 = σ 6 u1) (hW0 : WF σ) (hM0 : MadeW σ) (hcan1 : canXB σ 1 (fun _ => litF t1 u1 true) = false) (hcan0 : canXB σ 1 (fun _ => litF t1 u1 false) = false) : vx_Met l yL_same wsL_same rL (va_Pc [.ref (ad 0), .int (nI t1), .int (nI u1), .ref o] (Wo D cI cL A ad σ o f)) (va_Qi (fun r u => r = nI 3 ∧ KS σ u.1 ∧ u.2 = f) (Bo D cI cL A ad o) A) (fun _ _ _ => False) 1 6 A := by
  refine vx_ofWH (cc := cL_same) (maxL := 5) (ret := (some .int)) (hh := [(0, 10, 13, 13), (0, 10, 17, 15), (0, 10, 21, 27)]) (by decide) rfl ?_
  intro p e s m args below meth c s₁ B hml hv
  obtain ⟨rfl, ⟨⟨hP, hK, hD, hN, hZ⟩, hTh, hTw⟩, hPo, hKo, hAo, hNx⟩ := hv
  have hx := B.exec
  have hb := B.bytes
  have hr := B.returns
  have hts := atoms_spec (ws := wsL_same) B.pre
  have hown : s.vm.findClass RL = some m.cls := findClass_of_methodNamed B.named
  have htb := vx_table (x := yL_same) B (hts _ List.mem_cons_self)
  have hS : va_S A s.heap s.heap [] := va_S.rf
  have hl := lv_entry ([.ref (ad 0), .int (nI t1), .int (nI u1), .ref o]) (n := 5) (Nat.le_of_ble_eq_true rfl)
  rw [lg_entry_eq]
  generalize (lg_sl ([.ref (ad 0), .int (nI t1), .int (nI u1), .ref o]) ++ List.replicate (5 - (lg_sl ([.ref (ad 0), .int (nI t1), .int (nI u1), .ref o])).length) Slot.unset).toArray = ls at hl ⊢
  have hl : lv_has ls 5 [(0, .ref (ad 0)), (1, .int (nI t1)), (2, .int (nI u1)), (3, .ref o)] := hl
  refine lv_aload_n hx hb dL_same_0 rfl (lv_at hl 3 rfl) ?_
  refine lv_iconst (v := nI 0) hx hb dL_same_1 (by decide) ?_
  refine lv_aload_n hx hb dL_same_2 rfl (lv_at hl 0 rfl) ?_
  refine lv_iload_n hx hb dL_same_3 rfl (lv_at hl 1 rfl) ?_
  refine lv_iload_n hx hb dL_same_4 rfl (lv_at hl 2 rfl) ?_
  exact vx_calli (vx_runV (As := [.int (nI t1), .int (nI u1)]) (rest := [.int (nI 0), .ref o]) ⟨hx, hb, hml, hown, hts⟩ (x_X4_same_cant l hlt D cI (Ao A o) ad σ t1 u1 hI ht hu hsu hW0 hM0 hcan1 hcan0) (cwV 2 hts gL_same_X4_same rfl rfl rfl (by decide +kernel) ⟨Nat.le_of_ble_eq_true rfl, Nat.le_of_ble_eq_true rfl⟩) ⟨Wx.blind, va_recv hK hP (ci := 3) (q0 := 0) rfl rfl, fun U hU hW => ⟨rfl, Wx.go hP hK hD hN hZ hTh hTw va_S.rf hU hW⟩⟩ rfl rfl hl.1 rfl (lv_room (Nat.le_of_ble_eq_true rfl)) dL_same_5 ⟨Nat.le_of_ble_eq_true rfl, Nat.le_of_ble_eq_true rfl⟩) hS (fun q _ h => h.1) (fun q h => h.1) (fun q _ h => h.1) (fun E9 ce9 q9 u9 t9 H9 locs9 ht9 hvm9 hpx9 hB9 hz9 hk9 hS9 hce9 hcv9 hcl9 => by
    obtain ⟨hE9, hP9, hD9⟩ := hB9
    rw [ht9] at hP9
    subst hE9
    have hPo9 := WO.keep hPo hk9
    refine vx_catch hown (own := RL) [⟨0, 10, 13, 13⟩, ⟨0, 10, 17, 15⟩] _ _ htb (fun z hz => by
      rcases List.mem_cons.mp hz with rfl | hz
      · exact Or.inr ⟨by decide, _, hts _ (List.mem_cons_of_mem _ (by decide +kernel) : Cond.classLink RL 13 "java/lang/IndexOutOfBoundsException" ∈ wsL_same), hNx _ (by decide) _ (by decide) (by decide)⟩
      · rcases List.mem_cons.mp hz with rfl | hz
        · exact Or.inr ⟨by decide, _, hts _ (List.mem_cons_of_mem _ (by decide +kernel) : Cond.classLink RL 15 "java/lang/IllegalArgumentException" ∈ wsL_same), hNx _ (by decide) _ (by decide) (by decide)⟩
        · exact nomatch hz) (by decide) (by decide) (name := "java/lang/IllegalStateException") (hts _ (by decide +kernel)) (tw_cast hTw (by decide +kernel)) hce9 hcv9 hcl9 ?_
    refine lv_astore hx hb dL_same_21 hl (by decide) rfl (fun ls2 hl2 => ?_)
    refine lv_iconst (v := nI 3) hx hb dL_same_23 (by decide) ?_
    exact vx_ret (W.iret (v := nI 3) hx hb hr (fun t ht hW => ⟨⟨_, (u9, f), rfl, ⟨rfl, hpx9, rfl⟩, by rw [ht]; exact hP9, hD9, by rw [ht]; exact hPo9⟩, hS9.F ht⟩) hS9.2.2 dL_same_24)) (fun r u t H1 locs1 ht hvm hw => hw.elim)
set_option maxHeartbeats 4000000 in
set_option maxRecDepth 100000 in
theorem c_L_claim_none (l : Launch) (hlt : l.stackTraces = false) (D : va_G) (cI cL : ClassId) (A : Nat → Prop) (ad : Nat → Nat) (σ : Nat → Nat → Nat) (o : Nat) (f : Nat → Int64)  (hd0 : σ 0 0 = 0) : vx_Met l yL_claim wsL_claim rL (va_Pc [.ref (ad 0), .ref o] (Wo D cI cL A ad σ o f)) (va_Qi (fun r u => r = nI 1 ∧ u.1 = σ ∧ u.2 = f) (Bo D cI cL A ad o) A) (fun _ _ _ => False) 1 6 A := by
  refine vx_ofWH (cc := cL_claim) (maxL := 3) (ret := (some .int)) (hh := [(0, 8, 11, 27), (0, 8, 14, 17)]) (by decide) rfl ?_
  intro p e s m args below meth c s₁ B hml hv
  obtain ⟨rfl, ⟨⟨hP, hK, hD, hN, hZ⟩, hTh, hTw⟩, hPo, hKo, hAo, hNx⟩ := hv
  have hx := B.exec
  have hb := B.bytes
  have hr := B.returns
  have hts := atoms_spec (ws := wsL_claim) B.pre
  have hown : s.vm.findClass RL = some m.cls := findClass_of_methodNamed B.named
  have htb := vx_table (x := yL_claim) B (hts _ List.mem_cons_self)
  have hS : va_S A s.heap s.heap [] := va_S.rf
  have hl := lv_entry ([.ref (ad 0), .ref o]) (n := 3) (Nat.le_of_ble_eq_true rfl)
  rw [lg_entry_eq]
  generalize (lg_sl ([.ref (ad 0), .ref o]) ++ List.replicate (3 - (lg_sl ([.ref (ad 0), .ref o])).length) Slot.unset).toArray = ls at hl ⊢
  have hl : lv_has ls 3 [(0, .ref (ad 0)), (1, .ref o)] := hl
  refine lv_aload_n hx hb dL_claim_0 rfl (lv_at hl 1 rfl) ?_
  refine lv_iconst (v := nI 0) hx hb dL_claim_1 (by decide) ?_
  refine lv_aload_n hx hb dL_claim_2 rfl (lv_at hl 0 rfl) ?_
  exact vx_calli (vx_runV (As := []) (rest := [.int (nI 0), .ref o]) ⟨hx, hb, hml, hown, hts⟩ (x_X4_claim_none l hlt D cI (Ao A o) ad σ  hd0) (cwV 0 hts gL_claim_X4_claim rfl rfl rfl (by decide +kernel) ⟨Nat.le_of_ble_eq_true rfl, Nat.le_of_ble_eq_true rfl⟩) ⟨Wx.blind, va_recv hK hP (ci := 3) (q0 := 0) rfl rfl, fun U hU hW => ⟨rfl, Wx.go hP hK hD hN hZ hTh hTw va_S.rf hU hW⟩⟩ rfl rfl hl.1 rfl (lv_room (Nat.le_of_ble_eq_true rfl)) dL_claim_3 ⟨Nat.le_of_ble_eq_true rfl, Nat.le_of_ble_eq_true rfl⟩) hS (fun q _ h => h.1) (fun q h => h.1) (fun q _ h => h.1) (fun E9 ce9 q9 u9 t9 H9 locs9 ht9 hvm9 hpx9 hB9 hz9 hk9 hS9 hce9 hcv9 hcl9 => by
    obtain ⟨hE9, hP9, hD9⟩ := hB9
    rw [ht9] at hP9
    subst hE9
    have hPo9 := WO.keep hPo hk9
    refine vx_catch hown (own := RL) [] _ _ htb (fun z hz => nomatch hz) (by decide) (by decide) (name := "java/lang/IllegalStateException") (hts _ (by decide +kernel)) (tw_cast hTw (by decide +kernel)) hce9 hcv9 hcl9 ?_
    refine lv_astore_n hx hb dL_claim_11 rfl hl (by decide) rfl (fun ls2 hl2 => ?_)
    refine lv_iconst (v := nI 1) hx hb dL_claim_12 (by decide) ?_
    exact vx_ret (W.iret (v := nI 1) hx hb hr (fun t ht hW => ⟨⟨_, (u9, f), rfl, ⟨rfl, hpx9, rfl⟩, by rw [ht]; exact hP9, hD9, by rw [ht]; exact hPo9⟩, hS9.F ht⟩) hS9.2.2 dL_claim_13)) (fun r u t H1 locs1 ht hvm hw => hw.elim)
set_option maxHeartbeats 4000000 in
set_option maxRecDepth 100000 in
theorem c_L_claim_full (l : Launch) (hlt : l.stackTraces = false) (D : va_G) (cI cL : ClassId) (A : Nat → Prop) (ad : Nat → Nat) (σ : Nat → Nat → Nat) (o : Nat) (f : Nat → Int64)  (hI : IC σ) (hd0 : σ 0 0 ≠ 0) (hc8 : σ 0 2 = 8) : vx_Met l yL_claim wsL_claim rL (va_Pc [.ref (ad 0), .ref o] (Wo D cI cL A ad σ o f)) (va_Qi (fun r u => r = nI 2 ∧ u.1 = σ ∧ u.2 = f) (Bo D cI cL A ad o) A) (fun _ _ _ => False) 1 6 A := by
  refine vx_ofWH (cc := cL_claim) (maxL := 3) (ret := (some .int)) (hh := [(0, 8, 11, 27), (0, 8, 14, 17)]) (by decide) rfl ?_
  intro p e s m args below meth c s₁ B hml hv
  obtain ⟨rfl, ⟨⟨hP, hK, hD, hN, hZ⟩, hTh, hTw⟩, hPo, hKo, hAo, hNx⟩ := hv
  have hx := B.exec
  have hb := B.bytes
  have hr := B.returns
  have hts := atoms_spec (ws := wsL_claim) B.pre
  have hown : s.vm.findClass RL = some m.cls := findClass_of_methodNamed B.named
  have htb := vx_table (x := yL_claim) B (hts _ List.mem_cons_self)
  have hS : va_S A s.heap s.heap [] := va_S.rf
  have hl := lv_entry ([.ref (ad 0), .ref o]) (n := 3) (Nat.le_of_ble_eq_true rfl)
  rw [lg_entry_eq]
  generalize (lg_sl ([.ref (ad 0), .ref o]) ++ List.replicate (3 - (lg_sl ([.ref (ad 0), .ref o])).length) Slot.unset).toArray = ls at hl ⊢
  have hl : lv_has ls 3 [(0, .ref (ad 0)), (1, .ref o)] := hl
  refine lv_aload_n hx hb dL_claim_0 rfl (lv_at hl 1 rfl) ?_
  refine lv_iconst (v := nI 0) hx hb dL_claim_1 (by decide) ?_
  refine lv_aload_n hx hb dL_claim_2 rfl (lv_at hl 0 rfl) ?_
  exact vx_calli (vx_runV (As := []) (rest := [.int (nI 0), .ref o]) ⟨hx, hb, hml, hown, hts⟩ (x_X4_claim_full l hlt D cI (Ao A o) ad σ  hI hd0 hc8) (cwV 0 hts gL_claim_X4_claim rfl rfl rfl (by decide +kernel) ⟨Nat.le_of_ble_eq_true rfl, Nat.le_of_ble_eq_true rfl⟩) ⟨Wx.blind, va_recv hK hP (ci := 3) (q0 := 0) rfl rfl, fun U hU hW => ⟨rfl, Wx.go hP hK hD hN hZ hTh hTw va_S.rf hU hW⟩⟩ rfl rfl hl.1 rfl (lv_room (Nat.le_of_ble_eq_true rfl)) dL_claim_3 ⟨Nat.le_of_ble_eq_true rfl, Nat.le_of_ble_eq_true rfl⟩) hS (fun q _ h => h.1) (fun q h => h.1) (fun q _ h => h.1) (fun E9 ce9 q9 u9 t9 H9 locs9 ht9 hvm9 hpx9 hB9 hz9 hk9 hS9 hce9 hcv9 hcl9 => by
    obtain ⟨hE9, hP9, hD9⟩ := hB9
    rw [ht9] at hP9
    subst hE9
    have hPo9 := WO.keep hPo hk9
    refine vx_catch hown (own := RL) [⟨0, 8, 11, 27⟩] _ _ htb (fun z hz => by
      rcases List.mem_cons.mp hz with rfl | hz
      · exact Or.inr ⟨by decide, _, hts _ (List.mem_cons_of_mem _ (by decide +kernel) : Cond.classLink RL 27 "java/lang/IllegalStateException" ∈ wsL_claim), hNx _ (by decide) _ (by decide) (by decide)⟩
      · exact nomatch hz) (by decide) (by decide) (name := "java/lang/UnsupportedOperationException") (hts _ (by decide +kernel)) (tw_cast hTw (by decide +kernel)) hce9 hcv9 hcl9 ?_
    refine lv_astore_n hx hb dL_claim_14 rfl hl (by decide) rfl (fun ls2 hl2 => ?_)
    refine lv_iconst (v := nI 2) hx hb dL_claim_15 (by decide) ?_
    exact vx_ret (W.iret (v := nI 2) hx hb hr (fun t ht hW => ⟨⟨_, (u9, f), rfl, ⟨rfl, hpx9, rfl⟩, by rw [ht]; exact hP9, hD9, by rw [ht]; exact hPo9⟩, hS9.F ht⟩) hS9.2.2 dL_claim_16)) (fun r u t H1 locs1 ht hvm hw => hw.elim)
set_option maxHeartbeats 4000000 in
set_option maxRecDepth 100000 in
theorem c_L_without_out (l : Launch) (hlt : l.stackTraces = false) (D : va_G) (cI cL : ClassId) (A : Nat → Prop) (ad : Nat → Nat) (σ : Nat → Nat → Nat) (o : Nat) (f : Nat → Int64) (x : Int32) (hxo : x < 0 ∨ ¬ x < nI (σ 0 2)) : vx_Met l yL_without wsL_without rL (va_Pc [.ref (ad 0), .int x, .ref o] (Wo D cI cL A ad σ o f)) (va_Qi (fun r u => r = nI 1 ∧ u.1 = σ ∧ u.2 = f) (Bo D cI cL A ad o) A) (fun _ _ _ => False) 1 6 A := by
  refine vx_ofWH (cc := cL_without) (maxL := 4) (ret := (some .int)) (hh := [(0, 16, 19, 13)]) (by decide) rfl ?_
  intro p e s m args below meth c s₁ B hml hv
  obtain ⟨rfl, ⟨⟨hP, hK, hD, hN, hZ⟩, hTh, hTw⟩, hPo, hKo, hAo, hNx⟩ := hv
  have hx := B.exec
  have hb := B.bytes
  have hr := B.returns
  have hts := atoms_spec (ws := wsL_without) B.pre
  have hown : s.vm.findClass RL = some m.cls := findClass_of_methodNamed B.named
  have htb := vx_table (x := yL_without) B (hts _ List.mem_cons_self)
  have hS : va_S A s.heap s.heap [] := va_S.rf
  have hl := lv_entry ([.ref (ad 0), .int x, .ref o]) (n := 4) (Nat.le_of_ble_eq_true rfl)
  rw [lg_entry_eq]
  generalize (lg_sl ([.ref (ad 0), .int x, .ref o]) ++ List.replicate (4 - (lg_sl ([.ref (ad 0), .int x, .ref o])).length) Slot.unset).toArray = ls at hl ⊢
  have hl : lv_has ls 4 [(0, .ref (ad 0)), (1, .int x), (2, .ref o)] := hl
  refine lv_aload_n hx hb dL_without_0 rfl (lv_at hl 2 rfl) ?_
  refine lv_iconst (v := nI 0) hx hb dL_without_1 (by decide) ?_
  refine lv_aload_n hx hb dL_without_2 rfl (lv_at hl 0 rfl) ?_
  refine lv_iload_n hx hb dL_without_3 rfl (lv_at hl 1 rfl) ?_
  exact vx_calli (vx_runV (As := [.int x]) (rest := [.int (nI 0), .ref o]) ⟨hx, hb, hml, hown, hts⟩ (x_X4_without_out l hlt D cI (Ao A o) ad σ x hxo) (cwV 1 hts gL_without_X4_without rfl rfl rfl (by decide +kernel) ⟨Nat.le_of_ble_eq_true rfl, Nat.le_of_ble_eq_true rfl⟩) ⟨Wx.blind, va_recv hK hP (ci := 3) (q0 := 0) rfl rfl, fun U hU hW => ⟨rfl, Wx.go hP hK hD hN hZ hTh hTw va_S.rf hU hW⟩⟩ rfl rfl hl.1 rfl (lv_room (Nat.le_of_ble_eq_true rfl)) dL_without_4 ⟨Nat.le_of_ble_eq_true rfl, Nat.le_of_ble_eq_true rfl⟩) hS (fun q _ h => h.1) (fun q h => h.1) (fun q _ h => h.1) (fun E9 ce9 q9 u9 t9 H9 locs9 ht9 hvm9 hpx9 hB9 hz9 hk9 hS9 hce9 hcv9 hcl9 => by
    obtain ⟨hE9, hP9, hD9⟩ := hB9
    rw [ht9] at hP9
    subst hE9
    have hPo9 := WO.keep hPo hk9
    refine vx_catch hown (own := RL) [] _ _ htb (fun z hz => nomatch hz) (by decide) (by decide) (name := "java/lang/IndexOutOfBoundsException") (hts _ (by decide +kernel)) (tw_cast hTw (by decide +kernel)) hce9 hcv9 hcl9 ?_
    refine lv_astore_n hx hb dL_without_19 rfl hl (by decide) rfl (fun ls2 hl2 => ?_)
    refine lv_iconst (v := nI 1) hx hb dL_without_20 (by decide) ?_
    exact vx_ret (W.iret (v := nI 1) hx hb hr (fun t ht hW => ⟨⟨_, (u9, f), rfl, ⟨rfl, hpx9, rfl⟩, by rw [ht]; exact hP9, hD9, by rw [ht]; exact hPo9⟩, hS9.F ht⟩) hS9.2.2 dL_without_21)) (fun r u t H1 locs1 ht hvm hw => hw.elim)
set_option maxHeartbeats 4000000 in
set_option maxRecDepth 100000 in
theorem c_L_follows_none (l : Launch) (hlt : l.stackTraces = false) (D : va_G) (cI cL : ClassId) (A : Nat → Prop) (ad : Nat → Nat) (σ : Nat → Nat → Nat) (o : Nat) (f : Nat → Int64)  (hI : IC σ) (hd0 : σ 0 0 = 0) : vx_Met l yL_follows wsL_follows rL (va_Pc [.ref (ad 0), .ref o] (Wo D cI cL A ad σ o f)) (va_Qi (fun r u => r = nI 1 ∧ KS σ u.1 ∧ u.2 = f) (Bo D cI cL A ad o) A) (fun _ _ _ => False) 1 6 A := by
  refine vx_ofWH (cc := cL_follows) (maxL := 3) (ret := (some .int)) (hh := [(0, 15, 18, 27)]) (by decide) rfl ?_
  intro p e s m args below meth c s₁ B hml hv
  obtain ⟨rfl, ⟨⟨hP, hK, hD, hN, hZ⟩, hTh, hTw⟩, hPo, hKo, hAo, hNx⟩ := hv
  have hx := B.exec
  have hb := B.bytes
  have hr := B.returns
  have hts := atoms_spec (ws := wsL_follows) B.pre
  have hown : s.vm.findClass RL = some m.cls := findClass_of_methodNamed B.named
  have htb := vx_table (x := yL_follows) B (hts _ List.mem_cons_self)
  have hS : va_S A s.heap s.heap [] := va_S.rf
  have hl := lv_entry ([.ref (ad 0), .ref o]) (n := 3) (Nat.le_of_ble_eq_true rfl)
  rw [lg_entry_eq]
  generalize (lg_sl ([.ref (ad 0), .ref o]) ++ List.replicate (3 - (lg_sl ([.ref (ad 0), .ref o])).length) Slot.unset).toArray = ls at hl ⊢
  have hl : lv_has ls 3 [(0, .ref (ad 0)), (1, .ref o)] := hl
  refine lv_aload_n hx hb dL_follows_0 rfl (lv_at hl 1 rfl) ?_
  refine lv_iconst (v := nI 0) hx hb dL_follows_1 (by decide) ?_
  refine lv_aload_n hx hb dL_follows_2 rfl (lv_at hl 0 rfl) ?_
  exact vx_calli (vx_runV (As := []) (rest := [.int (nI 0), .ref o]) ⟨hx, hb, hml, hown, hts⟩ (x_X4_follows_none l hlt D cI (Ao A o) ad σ  hI hd0) (cwV 0 hts gL_follows_X4_follows rfl rfl rfl (by decide +kernel) ⟨Nat.le_of_ble_eq_true rfl, Nat.le_of_ble_eq_true rfl⟩) ⟨Wx.blind, va_recv hK hP (ci := 3) (q0 := 0) rfl rfl, fun U hU hW => ⟨rfl, Wx.go hP hK hD hN hZ hTh hTw va_S.rf hU hW⟩⟩ rfl rfl hl.1 rfl (lv_room (Nat.le_of_ble_eq_true rfl)) dL_follows_3 ⟨Nat.le_of_ble_eq_true rfl, Nat.le_of_ble_eq_true rfl⟩) hS (fun q _ h => h.1) (fun q h => h.1) (fun q _ h => h.1) (fun E9 ce9 q9 u9 t9 H9 locs9 ht9 hvm9 hpx9 hB9 hz9 hk9 hS9 hce9 hcv9 hcl9 => by
    obtain ⟨hE9, hP9, hD9⟩ := hB9
    rw [ht9] at hP9
    subst hE9
    have hPo9 := WO.keep hPo hk9
    refine vx_catch hown (own := RL) [] _ _ htb (fun z hz => nomatch hz) (by decide) (by decide) (name := "java/lang/IllegalStateException") (hts _ (by decide +kernel)) (tw_cast hTw (by decide +kernel)) hce9 hcv9 hcl9 ?_
    refine lv_astore_n hx hb dL_follows_18 rfl hl (by decide) rfl (fun ls2 hl2 => ?_)
    refine lv_iconst (v := nI 1) hx hb dL_follows_19 (by decide) ?_
    exact vx_ret (W.iret (v := nI 1) hx hb hr (fun t ht hW => ⟨⟨_, (u9, f), rfl, ⟨rfl, hpx9, rfl⟩, by rw [ht]; exact hP9, hD9, by rw [ht]; exact hPo9⟩, hS9.F ht⟩) hS9.2.2 dL_follows_20)) (fun r u t H1 locs1 ht hvm hw => hw.elim)
set_option maxHeartbeats 4000000 in
set_option maxRecDepth 100000 in
theorem c_L_apart_f_no (l : Launch) (hlt : l.stackTraces = false) (D : va_G) (cI cL : ClassId) (A : Nat → Prop) (ad : Nat → Nat) (σ : Nat → Nat → Nat) (o : Nat) (f : Nat → Int64)  (hI : IC σ) (hW0 : WF σ) (hM0 : MadeW σ) (hcan : ¬ ∃ w, w < 5 ∧ SatM σ w (σ 0 2) 0) : vx_Met l yL_apart wsL_apart rL (va_Pc [.ref (ad 0), .int (nI 1), .ref o] (Wo D cI cL A ad σ o f)) (va_Qi (fun r u => r = nI 1 ∧ KS σ u.1 ∧ u.2 = f) (Bo D cI cL A ad o) A) (fun _ _ _ => False) 1 6 A := by
  refine vx_ofWH (cc := cL_apart) (maxL := 4) (ret := (some .int)) (hh := [(0, 9, 12, 27)]) (by decide) rfl ?_
  intro p e s m args below meth c s₁ B hml hv
  obtain ⟨rfl, ⟨⟨hP, hK, hD, hN, hZ⟩, hTh, hTw⟩, hPo, hKo, hAo, hNx⟩ := hv
  have hx := B.exec
  have hb := B.bytes
  have hr := B.returns
  have hts := atoms_spec (ws := wsL_apart) B.pre
  have hown : s.vm.findClass RL = some m.cls := findClass_of_methodNamed B.named
  have htb := vx_table (x := yL_apart) B (hts _ List.mem_cons_self)
  have hS : va_S A s.heap s.heap [] := va_S.rf
  have hl := lv_entry ([.ref (ad 0), .int (nI 1), .ref o]) (n := 4) (Nat.le_of_ble_eq_true rfl)
  rw [lg_entry_eq]
  generalize (lg_sl ([.ref (ad 0), .int (nI 1), .ref o]) ++ List.replicate (4 - (lg_sl ([.ref (ad 0), .int (nI 1), .ref o])).length) Slot.unset).toArray = ls at hl ⊢
  have hl : lv_has ls 4 [(0, .ref (ad 0)), (1, .int (nI 1)), (2, .ref o)] := hl
  refine lv_aload_n hx hb dL_apart_0 rfl (lv_at hl 2 rfl) ?_
  refine lv_iconst (v := nI 0) hx hb dL_apart_1 (by decide) ?_
  refine lv_aload_n hx hb dL_apart_2 rfl (lv_at hl 0 rfl) ?_
  refine lv_iload_n hx hb dL_apart_3 rfl (lv_at hl 1 rfl) ?_
  exact vx_calli (vx_runV (As := [.int (nI 1)]) (rest := [.int (nI 0), .ref o]) ⟨hx, hb, hml, hown, hts⟩ (x_X4_apart_f_no l hlt D cI (Ao A o) ad σ  hI hW0 hM0 hcan) (cwV 1 hts gL_apart_X4_apart rfl rfl rfl (by decide +kernel) ⟨Nat.le_of_ble_eq_true rfl, Nat.le_of_ble_eq_true rfl⟩) ⟨Wx.blind, va_recv hK hP (ci := 3) (q0 := 0) rfl rfl, fun U hU hW => ⟨rfl, Wx.go hP hK hD hN hZ hTh hTw va_S.rf hU hW⟩⟩ rfl rfl hl.1 rfl (lv_room (Nat.le_of_ble_eq_true rfl)) dL_apart_4 ⟨Nat.le_of_ble_eq_true rfl, Nat.le_of_ble_eq_true rfl⟩) hS (fun q _ h => h.1) (fun q h => h.1) (fun q _ h => h.1) (fun E9 ce9 q9 u9 t9 H9 locs9 ht9 hvm9 hpx9 hB9 hz9 hk9 hS9 hce9 hcv9 hcl9 => by
    obtain ⟨hE9, hP9, hD9⟩ := hB9
    rw [ht9] at hP9
    subst hE9
    have hPo9 := WO.keep hPo hk9
    refine vx_catch hown (own := RL) [] _ _ htb (fun z hz => nomatch hz) (by decide) (by decide) (name := "java/lang/IllegalStateException") (hts _ (by decide +kernel)) (tw_cast hTw (by decide +kernel)) hce9 hcv9 hcl9 ?_
    refine lv_astore_n hx hb dL_apart_12 rfl hl (by decide) rfl (fun ls2 hl2 => ?_)
    refine lv_iconst (v := nI 1) hx hb dL_apart_13 (by decide) ?_
    exact vx_ret (W.iret (v := nI 1) hx hb hr (fun t ht hW => ⟨⟨_, (u9, f), rfl, ⟨rfl, hpx9, rfl⟩, by rw [ht]; exact hP9, hD9, by rw [ht]; exact hPo9⟩, hS9.F ht⟩) hS9.2.2 dL_apart_14)) (fun r u t H1 locs1 ht hvm hw => hw.elim)
set_option maxHeartbeats 4000000 in
set_option maxRecDepth 100000 in
theorem c_L_apart_m_no (l : Launch) (hlt : l.stackTraces = false) (D : va_G) (cI cL : ClassId) (A : Nat → Prop) (ad : Nat → Nat) (σ : Nat → Nat → Nat) (o : Nat) (f : Nat → Int64)  (hI : IC σ) (hW0 : WF σ) (hM0 : MadeW σ) (hcan : ¬ ∃ w, w < 5 ∧ SatM σ w (σ 0 2) 0) : vx_Met l yL_apart wsL_apart rL (va_Pc [.ref (ad 0), .int (nI 0), .ref o] (Wo D cI cL A ad σ o f)) (va_Qi (fun r u => r = nI 1 ∧ KS σ u.1 ∧ u.2 = f) (Bo D cI cL A ad o) A) (fun _ _ _ => False) 1 6 A := by
  refine vx_ofWH (cc := cL_apart) (maxL := 4) (ret := (some .int)) (hh := [(0, 9, 12, 27)]) (by decide) rfl ?_
  intro p e s m args below meth c s₁ B hml hv
  obtain ⟨rfl, ⟨⟨hP, hK, hD, hN, hZ⟩, hTh, hTw⟩, hPo, hKo, hAo, hNx⟩ := hv
  have hx := B.exec
  have hb := B.bytes
  have hr := B.returns
  have hts := atoms_spec (ws := wsL_apart) B.pre
  have hown : s.vm.findClass RL = some m.cls := findClass_of_methodNamed B.named
  have htb := vx_table (x := yL_apart) B (hts _ List.mem_cons_self)
  have hS : va_S A s.heap s.heap [] := va_S.rf
  have hl := lv_entry ([.ref (ad 0), .int (nI 0), .ref o]) (n := 4) (Nat.le_of_ble_eq_true rfl)
  rw [lg_entry_eq]
  generalize (lg_sl ([.ref (ad 0), .int (nI 0), .ref o]) ++ List.replicate (4 - (lg_sl ([.ref (ad 0), .int (nI 0), .ref o])).length) Slot.unset).toArray = ls at hl ⊢
  have hl : lv_has ls 4 [(0, .ref (ad 0)), (1, .int (nI 0)), (2, .ref o)] := hl
  refine lv_aload_n hx hb dL_apart_0 rfl (lv_at hl 2 rfl) ?_
  refine lv_iconst (v := nI 0) hx hb dL_apart_1 (by decide) ?_
  refine lv_aload_n hx hb dL_apart_2 rfl (lv_at hl 0 rfl) ?_
  refine lv_iload_n hx hb dL_apart_3 rfl (lv_at hl 1 rfl) ?_
  exact vx_calli (vx_runV (As := [.int (nI 0)]) (rest := [.int (nI 0), .ref o]) ⟨hx, hb, hml, hown, hts⟩ (x_X4_apart_m_no l hlt D cI (Ao A o) ad σ  hI hW0 hM0 hcan) (cwV 1 hts gL_apart_X4_apart rfl rfl rfl (by decide +kernel) ⟨Nat.le_of_ble_eq_true rfl, Nat.le_of_ble_eq_true rfl⟩) ⟨Wx.blind, va_recv hK hP (ci := 3) (q0 := 0) rfl rfl, fun U hU hW => ⟨rfl, Wx.go hP hK hD hN hZ hTh hTw va_S.rf hU hW⟩⟩ rfl rfl hl.1 rfl (lv_room (Nat.le_of_ble_eq_true rfl)) dL_apart_4 ⟨Nat.le_of_ble_eq_true rfl, Nat.le_of_ble_eq_true rfl⟩) hS (fun q _ h => h.1) (fun q h => h.1) (fun q _ h => h.1) (fun E9 ce9 q9 u9 t9 H9 locs9 ht9 hvm9 hpx9 hB9 hz9 hk9 hS9 hce9 hcv9 hcl9 => by
    obtain ⟨hE9, hP9, hD9⟩ := hB9
    rw [ht9] at hP9
    subst hE9
    have hPo9 := WO.keep hPo hk9
    refine vx_catch hown (own := RL) [] _ _ htb (fun z hz => nomatch hz) (by decide) (by decide) (name := "java/lang/IllegalStateException") (hts _ (by decide +kernel)) (tw_cast hTw (by decide +kernel)) hce9 hcv9 hcl9 ?_
    refine lv_astore_n hx hb dL_apart_12 rfl hl (by decide) rfl (fun ls2 hl2 => ?_)
    refine lv_iconst (v := nI 1) hx hb dL_apart_13 (by decide) ?_
    exact vx_ret (W.iret (v := nI 1) hx hb hr (fun t ht hW => ⟨⟨_, (u9, f), rfl, ⟨rfl, hpx9, rfl⟩, by rw [ht]; exact hP9, hD9, by rw [ht]; exact hPo9⟩, hS9.F ht⟩) hS9.2.2 dL_apart_14)) (fun r u t H1 locs1 ht hvm hw => hw.elim)
