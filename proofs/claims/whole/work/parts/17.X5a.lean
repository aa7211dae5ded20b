set_option maxHeartbeats 4000000 in
set_option maxRecDepth 100000 in
theorem m_X5_set (l : Launch) (hl0 : l.stackTraces = false) (D : va_G) (cC cI cJ : ClassId) (h0 h1 h2 h3 h4 h5 h6 h7 : Nat) (u : StX) (sz : Nat) (a0 : Int32) (a1 : Int32) (a2 : Int32) (res : (String ⊕ (Int64 × StX))) (hf : f_X5_set u a0 a1 a2 = some res) : vx_Met l yX5_set wsX5_set rmX5_set (my_PcTM D vwCl (KT cC cI cJ) sz (wX cC cI cJ h0 h1 h2 h3 h4 h5 h6 h7 u) [.ref h0, .int a0, .int a1, .int a2]) (va_Ql (fun r v => ∃ z, r = z.1 ∧ v = z.2 ∧ res = .inr z) (my_B D vwCl (KT cC cI cJ) (va_A (wX cC cI cJ h0 h1 h2 h3 h4 h5 h6 h7 u) sz) (fun v : StX => (wX cC cI cJ h0 h1 h2 h3 h4 h5 h6 h7 v))) (va_A (wX cC cI cJ h0 h1 h2 h3 h4 h5 h6 h7 u) sz)) (vx_X (fun _ : Unit => True) (fun E _ _ => res = .inl E) (fun q : Nat => sz ≤ q)) 3 18 (va_A (wX cC cI cJ h0 h1 h2 h3 h4 h5 h6 h7 u) sz) := by
  refine vx_ofW (cc := cX5_set) (maxL := 4) (ret := (some .long)) (by decide) rfl ?_
  intro p e s m args below meth c s₁ B hml ht hv
  obtain ⟨rfl, hsz, hP, hK, hD0, hXK⟩ := hv
  have hx := B.exec
  have hb := B.bytes
  have hr := B.returns
  have hts : ∀ w ∈ wsX5_set, w.before ([.ref h0, .int a0, .int a1, .int a2] : List Value).toArray s = true := atoms_spec (ws := wsX5_set) B.pre
  have hown : s.vm.findClass RX5 = some m.cls := findClass_of_methodNamed B.named
  have hlk : meth.locks = false := B.notSynchronized
  subst hsz
  have hD := hD0.self (sz := s.heap.size)
  generalize hAe : va_A (wX cC cI cJ h0 h1 h2 h3 h4 h5 h6 h7 u) s.heap.size = A at hD ⊢
  have hA : ∀ q : Nat, s.heap.size ≤ q → A q := fun q h => by rw [← hAe]; exact Or.inr h
  have hS : va_S (fun q : Nat => s.heap.size ≤ q) s.heap s.heap [] := va_S.rf
  have hP : va_P D vwCl [(h0, .inr (4, [.ref h1, .ref h2, .ref h5])), (h1, .inl (cJ, 8, .inr (.inl u.1))), (h2, .inr (3, [.ref h3, .ref h4, .int u.2.1.2.2])), (h3, .inl (cC, 40, .inl u.2.1.1)), (h4, .inl (cI, 40, .inl u.2.1.2.1)), (h5, .inr (2, [.ref h6, .ref h7, .int u.2.2.2.2.1, .int u.2.2.2.2.2])), (h6, .inl (cI, 8, .inl u.2.2.1)), (h7, .inl (cJ, 8, .inr (.inl u.2.2.2.1)))] s.heap := hP
  have hD : va_D A [(h0, .inr (4, [.ref h1, .ref h2, .ref h5])), (h1, .inl (cJ, 8, .inr (.inl u.1))), (h2, .inr (3, [.ref h3, .ref h4, .int u.2.1.2.2])), (h3, .inl (cC, 40, .inl u.2.1.1)), (h4, .inl (cI, 40, .inl u.2.1.2.1)), (h5, .inr (2, [.ref h6, .ref h7, .int u.2.2.2.2.1, .int u.2.2.2.2.2])), (h6, .inl (cI, 8, .inl u.2.2.1)), (h7, .inl (cJ, 8, .inr (.inl u.2.2.2.1)))] := hD
  have hl := lv_entry ([.ref h0, .int a0, .int a1, .int a2]) (n := 4) (Nat.le_of_ble_eq_true rfl)
  rw [lg_entry_eq]
  generalize (lg_sl ([.ref h0, .int a0, .int a1, .int a2]) ++ List.replicate (4 - (lg_sl ([.ref h0, .int a0, .int a1, .int a2])).length) Slot.unset).toArray = ls at hl ⊢
  have hl : lv_has ls 4 [(0, .ref h0), (1, .int a0), (2, .int a1), (3, .int a2)] := hl
  unfold f_X5_set at hf
  refine lv_iload_n hx hb dX5_set_0 rfl (lv_at hl 1 rfl) ?_
  obtain ⟨z1, ez1, xz1, hf⟩ := xb_e hf
  refine my_callT (As := [.int a0]) (n := 1) (rest := []) ⟨hx, hb, hml, hown, hts⟩ ht hlk hXK hS (m_X5_checkSlot l hl0 s.heap.size a0 _ ez1) gX5_set_X5_checkSlot rfl (by decide +kernel) ⟨rfl, rfl⟩ ⟨Nat.le_of_ble_eq_true rfl, Nat.le_of_ble_eq_true rfl⟩ ⟨Nat.le_of_ble_eq_true rfl, Nat.le_of_ble_eq_true rfl⟩ ⟨Nat.le_of_ble_eq_true rfl, Nat.le_of_ble_eq_true rfl⟩ (fun q h => hA q h) xz1 hl.1 rfl rfl (Nat.le_of_ble_eq_true rfl) dX5_set_1 (fun u9 H locs qz1 hk1 hS => ?_)
  have hP := my_keep hP hk1
  have hf := hf _ qz1
  refine lv_iload_n hx hb dX5_set_4 rfl (lv_at hl 2 rfl) ?_
  refine lv_bipush (v := (-128)) hx hb dX5_set_5 (by decide) ?_
  refine lv_bipush (v := 127) hx hb dX5_set_7 (by decide) ?_
  obtain ⟨z2, ez2, xz2, hf⟩ := xb_e hf
  refine my_callT (As := [.int a1, .int (-128), .int 127]) (n := 3) (rest := []) ⟨hx, hb, hml, hown, hts⟩ ht hlk hXK hS (m_X5_checkRange l hl0 H.size a1 (-128) 127 _ ez2) gX5_set_X5_checkRange rfl (by decide +kernel) ⟨rfl, rfl⟩ ⟨Nat.le_of_ble_eq_true rfl, Nat.le_of_ble_eq_true rfl⟩ ⟨Nat.le_of_ble_eq_true rfl, Nat.le_of_ble_eq_true rfl⟩ ⟨Nat.le_of_ble_eq_true rfl, Nat.le_of_ble_eq_true rfl⟩ (fun q h => hA q h) xz2 hl.1 rfl rfl (Nat.le_of_ble_eq_true rfl) dX5_set_9 (fun u9 H locs qz2 hk1 hS => ?_)
  have hP := my_keep hP hk1
  have hf := hf _ qz2
  refine lv_iload_n hx hb dX5_set_12 rfl (lv_at hl 3 rfl) ?_
  refine lv_iconst (v := 0) hx hb dX5_set_13 (by decide) ?_
  refine lv_sipush (v := 255) hx hb dX5_set_14 (by decide) ?_
  obtain ⟨z3, ez3, xz3, hf⟩ := xb_e hf
  refine my_callT (As := [.int a2, .int 0, .int 255]) (n := 3) (rest := []) ⟨hx, hb, hml, hown, hts⟩ ht hlk hXK hS (m_X5_checkRange l hl0 H.size a2 0 255 _ ez3) gX5_set_X5_checkRange rfl (by decide +kernel) ⟨rfl, rfl⟩ ⟨Nat.le_of_ble_eq_true rfl, Nat.le_of_ble_eq_true rfl⟩ ⟨Nat.le_of_ble_eq_true rfl, Nat.le_of_ble_eq_true rfl⟩ ⟨Nat.le_of_ble_eq_true rfl, Nat.le_of_ble_eq_true rfl⟩ (fun q h => hA q h) xz3 hl.1 rfl rfl (Nat.le_of_ble_eq_true rfl) dX5_set_17 (fun u9 H locs qz3 hk1 hS => ?_)
  have hP := my_keep hP hk1
  have hf := hf _ qz3
  refine lv_aload_n hx hb dX5_set_20 rfl (lv_at hl 0 rfl) ?_
  refine lv_iload_n hx hb dX5_set_21 rfl (lv_at hl 1 rfl) ?_
  refine lv_iload_n hx hb dX5_set_22 rfl (lv_at hl 2 rfl) ?_
  refine lv_iload_n hx hb dX5_set_23 rfl (lv_at hl 3 rfl) ?_
  refine my_callPl (As := [.int a1, .int a2]) (n := 2) (rest := [.int a0, .ref h0]) ⟨hx, hb, hml, hown, hts⟩ (m_X0_handed l a1 a2 _ rfl) gX5_set_X0_handed rfl ⟨rfl, rfl⟩ (by decide +kernel) ⟨Nat.le_of_ble_eq_true rfl, Nat.le_of_ble_eq_true rfl⟩ ⟨Nat.le_of_ble_eq_true rfl, Nat.le_of_ble_eq_true rfl⟩ hl.1 rfl rfl (Nat.le_of_ble_eq_true rfl) dX5_set_24 ?_
  obtain ⟨z4, ez4, hf⟩ := ob_e hf
  have hS := my_weak hS hA
  refine my_callMl (As := [.int a0, .long (f_X0_handed a1 a2)]) (n := 2) (rest := []) (wr := []) ⟨hx, hb, hml, hown, hts⟩ hK hP hD hS hA [0, 1, 2, 3, 4, 5, 6, 7] [] rfl rfl (by decide) (by decide) (by decide) (m_X5_become l D cC cI cJ h0 h1 h2 h3 h4 h5 h6 h7 u H.size a0 (f_X0_handed a1 a2) _ ez4) gX5_set_X5_become rfl ⟨rfl, rfl⟩ (ci := 4) rfl rfl (by decide +kernel) ⟨Nat.le_of_ble_eq_true rfl, Nat.le_of_ble_eq_true rfl⟩ ⟨Nat.le_of_ble_eq_true rfl, Nat.le_of_ble_eq_true rfl⟩ hl.1 rfl rfl (Nat.le_of_ble_eq_true rfl) dX5_set_27 (fun r9 u9 H locs hw hP hD hS => ?_)
  obtain ⟨rfl, rfl⟩ := hw
  have hP : va_P D vwCl [(h0, .inr (4, [.ref h1, .ref h2, .ref h5])), (h1, .inl (cJ, 8, .inr (.inl z4.2.1))), (h2, .inr (3, [.ref h3, .ref h4, .int z4.2.2.1.2.2])), (h3, .inl (cC, 40, .inl z4.2.2.1.1)), (h4, .inl (cI, 40, .inl z4.2.2.1.2.1)), (h5, .inr (2, [.ref h6, .ref h7, .int z4.2.2.2.2.2.1, .int z4.2.2.2.2.2.2])), (h6, .inl (cI, 8, .inl z4.2.2.2.1)), (h7, .inl (cJ, 8, .inr (.inl z4.2.2.2.2.1)))] H := hP.sub [0, 1, 2, 3, 4, 5, 6, 7] rfl
  have hD : va_D A [(h0, .inr (4, [.ref h1, .ref h2, .ref h5])), (h1, .inl (cJ, 8, .inr (.inl z4.2.1))), (h2, .inr (3, [.ref h3, .ref h4, .int z4.2.2.1.2.2])), (h3, .inl (cC, 40, .inl z4.2.2.1.1)), (h4, .inl (cI, 40, .inl z4.2.2.1.2.1)), (h5, .inr (2, [.ref h6, .ref h7, .int z4.2.2.2.2.2.1, .int z4.2.2.2.2.2.2])), (h6, .inl (cI, 8, .inl z4.2.2.2.1)), (h7, .inl (cJ, 8, .inr (.inl z4.2.2.2.2.1)))] := hD.sub [0, 1, 2, 3, 4, 5, 6, 7] (by decide) rfl
  have hP9 : va_P D vwCl (wX cC cI cJ h0 h1 h2 h3 h4 h5 h6 h7 z4.2) _ := hP
  have hD9 : va_D A (wX cC cI cJ h0 h1 h2 h3 h4 h5 h6 h7 z4.2) := hD
  exact vx_ret (W.lret (v := z4.1) hx hb hr (fun t ht hW => ⟨⟨z4.1, z4.2, rfl, ⟨(z4.1, z4.2), rfl, rfl, (Option.some.inj hf).symm⟩, by rw [ht]; exact hP9, va_K.moved hW.alike hK, hD9⟩, hS.F ht⟩) hS.2.2 dX5_set_30)

set_option maxHeartbeats 4000000 in
set_option maxRecDepth 100000 in
theorem m_X5_end (l : Launch) (hl0 : l.stackTraces = false) (D : va_G) (cC cI cJ : ClassId) (h0 h1 h2 h3 h4 h5 h6 h7 : Nat) (u : StX) (sz : Nat) (a0 : Int32) (a1 : Bool) (res : (String ⊕ (Int64 × StX))) (hf : f_X5_end u a0 a1 = some res) : vx_Met l yX5_end wsX5_end rmX5_end (my_PcTM D vwCl (KT cC cI cJ) sz (wX cC cI cJ h0 h1 h2 h3 h4 h5 h6 h7 u) [.ref h0, .int a0, .int (b2i a1)]) (va_Ql (fun r v => ∃ z, r = z.1 ∧ v = z.2 ∧ res = .inr z) (my_B D vwCl (KT cC cI cJ) (va_A (wX cC cI cJ h0 h1 h2 h3 h4 h5 h6 h7 u) sz) (fun v : StX => (wX cC cI cJ h0 h1 h2 h3 h4 h5 h6 h7 v))) (va_A (wX cC cI cJ h0 h1 h2 h3 h4 h5 h6 h7 u) sz)) (vx_X (fun _ : Unit => True) (fun E _ _ => res = .inl E) (fun q : Nat => sz ≤ q)) 1 6 (va_A (wX cC cI cJ h0 h1 h2 h3 h4 h5 h6 h7 u) sz) := by
  refine vx_ofW (cc := cX5_end) (maxL := 3) (ret := (some .long)) (by decide) rfl ?_
  intro p e s m args below meth c s₁ B hml ht hv
  obtain ⟨rfl, hsz, hP, hK, hD0, hXK⟩ := hv
  have hx := B.exec
  have hb := B.bytes
  have hr := B.returns
  have hts : ∀ w ∈ wsX5_end, w.before ([.ref h0, .int a0, .int (b2i a1)] : List Value).toArray s = true := atoms_spec (ws := wsX5_end) B.pre
  have hown : s.vm.findClass RX5 = some m.cls := findClass_of_methodNamed B.named
  have hlk : meth.locks = false := B.notSynchronized
  subst hsz
  have hD := hD0.self (sz := s.heap.size)
  generalize hAe : va_A (wX cC cI cJ h0 h1 h2 h3 h4 h5 h6 h7 u) s.heap.size = A at hD ⊢
  have hA : ∀ q : Nat, s.heap.size ≤ q → A q := fun q h => by rw [← hAe]; exact Or.inr h
  have hS : va_S (fun q : Nat => s.heap.size ≤ q) s.heap s.heap [] := va_S.rf
  have hP : va_P D vwCl [(h0, .inr (4, [.ref h1, .ref h2, .ref h5])), (h1, .inl (cJ, 8, .inr (.inl u.1))), (h2, .inr (3, [.ref h3, .ref h4, .int u.2.1.2.2])), (h3, .inl (cC, 40, .inl u.2.1.1)), (h4, .inl (cI, 40, .inl u.2.1.2.1)), (h5, .inr (2, [.ref h6, .ref h7, .int u.2.2.2.2.1, .int u.2.2.2.2.2])), (h6, .inl (cI, 8, .inl u.2.2.1)), (h7, .inl (cJ, 8, .inr (.inl u.2.2.2.1)))] s.heap := hP
  have hD : va_D A [(h0, .inr (4, [.ref h1, .ref h2, .ref h5])), (h1, .inl (cJ, 8, .inr (.inl u.1))), (h2, .inr (3, [.ref h3, .ref h4, .int u.2.1.2.2])), (h3, .inl (cC, 40, .inl u.2.1.1)), (h4, .inl (cI, 40, .inl u.2.1.2.1)), (h5, .inr (2, [.ref h6, .ref h7, .int u.2.2.2.2.1, .int u.2.2.2.2.2])), (h6, .inl (cI, 8, .inl u.2.2.1)), (h7, .inl (cJ, 8, .inr (.inl u.2.2.2.1)))] := hD
  have q1 := hts (.constantLong RX5 45 (9218868437227405312)) (by decide +kernel)
  have hl := lv_entry ([.ref h0, .int a0, .int (b2i a1)]) (n := 3) (Nat.le_of_ble_eq_true rfl)
  rw [lg_entry_eq]
  generalize (lg_sl ([.ref h0, .int a0, .int (b2i a1)]) ++ List.replicate (3 - (lg_sl ([.ref h0, .int a0, .int (b2i a1)])).length) Slot.unset).toArray = ls at hl ⊢
  have hl : lv_has ls 3 [(0, .ref h0), (1, .int a0), (2, .int (b2i a1))] := hl
  unfold f_X5_end at hf
  refine lv_iload_n hx hb dX5_end_0 rfl (lv_at hl 1 rfl) ?_
  obtain ⟨z1, ez1, xz1, hf⟩ := xb_e hf
  refine my_callT (As := [.int a0]) (n := 1) (rest := []) ⟨hx, hb, hml, hown, hts⟩ ht hlk hXK hS (m_X5_checkSlot l hl0 s.heap.size a0 _ ez1) gX5_end_X5_checkSlot rfl (by decide +kernel) ⟨rfl, rfl⟩ ⟨Nat.le_of_ble_eq_true rfl, Nat.le_of_ble_eq_true rfl⟩ ⟨Nat.le_of_ble_eq_true rfl, Nat.le_of_ble_eq_true rfl⟩ ⟨Nat.le_of_ble_eq_true rfl, Nat.le_of_ble_eq_true rfl⟩ (fun q h => hA q h) xz1 hl.1 rfl rfl (Nat.le_of_ble_eq_true rfl) dX5_end_1 (fun u9 H locs qz1 hk1 hS => ?_)
  have hP := my_keep hP hk1
  have hf := hf _ qz1
  refine lv_aload_n hx hb dX5_end_4 rfl (lv_at hl 0 rfl) ?_
  refine lv_iload_n hx hb dX5_end_5 rfl (lv_at hl 1 rfl) ?_
  refine lv_iload_n hx hb dX5_end_6 rfl (lv_at hl 2 rfl) ?_
  refine my_bz_eq (x := a1) (tgt := 16) hx hb dX5_end_7 (by decide) (fun c2 => ?_) (fun c2 => ?_)
  · rw [if_pos c2] at hf
    refine lv_ldc2 (v := 9218868437227405312) hx hb hown q1 dX5_end_16 ?_
    refine my_callPl (As := [.long 9218868437227405312]) (n := 1) (rest := [.int a0, .ref h0]) ⟨hx, hb, hml, hown, hts⟩ (m_X0_opposite l 9218868437227405312 _ rfl) gX5_end_X0_opposite rfl ⟨rfl, rfl⟩ (by decide +kernel) ⟨Nat.le_of_ble_eq_true rfl, Nat.le_of_ble_eq_true rfl⟩ ⟨Nat.le_of_ble_eq_true rfl, Nat.le_of_ble_eq_true rfl⟩ hl.1 rfl rfl (Nat.le_of_ble_eq_true rfl) dX5_end_19 ?_
    obtain ⟨z3, ez3, hf⟩ := ob_e hf
    have hS := my_weak hS hA
    refine my_callMl (As := [.int a0, .long (f_X0_opposite 9218868437227405312)]) (n := 2) (rest := []) (wr := []) ⟨hx, hb, hml, hown, hts⟩ hK hP hD hS hA [0, 1, 2, 3, 4, 5, 6, 7] [] rfl rfl (by decide) (by decide) (by decide) (m_X5_become l D cC cI cJ h0 h1 h2 h3 h4 h5 h6 h7 u H.size a0 (f_X0_opposite 9218868437227405312) _ ez3) gX5_end_X5_become rfl ⟨rfl, rfl⟩ (ci := 4) rfl rfl (by decide +kernel) ⟨Nat.le_of_ble_eq_true rfl, Nat.le_of_ble_eq_true rfl⟩ ⟨Nat.le_of_ble_eq_true rfl, Nat.le_of_ble_eq_true rfl⟩ hl.1 rfl rfl (Nat.le_of_ble_eq_true rfl) dX5_end_22 (fun r9 u9 H locs hw hP hD hS => ?_)
    obtain ⟨rfl, rfl⟩ := hw
    have hP : va_P D vwCl [(h0, .inr (4, [.ref h1, .ref h2, .ref h5])), (h1, .inl (cJ, 8, .inr (.inl z3.2.1))), (h2, .inr (3, [.ref h3, .ref h4, .int z3.2.2.1.2.2])), (h3, .inl (cC, 40, .inl z3.2.2.1.1)), (h4, .inl (cI, 40, .inl z3.2.2.1.2.1)), (h5, .inr (2, [.ref h6, .ref h7, .int z3.2.2.2.2.2.1, .int z3.2.2.2.2.2.2])), (h6, .inl (cI, 8, .inl z3.2.2.2.1)), (h7, .inl (cJ, 8, .inr (.inl z3.2.2.2.2.1)))] H := hP.sub [0, 1, 2, 3, 4, 5, 6, 7] rfl
    have hD : va_D A [(h0, .inr (4, [.ref h1, .ref h2, .ref h5])), (h1, .inl (cJ, 8, .inr (.inl z3.2.1))), (h2, .inr (3, [.ref h3, .ref h4, .int z3.2.2.1.2.2])), (h3, .inl (cC, 40, .inl z3.2.2.1.1)), (h4, .inl (cI, 40, .inl z3.2.2.1.2.1)), (h5, .inr (2, [.ref h6, .ref h7, .int z3.2.2.2.2.2.1, .int z3.2.2.2.2.2.2])), (h6, .inl (cI, 8, .inl z3.2.2.2.1)), (h7, .inl (cJ, 8, .inr (.inl z3.2.2.2.2.1)))] := hD.sub [0, 1, 2, 3, 4, 5, 6, 7] (by decide) rfl
    have hP9 : va_P D vwCl (wX cC cI cJ h0 h1 h2 h3 h4 h5 h6 h7 z3.2) _ := hP
    have hD9 : va_D A (wX cC cI cJ h0 h1 h2 h3 h4 h5 h6 h7 z3.2) := hD
    exact vx_ret (W.lret (v := z3.1) hx hb hr (fun t ht hW => ⟨⟨z3.1, z3.2, rfl, ⟨(z3.1, z3.2), rfl, rfl, (Option.some.inj hf).symm⟩, by rw [ht]; exact hP9, va_K.moved hW.alike hK, hD9⟩, hS.F ht⟩) hS.2.2 dX5_end_25)
  · rw [if_neg c2] at hf
    refine lv_ldc2 (v := 9218868437227405312) hx hb hown q1 dX5_end_10 ?_
    refine lv_goto (tgt := 22) hx hb dX5_end_13 (by decide) ?_
    obtain ⟨z4, ez4, hf⟩ := ob_e hf
    have hS := my_weak hS hA
    refine my_callMl (As := [.int a0, .long 9218868437227405312]) (n := 2) (rest := []) (wr := []) ⟨hx, hb, hml, hown, hts⟩ hK hP hD hS hA [0, 1, 2, 3, 4, 5, 6, 7] [] rfl rfl (by decide) (by decide) (by decide) (m_X5_become l D cC cI cJ h0 h1 h2 h3 h4 h5 h6 h7 u H.size a0 9218868437227405312 _ ez4) gX5_end_X5_become rfl ⟨rfl, rfl⟩ (ci := 4) rfl rfl (by decide +kernel) ⟨Nat.le_of_ble_eq_true rfl, Nat.le_of_ble_eq_true rfl⟩ ⟨Nat.le_of_ble_eq_true rfl, Nat.le_of_ble_eq_true rfl⟩ hl.1 rfl rfl (Nat.le_of_ble_eq_true rfl) dX5_end_22 (fun r9 u9 H locs hw hP hD hS => ?_)
    obtain ⟨rfl, rfl⟩ := hw
    have hP : va_P D vwCl [(h0, .inr (4, [.ref h1, .ref h2, .ref h5])), (h1, .inl (cJ, 8, .inr (.inl z4.2.1))), (h2, .inr (3, [.ref h3, .ref h4, .int z4.2.2.1.2.2])), (h3, .inl (cC, 40, .inl z4.2.2.1.1)), (h4, .inl (cI, 40, .inl z4.2.2.1.2.1)), (h5, .inr (2, [.ref h6, .ref h7, .int z4.2.2.2.2.2.1, .int z4.2.2.2.2.2.2])), (h6, .inl (cI, 8, .inl z4.2.2.2.1)), (h7, .inl (cJ, 8, .inr (.inl z4.2.2.2.2.1)))] H := hP.sub [0, 1, 2, 3, 4, 5, 6, 7] rfl
    have hD : va_D A [(h0, .inr (4, [.ref h1, .ref h2, .ref h5])), (h1, .inl (cJ, 8, .inr (.inl z4.2.1))), (h2, .inr (3, [.ref h3, .ref h4, .int z4.2.2.1.2.2])), (h3, .inl (cC, 40, .inl z4.2.2.1.1)), (h4, .inl (cI, 40, .inl z4.2.2.1.2.1)), (h5, .inr (2, [.ref h6, .ref h7, .int z4.2.2.2.2.2.1, .int z4.2.2.2.2.2.2])), (h6, .inl (cI, 8, .inl z4.2.2.2.1)), (h7, .inl (cJ, 8, .inr (.inl z4.2.2.2.2.1)))] := hD.sub [0, 1, 2, 3, 4, 5, 6, 7] (by decide) rfl
    have hP9 : va_P D vwCl (wX cC cI cJ h0 h1 h2 h3 h4 h5 h6 h7 z4.2) _ := hP
    have hD9 : va_D A (wX cC cI cJ h0 h1 h2 h3 h4 h5 h6 h7 z4.2) := hD
    exact vx_ret (W.lret (v := z4.1) hx hb hr (fun t ht hW => ⟨⟨z4.1, z4.2, rfl, ⟨(z4.1, z4.2), rfl, rfl, (Option.some.inj hf).symm⟩, by rw [ht]; exact hP9, va_K.moved hW.alike hK, hD9⟩, hS.F ht⟩) hS.2.2 dX5_end_25)

set_option maxHeartbeats 4000000 in
set_option maxRecDepth 100000 in
theorem m_X5_copy (l : Launch) (hl0 : l.stackTraces = false) (D : va_G) (cC cI cJ : ClassId) (h0 h1 h2 h3 h4 h5 h6 h7 : Nat) (u : StX) (sz : Nat) (a0 : Int32) (a1 : Int32) (res : (String ⊕ (Int64 × StX))) (hf : f_X5_copy u a0 a1 = some res) : vx_Met l yX5_copy wsX5_copy rmX5_copy (my_PcTM D vwCl (KT cC cI cJ) sz (wX cC cI cJ h0 h1 h2 h3 h4 h5 h6 h7 u) [.ref h0, .int a0, .int a1]) (va_Ql (fun r v => ∃ z, r = z.1 ∧ v = z.2 ∧ res = .inr z) (my_B D vwCl (KT cC cI cJ) (va_A (wX cC cI cJ h0 h1 h2 h3 h4 h5 h6 h7 u) sz) (fun v : StX => (wX cC cI cJ h0 h1 h2 h3 h4 h5 h6 h7 v))) (va_A (wX cC cI cJ h0 h1 h2 h3 h4 h5 h6 h7 u) sz)) (vx_X (fun _ : Unit => True) (fun E _ _ => res = .inl E) (fun q : Nat => sz ≤ q)) 2 12 (va_A (wX cC cI cJ h0 h1 h2 h3 h4 h5 h6 h7 u) sz) := by
  refine vx_ofW (cc := cX5_copy) (maxL := 3) (ret := (some .long)) (by decide) rfl ?_
  intro p e s m args below meth c s₁ B hml ht hv
  obtain ⟨rfl, hsz, hP, hK, hD0, hXK⟩ := hv
  have hx := B.exec
  have hb := B.bytes
  have hr := B.returns
  have hts : ∀ w ∈ wsX5_copy, w.before ([.ref h0, .int a0, .int a1] : List Value).toArray s = true := atoms_spec (ws := wsX5_copy) B.pre
  have hown : s.vm.findClass RX5 = some m.cls := findClass_of_methodNamed B.named
  have hlk : meth.locks = false := B.notSynchronized
  subst hsz
  have hD := hD0.self (sz := s.heap.size)
  generalize hAe : va_A (wX cC cI cJ h0 h1 h2 h3 h4 h5 h6 h7 u) s.heap.size = A at hD ⊢
  have hA : ∀ q : Nat, s.heap.size ≤ q → A q := fun q h => by rw [← hAe]; exact Or.inr h
  have hS : va_S (fun q : Nat => s.heap.size ≤ q) s.heap s.heap [] := va_S.rf
  have hP : va_P D vwCl [(h0, .inr (4, [.ref h1, .ref h2, .ref h5])), (h1, .inl (cJ, 8, .inr (.inl u.1))), (h2, .inr (3, [.ref h3, .ref h4, .int u.2.1.2.2])), (h3, .inl (cC, 40, .inl u.2.1.1)), (h4, .inl (cI, 40, .inl u.2.1.2.1)), (h5, .inr (2, [.ref h6, .ref h7, .int u.2.2.2.2.1, .int u.2.2.2.2.2])), (h6, .inl (cI, 8, .inl u.2.2.1)), (h7, .inl (cJ, 8, .inr (.inl u.2.2.2.1)))] s.heap := hP
  have hD : va_D A [(h0, .inr (4, [.ref h1, .ref h2, .ref h5])), (h1, .inl (cJ, 8, .inr (.inl u.1))), (h2, .inr (3, [.ref h3, .ref h4, .int u.2.1.2.2])), (h3, .inl (cC, 40, .inl u.2.1.1)), (h4, .inl (cI, 40, .inl u.2.1.2.1)), (h5, .inr (2, [.ref h6, .ref h7, .int u.2.2.2.2.1, .int u.2.2.2.2.2])), (h6, .inl (cI, 8, .inl u.2.2.1)), (h7, .inl (cJ, 8, .inr (.inl u.2.2.2.1)))] := hD
  have q1 := hts (.fieldLink RX5 9 "Doubleline" "slots" "[J") (by decide +kernel)
  have q2 : ∀ w ∈ u_ws RX5 TX5 3, w ∈ wsX5_copy := by decide +kernel
  have hl := lv_entry ([.ref h0, .int a0, .int a1]) (n := 3) (Nat.le_of_ble_eq_true rfl)
  rw [lg_entry_eq]
  generalize (lg_sl ([.ref h0, .int a0, .int a1]) ++ List.replicate (3 - (lg_sl ([.ref h0, .int a0, .int a1])).length) Slot.unset).toArray = ls at hl ⊢
  have hl : lv_has ls 3 [(0, .ref h0), (1, .int a0), (2, .int a1)] := hl
  unfold f_X5_copy at hf
  refine lv_iload_n hx hb dX5_copy_0 rfl (lv_at hl 1 rfl) ?_
  obtain ⟨z1, ez1, xz1, hf⟩ := xb_e hf
  refine my_callT (As := [.int a0]) (n := 1) (rest := []) ⟨hx, hb, hml, hown, hts⟩ ht hlk hXK hS (m_X5_checkSlot l hl0 s.heap.size a0 _ ez1) gX5_copy_X5_checkSlot rfl (by decide +kernel) ⟨rfl, rfl⟩ ⟨Nat.le_of_ble_eq_true rfl, Nat.le_of_ble_eq_true rfl⟩ ⟨Nat.le_of_ble_eq_true rfl, Nat.le_of_ble_eq_true rfl⟩ ⟨Nat.le_of_ble_eq_true rfl, Nat.le_of_ble_eq_true rfl⟩ (fun q h => hA q h) xz1 hl.1 rfl rfl (Nat.le_of_ble_eq_true rfl) dX5_copy_1 (fun u9 H locs qz1 hk1 hS => ?_)
  have hP := my_keep hP hk1
  have hf := hf _ qz1
  refine lv_iload_n hx hb dX5_copy_4 rfl (lv_at hl 2 rfl) ?_
  obtain ⟨z2, ez2, xz2, hf⟩ := xb_e hf
  refine my_callT (As := [.int a1]) (n := 1) (rest := []) ⟨hx, hb, hml, hown, hts⟩ ht hlk hXK hS (m_X5_checkSlot l hl0 H.size a1 _ ez2) gX5_copy_X5_checkSlot rfl (by decide +kernel) ⟨rfl, rfl⟩ ⟨Nat.le_of_ble_eq_true rfl, Nat.le_of_ble_eq_true rfl⟩ ⟨Nat.le_of_ble_eq_true rfl, Nat.le_of_ble_eq_true rfl⟩ ⟨Nat.le_of_ble_eq_true rfl, Nat.le_of_ble_eq_true rfl⟩ (fun q h => hA q h) xz2 hl.1 rfl rfl (Nat.le_of_ble_eq_true rfl) dX5_copy_5 (fun u9 H locs qz2 hk1 hS => ?_)
  have hP := my_keep hP hk1
  have hf := hf _ qz2
  refine lv_aload_n hx hb dX5_copy_8 rfl (lv_at hl 0 rfl) ?_
  refine lv_iload_n hx hb dX5_copy_9 rfl (lv_at hl 2 rfl) ?_
  refine lv_aload_n hx hb dX5_copy_10 rfl (lv_at hl 0 rfl) ?_
  refine va_get (D := D) (ci := 4) (v := .ref h1) (C := RX5) (T := TX5) (N := 3) hx hb hts q2 hown hK hP 0 rfl rfl 0 (by decide) q1 (fun _ h9 => h9) rfl dX5_copy_11 ?_
  refine lv_iload_n hx hb dX5_copy_14 rfl (lv_at hl 1 rfl) ?_
  obtain ⟨g3, hf⟩ := og_e hf
  refine va_lald hx hb hK hP 1 2 rfl rfl g3 dX5_copy_15 ?_
  obtain ⟨z4, ez4, hf⟩ := ob_e hf
  have hS := my_weak hS hA
  refine my_callMl (As := [.int a1, .long (u.1 a0.toNatClampNeg)]) (n := 2) (rest := []) (wr := []) ⟨hx, hb, hml, hown, hts⟩ hK hP hD hS hA [0, 1, 2, 3, 4, 5, 6, 7] [] rfl rfl (by decide) (by decide) (by decide) (m_X5_become l D cC cI cJ h0 h1 h2 h3 h4 h5 h6 h7 u H.size a1 (u.1 a0.toNatClampNeg) _ ez4) gX5_copy_X5_become rfl ⟨rfl, rfl⟩ (ci := 4) rfl rfl (by decide +kernel) ⟨Nat.le_of_ble_eq_true rfl, Nat.le_of_ble_eq_true rfl⟩ ⟨Nat.le_of_ble_eq_true rfl, Nat.le_of_ble_eq_true rfl⟩ hl.1 rfl rfl (Nat.le_of_ble_eq_true rfl) dX5_copy_16 (fun r9 u9 H locs hw hP hD hS => ?_)
  obtain ⟨rfl, rfl⟩ := hw
  have hP : va_P D vwCl [(h0, .inr (4, [.ref h1, .ref h2, .ref h5])), (h1, .inl (cJ, 8, .inr (.inl z4.2.1))), (h2, .inr (3, [.ref h3, .ref h4, .int z4.2.2.1.2.2])), (h3, .inl (cC, 40, .inl z4.2.2.1.1)), (h4, .inl (cI, 40, .inl z4.2.2.1.2.1)), (h5, .inr (2, [.ref h6, .ref h7, .int z4.2.2.2.2.2.1, .int z4.2.2.2.2.2.2])), (h6, .inl (cI, 8, .inl z4.2.2.2.1)), (h7, .inl (cJ, 8, .inr (.inl z4.2.2.2.2.1)))] H := hP.sub [0, 1, 2, 3, 4, 5, 6, 7] rfl
  have hD : va_D A [(h0, .inr (4, [.ref h1, .ref h2, .ref h5])), (h1, .inl (cJ, 8, .inr (.inl z4.2.1))), (h2, .inr (3, [.ref h3, .ref h4, .int z4.2.2.1.2.2])), (h3, .inl (cC, 40, .inl z4.2.2.1.1)), (h4, .inl (cI, 40, .inl z4.2.2.1.2.1)), (h5, .inr (2, [.ref h6, .ref h7, .int z4.2.2.2.2.2.1, .int z4.2.2.2.2.2.2])), (h6, .inl (cI, 8, .inl z4.2.2.2.1)), (h7, .inl (cJ, 8, .inr (.inl z4.2.2.2.2.1)))] := hD.sub [0, 1, 2, 3, 4, 5, 6, 7] (by decide) rfl
  have hP9 : va_P D vwCl (wX cC cI cJ h0 h1 h2 h3 h4 h5 h6 h7 z4.2) _ := hP
  have hD9 : va_D A (wX cC cI cJ h0 h1 h2 h3 h4 h5 h6 h7 z4.2) := hD
  exact vx_ret (W.lret (v := z4.1) hx hb hr (fun t ht hW => ⟨⟨z4.1, z4.2, rfl, ⟨(z4.1, z4.2), rfl, rfl, (Option.some.inj hf).symm⟩, by rw [ht]; exact hP9, va_K.moved hW.alike hK, hD9⟩, hS.F ht⟩) hS.2.2 dX5_copy_19)

set_option maxHeartbeats 4000000 in
set_option maxRecDepth 100000 in
theorem m_X5_negate (l : Launch) (hl0 : l.stackTraces = false) (D : va_G) (cC cI cJ : ClassId) (h0 h1 h2 h3 h4 h5 h6 h7 : Nat) (u : StX) (sz : Nat) (a0 : Int32) (a1 : Int32) (res : (String ⊕ (Int64 × StX))) (hf : f_X5_negate u a0 a1 = some res) : vx_Met l yX5_negate wsX5_negate rmX5_negate (my_PcTM D vwCl (KT cC cI cJ) sz (wX cC cI cJ h0 h1 h2 h3 h4 h5 h6 h7 u) [.ref h0, .int a0, .int a1]) (va_Ql (fun r v => ∃ z, r = z.1 ∧ v = z.2 ∧ res = .inr z) (my_B D vwCl (KT cC cI cJ) (va_A (wX cC cI cJ h0 h1 h2 h3 h4 h5 h6 h7 u) sz) (fun v : StX => (wX cC cI cJ h0 h1 h2 h3 h4 h5 h6 h7 v))) (va_A (wX cC cI cJ h0 h1 h2 h3 h4 h5 h6 h7 u) sz)) (vx_X (fun _ : Unit => True) (fun E _ _ => res = .inl E) (fun q : Nat => sz ≤ q)) 2 12 (va_A (wX cC cI cJ h0 h1 h2 h3 h4 h5 h6 h7 u) sz) := by
  refine vx_ofW (cc := cX5_negate) (maxL := 3) (ret := (some .long)) (by decide) rfl ?_
  intro p e s m args below meth c s₁ B hml ht hv
  obtain ⟨rfl, hsz, hP, hK, hD0, hXK⟩ := hv
  have hx := B.exec
  have hb := B.bytes
  have hr := B.returns
  have hts : ∀ w ∈ wsX5_negate, w.before ([.ref h0, .int a0, .int a1] : List Value).toArray s = true := atoms_spec (ws := wsX5_negate) B.pre
  have hown : s.vm.findClass RX5 = some m.cls := findClass_of_methodNamed B.named
  have hlk : meth.locks = false := B.notSynchronized
  subst hsz
  have hD := hD0.self (sz := s.heap.size)
  generalize hAe : va_A (wX cC cI cJ h0 h1 h2 h3 h4 h5 h6 h7 u) s.heap.size = A at hD ⊢
  have hA : ∀ q : Nat, s.heap.size ≤ q → A q := fun q h => by rw [← hAe]; exact Or.inr h
  have hS : va_S (fun q : Nat => s.heap.size ≤ q) s.heap s.heap [] := va_S.rf
  have hP : va_P D vwCl [(h0, .inr (4, [.ref h1, .ref h2, .ref h5])), (h1, .inl (cJ, 8, .inr (.inl u.1))), (h2, .inr (3, [.ref h3, .ref h4, .int u.2.1.2.2])), (h3, .inl (cC, 40, .inl u.2.1.1)), (h4, .inl (cI, 40, .inl u.2.1.2.1)), (h5, .inr (2, [.ref h6, .ref h7, .int u.2.2.2.2.1, .int u.2.2.2.2.2])), (h6, .inl (cI, 8, .inl u.2.2.1)), (h7, .inl (cJ, 8, .inr (.inl u.2.2.2.1)))] s.heap := hP
  have hD : va_D A [(h0, .inr (4, [.ref h1, .ref h2, .ref h5])), (h1, .inl (cJ, 8, .inr (.inl u.1))), (h2, .inr (3, [.ref h3, .ref h4, .int u.2.1.2.2])), (h3, .inl (cC, 40, .inl u.2.1.1)), (h4, .inl (cI, 40, .inl u.2.1.2.1)), (h5, .inr (2, [.ref h6, .ref h7, .int u.2.2.2.2.1, .int u.2.2.2.2.2])), (h6, .inl (cI, 8, .inl u.2.2.1)), (h7, .inl (cJ, 8, .inr (.inl u.2.2.2.1)))] := hD
  have q1 := hts (.fieldLink RX5 9 "Doubleline" "slots" "[J") (by decide +kernel)
  have q2 : ∀ w ∈ u_ws RX5 TX5 3, w ∈ wsX5_negate := by decide +kernel
  have hl := lv_entry ([.ref h0, .int a0, .int a1]) (n := 3) (Nat.le_of_ble_eq_true rfl)
  rw [lg_entry_eq]
  generalize (lg_sl ([.ref h0, .int a0, .int a1]) ++ List.replicate (3 - (lg_sl ([.ref h0, .int a0, .int a1])).length) Slot.unset).toArray = ls at hl ⊢
  have hl : lv_has ls 3 [(0, .ref h0), (1, .int a0), (2, .int a1)] := hl
  unfold f_X5_negate at hf
  refine lv_iload_n hx hb dX5_negate_0 rfl (lv_at hl 1 rfl) ?_
  obtain ⟨z1, ez1, xz1, hf⟩ := xb_e hf
  refine my_callT (As := [.int a0]) (n := 1) (rest := []) ⟨hx, hb, hml, hown, hts⟩ ht hlk hXK hS (m_X5_checkSlot l hl0 s.heap.size a0 _ ez1) gX5_negate_X5_checkSlot rfl (by decide +kernel) ⟨rfl, rfl⟩ ⟨Nat.le_of_ble_eq_true rfl, Nat.le_of_ble_eq_true rfl⟩ ⟨Nat.le_of_ble_eq_true rfl, Nat.le_of_ble_eq_true rfl⟩ ⟨Nat.le_of_ble_eq_true rfl, Nat.le_of_ble_eq_true rfl⟩ (fun q h => hA q h) xz1 hl.1 rfl rfl (Nat.le_of_ble_eq_true rfl) dX5_negate_1 (fun u9 H locs qz1 hk1 hS => ?_)
  have hP := my_keep hP hk1
  have hf := hf _ qz1
  refine lv_iload_n hx hb dX5_negate_4 rfl (lv_at hl 2 rfl) ?_
  obtain ⟨z2, ez2, xz2, hf⟩ := xb_e hf
  refine my_callT (As := [.int a1]) (n := 1) (rest := []) ⟨hx, hb, hml, hown, hts⟩ ht hlk hXK hS (m_X5_checkSlot l hl0 H.size a1 _ ez2) gX5_negate_X5_checkSlot rfl (by decide +kernel) ⟨rfl, rfl⟩ ⟨Nat.le_of_ble_eq_true rfl, Nat.le_of_ble_eq_true rfl⟩ ⟨Nat.le_of_ble_eq_true rfl, Nat.le_of_ble_eq_true rfl⟩ ⟨Nat.le_of_ble_eq_true rfl, Nat.le_of_ble_eq_true rfl⟩ (fun q h => hA q h) xz2 hl.1 rfl rfl (Nat.le_of_ble_eq_true rfl) dX5_negate_5 (fun u9 H locs qz2 hk1 hS => ?_)
  have hP := my_keep hP hk1
  have hf := hf _ qz2
  refine lv_aload_n hx hb dX5_negate_8 rfl (lv_at hl 0 rfl) ?_
  refine lv_iload_n hx hb dX5_negate_9 rfl (lv_at hl 2 rfl) ?_
  refine lv_aload_n hx hb dX5_negate_10 rfl (lv_at hl 0 rfl) ?_
  refine va_get (D := D) (ci := 4) (v := .ref h1) (C := RX5) (T := TX5) (N := 3) hx hb hts q2 hown hK hP 0 rfl rfl 0 (by decide) q1 (fun _ h9 => h9) rfl dX5_negate_11 ?_
  refine lv_iload_n hx hb dX5_negate_14 rfl (lv_at hl 1 rfl) ?_
  obtain ⟨g3, hf⟩ := og_e hf
  refine va_lald hx hb hK hP 1 2 rfl rfl g3 dX5_negate_15 ?_
  refine my_callPl (As := [.long (u.1 a0.toNatClampNeg)]) (n := 1) (rest := [.int a1, .ref h0]) ⟨hx, hb, hml, hown, hts⟩ (m_X0_opposite l (u.1 a0.toNatClampNeg) _ rfl) gX5_negate_X0_opposite rfl ⟨rfl, rfl⟩ (by decide +kernel) ⟨Nat.le_of_ble_eq_true rfl, Nat.le_of_ble_eq_true rfl⟩ ⟨Nat.le_of_ble_eq_true rfl, Nat.le_of_ble_eq_true rfl⟩ hl.1 rfl rfl (Nat.le_of_ble_eq_true rfl) dX5_negate_16 ?_
  obtain ⟨z4, ez4, hf⟩ := ob_e hf
  have hS := my_weak hS hA
  refine my_callMl (As := [.int a1, .long (f_X0_opposite (u.1 a0.toNatClampNeg))]) (n := 2) (rest := []) (wr := []) ⟨hx, hb, hml, hown, hts⟩ hK hP hD hS hA [0, 1, 2, 3, 4, 5, 6, 7] [] rfl rfl (by decide) (by decide) (by decide) (m_X5_become l D cC cI cJ h0 h1 h2 h3 h4 h5 h6 h7 u H.size a1 (f_X0_opposite (u.1 a0.toNatClampNeg)) _ ez4) gX5_negate_X5_become rfl ⟨rfl, rfl⟩ (ci := 4) rfl rfl (by decide +kernel) ⟨Nat.le_of_ble_eq_true rfl, Nat.le_of_ble_eq_true rfl⟩ ⟨Nat.le_of_ble_eq_true rfl, Nat.le_of_ble_eq_true rfl⟩ hl.1 rfl rfl (Nat.le_of_ble_eq_true rfl) dX5_negate_19 (fun r9 u9 H locs hw hP hD hS => ?_)
  obtain ⟨rfl, rfl⟩ := hw
  have hP : va_P D vwCl [(h0, .inr (4, [.ref h1, .ref h2, .ref h5])), (h1, .inl (cJ, 8, .inr (.inl z4.2.1))), (h2, .inr (3, [.ref h3, .ref h4, .int z4.2.2.1.2.2])), (h3, .inl (cC, 40, .inl z4.2.2.1.1)), (h4, .inl (cI, 40, .inl z4.2.2.1.2.1)), (h5, .inr (2, [.ref h6, .ref h7, .int z4.2.2.2.2.2.1, .int z4.2.2.2.2.2.2])), (h6, .inl (cI, 8, .inl z4.2.2.2.1)), (h7, .inl (cJ, 8, .inr (.inl z4.2.2.2.2.1)))] H := hP.sub [0, 1, 2, 3, 4, 5, 6, 7] rfl
  have hD : va_D A [(h0, .inr (4, [.ref h1, .ref h2, .ref h5])), (h1, .inl (cJ, 8, .inr (.inl z4.2.1))), (h2, .inr (3, [.ref h3, .ref h4, .int z4.2.2.1.2.2])), (h3, .inl (cC, 40, .inl z4.2.2.1.1)), (h4, .inl (cI, 40, .inl z4.2.2.1.2.1)), (h5, .inr (2, [.ref h6, .ref h7, .int z4.2.2.2.2.2.1, .int z4.2.2.2.2.2.2])), (h6, .inl (cI, 8, .inl z4.2.2.2.1)), (h7, .inl (cJ, 8, .inr (.inl z4.2.2.2.2.1)))] := hD.sub [0, 1, 2, 3, 4, 5, 6, 7] (by decide) rfl
  have hP9 : va_P D vwCl (wX cC cI cJ h0 h1 h2 h3 h4 h5 h6 h7 z4.2) _ := hP
  have hD9 : va_D A (wX cC cI cJ h0 h1 h2 h3 h4 h5 h6 h7 z4.2) := hD
  exact vx_ret (W.lret (v := z4.1) hx hb hr (fun t ht hW => ⟨⟨z4.1, z4.2, rfl, ⟨(z4.1, z4.2), rfl, rfl, (Option.some.inj hf).symm⟩, by rw [ht]; exact hP9, va_K.moved hW.alike hK, hD9⟩, hS.F ht⟩) hS.2.2 dX5_negate_22)

set_option maxHeartbeats 4000000 in
set_option maxRecDepth 100000 in
theorem m_X5_place (l : Launch) (hl0 : l.stackTraces = false) (D : va_G) (cC cI cJ : ClassId) (h0 h1 h2 h3 h4 h5 h6 h7 : Nat) (u : StX) (sz : Nat) (a0 : Int32) (res : (String ⊕ Int64)) (hf : f_X5_place u a0 = some res) : vx_Met l yX5_place wsX5_place rmX5_place (my_PcTR D vwCl (KT cC cI cJ) sz (wX cC cI cJ h0 h1 h2 h3 h4 h5 h6 h7 u) [.ref h0, .int a0]) (va_Ql (fun r (_ : Unit) => (∃ z, r = z ∧ res = .inr z)) (fun _ _ => True) (fun q : Nat => sz ≤ q)) (vx_X (fun _ : Unit => True) (fun E _ _ => res = .inl E) (fun q : Nat => sz ≤ q)) 1 6 (fun q : Nat => sz ≤ q) := by
  refine vx_ofW (cc := cX5_place) (maxL := 2) (ret := (some .long)) (by decide) rfl ?_
  intro p e s m args below meth c s₁ B hml ht hv
  obtain ⟨rfl, hsz, hP, hK, hXK⟩ := hv
  have hx := B.exec
  have hb := B.bytes
  have hr := B.returns
  have hts : ∀ w ∈ wsX5_place, w.before ([.ref h0, .int a0] : List Value).toArray s = true := atoms_spec (ws := wsX5_place) B.pre
  have hown : s.vm.findClass RX5 = some m.cls := findClass_of_methodNamed B.named
  have hlk : meth.locks = false := B.notSynchronized
  subst hsz
  have hS : va_S (fun q : Nat => s.heap.size ≤ q) s.heap s.heap [] := va_S.rf
  have hP : va_P D vwCl [(h0, .inr (4, [.ref h1, .ref h2, .ref h5])), (h1, .inl (cJ, 8, .inr (.inl u.1))), (h2, .inr (3, [.ref h3, .ref h4, .int u.2.1.2.2])), (h3, .inl (cC, 40, .inl u.2.1.1)), (h4, .inl (cI, 40, .inl u.2.1.2.1)), (h5, .inr (2, [.ref h6, .ref h7, .int u.2.2.2.2.1, .int u.2.2.2.2.2])), (h6, .inl (cI, 8, .inl u.2.2.1)), (h7, .inl (cJ, 8, .inr (.inl u.2.2.2.1)))] s.heap := hP
  have q1 := hts (.fieldLink RX5 9 "Doubleline" "slots" "[J") (by decide +kernel)
  have q2 : ∀ w ∈ u_ws RX5 TX5 3, w ∈ wsX5_place := by decide +kernel
  have hl := lv_entry ([.ref h0, .int a0]) (n := 2) (Nat.le_of_ble_eq_true rfl)
  rw [lg_entry_eq]
  generalize (lg_sl ([.ref h0, .int a0]) ++ List.replicate (2 - (lg_sl ([.ref h0, .int a0])).length) Slot.unset).toArray = ls at hl ⊢
  have hl : lv_has ls 2 [(0, .ref h0), (1, .int a0)] := hl
  unfold f_X5_place at hf
  refine lv_iload_n hx hb dX5_place_0 rfl (lv_at hl 1 rfl) ?_
  obtain ⟨z1, ez1, xz1, hf⟩ := xb_e hf
  refine my_callT (As := [.int a0]) (n := 1) (rest := []) ⟨hx, hb, hml, hown, hts⟩ ht hlk hXK hS (m_X5_checkSlot l hl0 s.heap.size a0 _ ez1) gX5_place_X5_checkSlot rfl (by decide +kernel) ⟨rfl, rfl⟩ ⟨Nat.le_of_ble_eq_true rfl, Nat.le_of_ble_eq_true rfl⟩ ⟨Nat.le_of_ble_eq_true rfl, Nat.le_of_ble_eq_true rfl⟩ ⟨Nat.le_of_ble_eq_true rfl, Nat.le_of_ble_eq_true rfl⟩ (fun q h => h) xz1 hl.1 rfl rfl (Nat.le_of_ble_eq_true rfl) dX5_place_1 (fun u9 H locs qz1 hk1 hS => ?_)
  have hP := my_keep hP hk1
  have hf := hf _ qz1
  refine lv_aload_n hx hb dX5_place_4 rfl (lv_at hl 0 rfl) ?_
  refine va_get (D := D) (ci := 4) (v := .ref h1) (C := RX5) (T := TX5) (N := 3) hx hb hts q2 hown hK hP 0 rfl rfl 0 (by decide) q1 (fun _ h9 => h9) rfl dX5_place_5 ?_
  refine lv_iload_n hx hb dX5_place_8 rfl (lv_at hl 1 rfl) ?_
  obtain ⟨g2, hf⟩ := og_e hf
  refine va_lald hx hb hK hP 1 2 rfl rfl g2 dX5_place_9 ?_
  refine my_callPl (As := [.long (u.1 a0.toNatClampNeg)]) (n := 1) (rest := []) ⟨hx, hb, hml, hown, hts⟩ (m_X0_placeOf l (u.1 a0.toNatClampNeg) _ rfl) gX5_place_X0_placeOf rfl ⟨rfl, rfl⟩ (by decide +kernel) ⟨Nat.le_of_ble_eq_true rfl, Nat.le_of_ble_eq_true rfl⟩ ⟨Nat.le_of_ble_eq_true rfl, Nat.le_of_ble_eq_true rfl⟩ hl.1 rfl rfl (Nat.le_of_ble_eq_true rfl) dX5_place_10 ?_
  exact vx_ret (W.lret (v := (f_X0_placeOf (u.1 a0.toNatClampNeg))) hx hb hr (fun t ht hW => ⟨⟨(f_X0_placeOf (u.1 a0.toNatClampNeg)), (), rfl, ⟨_, rfl, (Option.some.inj hf).symm⟩, trivial⟩, hS.F ht⟩) hS.2.2 dX5_place_13)

set_option maxHeartbeats 4000000 in
set_option maxRecDepth 100000 in
theorem m_X5_bits (l : Launch) (hl0 : l.stackTraces = false) (D : va_G) (cC cI cJ : ClassId) (h0 h1 h2 h3 h4 h5 h6 h7 : Nat) (u : StX) (sz : Nat) (a0 : Int32) (res : (String ⊕ Int64)) (hf : f_X5_bits u a0 = some res) : vx_Met l yX5_bits wsX5_bits rmX5_bits (my_PcTR D vwCl (KT cC cI cJ) sz (wX cC cI cJ h0 h1 h2 h3 h4 h5 h6 h7 u) [.ref h0, .int a0]) (va_Ql (fun r (_ : Unit) => (∃ z, r = z ∧ res = .inr z)) (fun _ _ => True) (fun q : Nat => sz ≤ q)) (vx_X (fun _ : Unit => True) (fun E _ _ => res = .inl E) (fun q : Nat => sz ≤ q)) 1 6 (fun q : Nat => sz ≤ q) := by
  refine vx_ofW (cc := cX5_bits) (maxL := 2) (ret := (some .long)) (by decide) rfl ?_
  intro p e s m args below meth c s₁ B hml ht hv
  obtain ⟨rfl, hsz, hP, hK, hXK⟩ := hv
  have hx := B.exec
  have hb := B.bytes
  have hr := B.returns
  have hts : ∀ w ∈ wsX5_bits, w.before ([.ref h0, .int a0] : List Value).toArray s = true := atoms_spec (ws := wsX5_bits) B.pre
  have hown : s.vm.findClass RX5 = some m.cls := findClass_of_methodNamed B.named
  have hlk : meth.locks = false := B.notSynchronized
  subst hsz
  have hS : va_S (fun q : Nat => s.heap.size ≤ q) s.heap s.heap [] := va_S.rf
  have hP : va_P D vwCl [(h0, .inr (4, [.ref h1, .ref h2, .ref h5])), (h1, .inl (cJ, 8, .inr (.inl u.1))), (h2, .inr (3, [.ref h3, .ref h4, .int u.2.1.2.2])), (h3, .inl (cC, 40, .inl u.2.1.1)), (h4, .inl (cI, 40, .inl u.2.1.2.1)), (h5, .inr (2, [.ref h6, .ref h7, .int u.2.2.2.2.1, .int u.2.2.2.2.2])), (h6, .inl (cI, 8, .inl u.2.2.1)), (h7, .inl (cJ, 8, .inr (.inl u.2.2.2.1)))] s.heap := hP
  have q1 := hts (.fieldLink RX5 9 "Doubleline" "slots" "[J") (by decide +kernel)
  have q2 : ∀ w ∈ u_ws RX5 TX5 3, w ∈ wsX5_bits := by decide +kernel
  have hl := lv_entry ([.ref h0, .int a0]) (n := 2) (Nat.le_of_ble_eq_true rfl)
  rw [lg_entry_eq]
  generalize (lg_sl ([.ref h0, .int a0]) ++ List.replicate (2 - (lg_sl ([.ref h0, .int a0])).length) Slot.unset).toArray = ls at hl ⊢
  have hl : lv_has ls 2 [(0, .ref h0), (1, .int a0)] := hl
  unfold f_X5_bits at hf
  refine lv_iload_n hx hb dX5_bits_0 rfl (lv_at hl 1 rfl) ?_
  obtain ⟨z1, ez1, xz1, hf⟩ := xb_e hf
  refine my_callT (As := [.int a0]) (n := 1) (rest := []) ⟨hx, hb, hml, hown, hts⟩ ht hlk hXK hS (m_X5_checkSlot l hl0 s.heap.size a0 _ ez1) gX5_bits_X5_checkSlot rfl (by decide +kernel) ⟨rfl, rfl⟩ ⟨Nat.le_of_ble_eq_true rfl, Nat.le_of_ble_eq_true rfl⟩ ⟨Nat.le_of_ble_eq_true rfl, Nat.le_of_ble_eq_true rfl⟩ ⟨Nat.le_of_ble_eq_true rfl, Nat.le_of_ble_eq_true rfl⟩ (fun q h => h) xz1 hl.1 rfl rfl (Nat.le_of_ble_eq_true rfl) dX5_bits_1 (fun u9 H locs qz1 hk1 hS => ?_)
  have hP := my_keep hP hk1
  have hf := hf _ qz1
  refine lv_aload_n hx hb dX5_bits_4 rfl (lv_at hl 0 rfl) ?_
  refine va_get (D := D) (ci := 4) (v := .ref h1) (C := RX5) (T := TX5) (N := 3) hx hb hts q2 hown hK hP 0 rfl rfl 0 (by decide) q1 (fun _ h9 => h9) rfl dX5_bits_5 ?_
  refine lv_iload_n hx hb dX5_bits_8 rfl (lv_at hl 1 rfl) ?_
  obtain ⟨g2, hf⟩ := og_e hf
  refine va_lald hx hb hK hP 1 2 rfl rfl g2 dX5_bits_9 ?_
  exact vx_ret (W.lret (v := (u.1 a0.toNatClampNeg)) hx hb hr (fun t ht hW => ⟨⟨(u.1 a0.toNatClampNeg), (), rfl, ⟨_, rfl, (Option.some.inj hf).symm⟩, trivial⟩, hS.F ht⟩) hS.2.2 dX5_bits_10)

set_option maxHeartbeats 4000000 in
set_option maxRecDepth 100000 in
theorem m_X5_isEndless (l : Launch) (hl0 : l.stackTraces = false) (D : va_G) (cC cI cJ : ClassId) (h0 h1 h2 h3 h4 h5 h6 h7 : Nat) (u : StX) (sz : Nat) (a0 : Int32) (res : (String ⊕ Bool)) (hf : f_X5_isEndless u a0 = some res) : vx_Met l yX5_isEndless wsX5_isEndless rmX5_isEndless (my_PcTR D vwCl (KT cC cI cJ) sz (wX cC cI cJ h0 h1 h2 h3 h4 h5 h6 h7 u) [.ref h0, .int a0]) (va_Qi (fun r (_ : Unit) => (∃ z, r = b2i z ∧ res = .inr z)) (fun _ _ => True) (fun q : Nat => sz ≤ q)) (vx_X (fun _ : Unit => True) (fun E _ _ => res = .inl E) (fun q : Nat => sz ≤ q)) 1 6 (fun q : Nat => sz ≤ q) := by
  refine vx_ofW (cc := cX5_isEndless) (maxL := 2) (ret := (some .boolean)) (by decide) rfl ?_
  intro p e s m args below meth c s₁ B hml ht hv
  obtain ⟨rfl, hsz, hP, hK, hXK⟩ := hv
  have hx := B.exec
  have hb := B.bytes
  have hr := B.returns
  have hts : ∀ w ∈ wsX5_isEndless, w.before ([.ref h0, .int a0] : List Value).toArray s = true := atoms_spec (ws := wsX5_isEndless) B.pre
  have hown : s.vm.findClass RX5 = some m.cls := findClass_of_methodNamed B.named
  have hlk : meth.locks = false := B.notSynchronized
  subst hsz
  have hS : va_S (fun q : Nat => s.heap.size ≤ q) s.heap s.heap [] := va_S.rf
  have hP : va_P D vwCl [(h0, .inr (4, [.ref h1, .ref h2, .ref h5])), (h1, .inl (cJ, 8, .inr (.inl u.1))), (h2, .inr (3, [.ref h3, .ref h4, .int u.2.1.2.2])), (h3, .inl (cC, 40, .inl u.2.1.1)), (h4, .inl (cI, 40, .inl u.2.1.2.1)), (h5, .inr (2, [.ref h6, .ref h7, .int u.2.2.2.2.1, .int u.2.2.2.2.2])), (h6, .inl (cI, 8, .inl u.2.2.1)), (h7, .inl (cJ, 8, .inr (.inl u.2.2.2.1)))] s.heap := hP
  have q1 := hts (.fieldLink RX5 9 "Doubleline" "slots" "[J") (by decide +kernel)
  have q2 : ∀ w ∈ u_ws RX5 TX5 3, w ∈ wsX5_isEndless := by decide +kernel
  have hl := lv_entry ([.ref h0, .int a0]) (n := 2) (Nat.le_of_ble_eq_true rfl)
  rw [lg_entry_eq]
  generalize (lg_sl ([.ref h0, .int a0]) ++ List.replicate (2 - (lg_sl ([.ref h0, .int a0])).length) Slot.unset).toArray = ls at hl ⊢
  have hl : lv_has ls 2 [(0, .ref h0), (1, .int a0)] := hl
  unfold f_X5_isEndless at hf
  refine lv_iload_n hx hb dX5_isEndless_0 rfl (lv_at hl 1 rfl) ?_
  obtain ⟨z1, ez1, xz1, hf⟩ := xb_e hf
  refine my_callT (As := [.int a0]) (n := 1) (rest := []) ⟨hx, hb, hml, hown, hts⟩ ht hlk hXK hS (m_X5_checkSlot l hl0 s.heap.size a0 _ ez1) gX5_isEndless_X5_checkSlot rfl (by decide +kernel) ⟨rfl, rfl⟩ ⟨Nat.le_of_ble_eq_true rfl, Nat.le_of_ble_eq_true rfl⟩ ⟨Nat.le_of_ble_eq_true rfl, Nat.le_of_ble_eq_true rfl⟩ ⟨Nat.le_of_ble_eq_true rfl, Nat.le_of_ble_eq_true rfl⟩ (fun q h => h) xz1 hl.1 rfl rfl (Nat.le_of_ble_eq_true rfl) dX5_isEndless_1 (fun u9 H locs qz1 hk1 hS => ?_)
  have hP := my_keep hP hk1
  have hf := hf _ qz1
  refine lv_aload_n hx hb dX5_isEndless_4 rfl (lv_at hl 0 rfl) ?_
  refine va_get (D := D) (ci := 4) (v := .ref h1) (C := RX5) (T := TX5) (N := 3) hx hb hts q2 hown hK hP 0 rfl rfl 0 (by decide) q1 (fun _ h9 => h9) rfl dX5_isEndless_5 ?_
  refine lv_iload_n hx hb dX5_isEndless_8 rfl (lv_at hl 1 rfl) ?_
  obtain ⟨g2, hf⟩ := og_e hf
  refine va_lald hx hb hK hP 1 2 rfl rfl g2 dX5_isEndless_9 ?_
  refine my_callPi (As := [.long (u.1 a0.toNatClampNeg)]) (n := 1) (rest := []) ⟨hx, hb, hml, hown, hts⟩ (m_X0_hasNoEnd l (u.1 a0.toNatClampNeg) _ rfl) gX5_isEndless_X0_hasNoEnd rfl ⟨rfl, rfl⟩ (by decide +kernel) ⟨Nat.le_of_ble_eq_true rfl, Nat.le_of_ble_eq_true rfl⟩ ⟨Nat.le_of_ble_eq_true rfl, Nat.le_of_ble_eq_true rfl⟩ hl.1 rfl rfl (Nat.le_of_ble_eq_true rfl) dX5_isEndless_10 ?_
  exact vx_ret (W.zret (v := b2i (f_X0_hasNoEnd (u.1 a0.toNatClampNeg))) (ty := .boolean) hx hb hr (b2i_nar _) (fun t ht hW => ⟨⟨b2i (f_X0_hasNoEnd (u.1 a0.toNatClampNeg)), (), rfl, ⟨_, rfl, (Option.some.inj hf).symm⟩, trivial⟩, hS.F ht⟩) hS.2.2 dX5_isEndless_13)

set_option maxHeartbeats 4000000 in
set_option maxRecDepth 100000 in
theorem m_X5_isWhole (l : Launch) (hl0 : l.stackTraces = false) (D : va_G) (cC cI cJ : ClassId) (h0 h1 h2 h3 h4 h5 h6 h7 : Nat) (u : StX) (sz : Nat) (a0 : Int32) (res : (String ⊕ Bool)) (hf : f_X5_isWhole u a0 = some res) : vx_Met l yX5_isWhole wsX5_isWhole rmX5_isWhole (my_PcTR D vwCl (KT cC cI cJ) sz (wX cC cI cJ h0 h1 h2 h3 h4 h5 h6 h7 u) [.ref h0, .int a0]) (va_Qi (fun r (_ : Unit) => (∃ z, r = b2i z ∧ res = .inr z)) (fun _ _ => True) (fun q : Nat => sz ≤ q)) (vx_X (fun _ : Unit => True) (fun E _ _ => res = .inl E) (fun q : Nat => sz ≤ q)) 1 6 (fun q : Nat => sz ≤ q) := by
  refine vx_ofW (cc := cX5_isWhole) (maxL := 2) (ret := (some .boolean)) (by decide) rfl ?_
  intro p e s m args below meth c s₁ B hml ht hv
  obtain ⟨rfl, hsz, hP, hK, hXK⟩ := hv
  have hx := B.exec
  have hb := B.bytes
  have hr := B.returns
  have hts : ∀ w ∈ wsX5_isWhole, w.before ([.ref h0, .int a0] : List Value).toArray s = true := atoms_spec (ws := wsX5_isWhole) B.pre
  have hown : s.vm.findClass RX5 = some m.cls := findClass_of_methodNamed B.named
  have hlk : meth.locks = false := B.notSynchronized
  subst hsz
  have hS : va_S (fun q : Nat => s.heap.size ≤ q) s.heap s.heap [] := va_S.rf
  have hP : va_P D vwCl [(h0, .inr (4, [.ref h1, .ref h2, .ref h5])), (h1, .inl (cJ, 8, .inr (.inl u.1))), (h2, .inr (3, [.ref h3, .ref h4, .int u.2.1.2.2])), (h3, .inl (cC, 40, .inl u.2.1.1)), (h4, .inl (cI, 40, .inl u.2.1.2.1)), (h5, .inr (2, [.ref h6, .ref h7, .int u.2.2.2.2.1, .int u.2.2.2.2.2])), (h6, .inl (cI, 8, .inl u.2.2.1)), (h7, .inl (cJ, 8, .inr (.inl u.2.2.2.1)))] s.heap := hP
  have q1 := hts (.fieldLink RX5 9 "Doubleline" "slots" "[J") (by decide +kernel)
  have q2 : ∀ w ∈ u_ws RX5 TX5 3, w ∈ wsX5_isWhole := by decide +kernel
  have hl := lv_entry ([.ref h0, .int a0]) (n := 2) (Nat.le_of_ble_eq_true rfl)
  rw [lg_entry_eq]
  generalize (lg_sl ([.ref h0, .int a0]) ++ List.replicate (2 - (lg_sl ([.ref h0, .int a0])).length) Slot.unset).toArray = ls at hl ⊢
  have hl : lv_has ls 2 [(0, .ref h0), (1, .int a0)] := hl
  unfold f_X5_isWhole at hf
  refine lv_iload_n hx hb dX5_isWhole_0 rfl (lv_at hl 1 rfl) ?_
  obtain ⟨z1, ez1, xz1, hf⟩ := xb_e hf
  refine my_callT (As := [.int a0]) (n := 1) (rest := []) ⟨hx, hb, hml, hown, hts⟩ ht hlk hXK hS (m_X5_checkSlot l hl0 s.heap.size a0 _ ez1) gX5_isWhole_X5_checkSlot rfl (by decide +kernel) ⟨rfl, rfl⟩ ⟨Nat.le_of_ble_eq_true rfl, Nat.le_of_ble_eq_true rfl⟩ ⟨Nat.le_of_ble_eq_true rfl, Nat.le_of_ble_eq_true rfl⟩ ⟨Nat.le_of_ble_eq_true rfl, Nat.le_of_ble_eq_true rfl⟩ (fun q h => h) xz1 hl.1 rfl rfl (Nat.le_of_ble_eq_true rfl) dX5_isWhole_1 (fun u9 H locs qz1 hk1 hS => ?_)
  have hP := my_keep hP hk1
  have hf := hf _ qz1
  refine lv_aload_n hx hb dX5_isWhole_4 rfl (lv_at hl 0 rfl) ?_
  refine va_get (D := D) (ci := 4) (v := .ref h1) (C := RX5) (T := TX5) (N := 3) hx hb hts q2 hown hK hP 0 rfl rfl 0 (by decide) q1 (fun _ h9 => h9) rfl dX5_isWhole_5 ?_
  refine lv_iload_n hx hb dX5_isWhole_8 rfl (lv_at hl 1 rfl) ?_
  obtain ⟨g2, hf⟩ := og_e hf
  refine va_lald hx hb hK hP 1 2 rfl rfl g2 dX5_isWhole_9 ?_
  refine my_callPi (As := [.long (u.1 a0.toNatClampNeg)]) (n := 1) (rest := []) ⟨hx, hb, hml, hown, hts⟩ (m_X0_hasNoFraction l (u.1 a0.toNatClampNeg) _ rfl) gX5_isWhole_X0_hasNoFraction rfl ⟨rfl, rfl⟩ (by decide +kernel) ⟨Nat.le_of_ble_eq_true rfl, Nat.le_of_ble_eq_true rfl⟩ ⟨Nat.le_of_ble_eq_true rfl, Nat.le_of_ble_eq_true rfl⟩ hl.1 rfl rfl (Nat.le_of_ble_eq_true rfl) dX5_isWhole_10 ?_
  exact vx_ret (W.zret (v := b2i (f_X0_hasNoFraction (u.1 a0.toNatClampNeg))) (ty := .boolean) hx hb hr (b2i_nar _) (fun t ht hW => ⟨⟨b2i (f_X0_hasNoFraction (u.1 a0.toNatClampNeg)), (), rfl, ⟨_, rfl, (Option.some.inj hf).symm⟩, trivial⟩, hS.F ht⟩) hS.2.2 dX5_isWhole_13)

set_option maxHeartbeats 4000000 in
set_option maxRecDepth 100000 in
theorem m_X5_isSmall (l : Launch) (hl0 : l.stackTraces = false) (D : va_G) (cC cI cJ : ClassId) (h0 h1 h2 h3 h4 h5 h6 h7 : Nat) (u : StX) (sz : Nat) (a0 : Int32) (res : (String ⊕ Bool)) (hf : f_X5_isSmall u a0 = some res) : vx_Met l yX5_isSmall wsX5_isSmall rmX5_isSmall (my_PcTR D vwCl (KT cC cI cJ) sz (wX cC cI cJ h0 h1 h2 h3 h4 h5 h6 h7 u) [.ref h0, .int a0]) (va_Qi (fun r (_ : Unit) => (∃ z, r = b2i z ∧ res = .inr z)) (fun _ _ => True) (fun q : Nat => sz ≤ q)) (vx_X (fun _ : Unit => True) (fun E _ _ => res = .inl E) (fun q : Nat => sz ≤ q)) 1 6 (fun q : Nat => sz ≤ q) := by
  refine vx_ofW (cc := cX5_isSmall) (maxL := 2) (ret := (some .boolean)) (by decide) rfl ?_
  intro p e s m args below meth c s₁ B hml ht hv
  obtain ⟨rfl, hsz, hP, hK, hXK⟩ := hv
  have hx := B.exec
  have hb := B.bytes
  have hr := B.returns
  have hts : ∀ w ∈ wsX5_isSmall, w.before ([.ref h0, .int a0] : List Value).toArray s = true := atoms_spec (ws := wsX5_isSmall) B.pre
  have hown : s.vm.findClass RX5 = some m.cls := findClass_of_methodNamed B.named
  have hlk : meth.locks = false := B.notSynchronized
  subst hsz
  have hS : va_S (fun q : Nat => s.heap.size ≤ q) s.heap s.heap [] := va_S.rf
  have hP : va_P D vwCl [(h0, .inr (4, [.ref h1, .ref h2, .ref h5])), (h1, .inl (cJ, 8, .inr (.inl u.1))), (h2, .inr (3, [.ref h3, .ref h4, .int u.2.1.2.2])), (h3, .inl (cC, 40, .inl u.2.1.1)), (h4, .inl (cI, 40, .inl u.2.1.2.1)), (h5, .inr (2, [.ref h6, .ref h7, .int u.2.2.2.2.1, .int u.2.2.2.2.2])), (h6, .inl (cI, 8, .inl u.2.2.1)), (h7, .inl (cJ, 8, .inr (.inl u.2.2.2.1)))] s.heap := hP
  have q1 := hts (.fieldLink RX5 9 "Doubleline" "slots" "[J") (by decide +kernel)
  have q2 : ∀ w ∈ u_ws RX5 TX5 3, w ∈ wsX5_isSmall := by decide +kernel
  have hl := lv_entry ([.ref h0, .int a0]) (n := 2) (Nat.le_of_ble_eq_true rfl)
  rw [lg_entry_eq]
  generalize (lg_sl ([.ref h0, .int a0]) ++ List.replicate (2 - (lg_sl ([.ref h0, .int a0])).length) Slot.unset).toArray = ls at hl ⊢
  have hl : lv_has ls 2 [(0, .ref h0), (1, .int a0)] := hl
  unfold f_X5_isSmall at hf
  refine lv_iload_n hx hb dX5_isSmall_0 rfl (lv_at hl 1 rfl) ?_
  obtain ⟨z1, ez1, xz1, hf⟩ := xb_e hf
  refine my_callT (As := [.int a0]) (n := 1) (rest := []) ⟨hx, hb, hml, hown, hts⟩ ht hlk hXK hS (m_X5_checkSlot l hl0 s.heap.size a0 _ ez1) gX5_isSmall_X5_checkSlot rfl (by decide +kernel) ⟨rfl, rfl⟩ ⟨Nat.le_of_ble_eq_true rfl, Nat.le_of_ble_eq_true rfl⟩ ⟨Nat.le_of_ble_eq_true rfl, Nat.le_of_ble_eq_true rfl⟩ ⟨Nat.le_of_ble_eq_true rfl, Nat.le_of_ble_eq_true rfl⟩ (fun q h => h) xz1 hl.1 rfl rfl (Nat.le_of_ble_eq_true rfl) dX5_isSmall_1 (fun u9 H locs qz1 hk1 hS => ?_)
  have hP := my_keep hP hk1
  have hf := hf _ qz1
  refine lv_aload_n hx hb dX5_isSmall_4 rfl (lv_at hl 0 rfl) ?_
  refine va_get (D := D) (ci := 4) (v := .ref h1) (C := RX5) (T := TX5) (N := 3) hx hb hts q2 hown hK hP 0 rfl rfl 0 (by decide) q1 (fun _ h9 => h9) rfl dX5_isSmall_5 ?_
  refine lv_iload_n hx hb dX5_isSmall_8 rfl (lv_at hl 1 rfl) ?_
  obtain ⟨g2, hf⟩ := og_e hf
  refine va_lald hx hb hK hP 1 2 rfl rfl g2 dX5_isSmall_9 ?_
  refine my_callPi (As := [.long (u.1 a0.toNatClampNeg)]) (n := 1) (rest := []) ⟨hx, hb, hml, hown, hts⟩ (m_X0_hasLeastExponent l (u.1 a0.toNatClampNeg) _ rfl) gX5_isSmall_X0_hasLeastExponent rfl ⟨rfl, rfl⟩ (by decide +kernel) ⟨Nat.le_of_ble_eq_true rfl, Nat.le_of_ble_eq_true rfl⟩ ⟨Nat.le_of_ble_eq_true rfl, Nat.le_of_ble_eq_true rfl⟩ hl.1 rfl rfl (Nat.le_of_ble_eq_true rfl) dX5_isSmall_10 ?_
  exact vx_ret (W.zret (v := b2i (f_X0_hasLeastExponent (u.1 a0.toNatClampNeg))) (ty := .boolean) hx hb hr (b2i_nar _) (fun t ht hW => ⟨⟨b2i (f_X0_hasLeastExponent (u.1 a0.toNatClampNeg)), (), rfl, ⟨_, rfl, (Option.some.inj hf).symm⟩, trivial⟩, hS.F ht⟩) hS.2.2 dX5_isSmall_13)

set_option maxHeartbeats 4000000 in
set_option maxRecDepth 100000 in
theorem m_X5_up (l : Launch) (hl0 : l.stackTraces = false) (D : va_G) (cC cI cJ : ClassId) (h0 h1 h2 h3 h4 h5 h6 h7 : Nat) (u : StX) (sz : Nat) (a0 : Int32) (a1 : Int32) (res : (String ⊕ (Int32 × StX))) (hf : f_X5_up u a0 a1 = some res) : vx_Met l yX5_up wsX5_up rmX5_up (my_PcTM D vwCl (KT cC cI cJ) sz (wX cC cI cJ h0 h1 h2 h3 h4 h5 h6 h7 u) [.ref h0, .int a0, .int a1]) (va_Qi (fun r v => ∃ z, r = z.1 ∧ v = z.2 ∧ res = .inr z) (my_B D vwCl (KT cC cI cJ) (va_A (wX cC cI cJ h0 h1 h2 h3 h4 h5 h6 h7 u) sz) (fun v : StX => (wX cC cI cJ h0 h1 h2 h3 h4 h5 h6 h7 v))) (va_A (wX cC cI cJ h0 h1 h2 h3 h4 h5 h6 h7 u) sz)) (vx_X (fun _ : Unit => True) (fun E _ _ => res = .inl E) (fun q : Nat => sz ≤ q)) 2 12 (va_A (wX cC cI cJ h0 h1 h2 h3 h4 h5 h6 h7 u) sz) := by
  refine vx_ofW (cc := cX5_up) (maxL := 5) (ret := (some .int)) (by decide) rfl ?_
  intro p e s m args below meth c s₁ B hml ht hv
  obtain ⟨rfl, hsz, hP, hK, hD0, hXK⟩ := hv
  have hx := B.exec
  have hb := B.bytes
  have hr := B.returns
  have hts : ∀ w ∈ wsX5_up, w.before ([.ref h0, .int a0, .int a1] : List Value).toArray s = true := atoms_spec (ws := wsX5_up) B.pre
  have hown : s.vm.findClass RX5 = some m.cls := findClass_of_methodNamed B.named
  have hlk : meth.locks = false := B.notSynchronized
  subst hsz
  have hD := hD0.self (sz := s.heap.size)
  generalize hAe : va_A (wX cC cI cJ h0 h1 h2 h3 h4 h5 h6 h7 u) s.heap.size = A at hD ⊢
  have hA : ∀ q : Nat, s.heap.size ≤ q → A q := fun q h => by rw [← hAe]; exact Or.inr h
  have hS : va_S (fun q : Nat => s.heap.size ≤ q) s.heap s.heap [] := va_S.rf
  have hP : va_P D vwCl [(h0, .inr (4, [.ref h1, .ref h2, .ref h5])), (h1, .inl (cJ, 8, .inr (.inl u.1))), (h2, .inr (3, [.ref h3, .ref h4, .int u.2.1.2.2])), (h3, .inl (cC, 40, .inl u.2.1.1)), (h4, .inl (cI, 40, .inl u.2.1.2.1)), (h5, .inr (2, [.ref h6, .ref h7, .int u.2.2.2.2.1, .int u.2.2.2.2.2])), (h6, .inl (cI, 8, .inl u.2.2.1)), (h7, .inl (cJ, 8, .inr (.inl u.2.2.2.1)))] s.heap := hP
  have hD : va_D A [(h0, .inr (4, [.ref h1, .ref h2, .ref h5])), (h1, .inl (cJ, 8, .inr (.inl u.1))), (h2, .inr (3, [.ref h3, .ref h4, .int u.2.1.2.2])), (h3, .inl (cC, 40, .inl u.2.1.1)), (h4, .inl (cI, 40, .inl u.2.1.2.1)), (h5, .inr (2, [.ref h6, .ref h7, .int u.2.2.2.2.1, .int u.2.2.2.2.2])), (h6, .inl (cI, 8, .inl u.2.2.1)), (h7, .inl (cJ, 8, .inr (.inl u.2.2.2.1)))] := hD
  have q1 := hts (.fieldLink RX5 9 "Doubleline" "slots" "[J") (by decide +kernel)
  have q2 : ∀ w ∈ u_ws RX5 TX5 3, w ∈ wsX5_up := by decide +kernel
  have hl := lv_entry ([.ref h0, .int a0, .int a1]) (n := 5) (Nat.le_of_ble_eq_true rfl)
  rw [lg_entry_eq]
  generalize (lg_sl ([.ref h0, .int a0, .int a1]) ++ List.replicate (5 - (lg_sl ([.ref h0, .int a0, .int a1])).length) Slot.unset).toArray = ls at hl ⊢
  have hl : lv_has ls 5 [(0, .ref h0), (1, .int a0), (2, .int a1)] := hl
  unfold f_X5_up at hf
  refine lv_iload_n hx hb dX5_up_0 rfl (lv_at hl 1 rfl) ?_
  obtain ⟨z1, ez1, xz1, hf⟩ := xb_e hf
  refine my_callT (As := [.int a0]) (n := 1) (rest := []) ⟨hx, hb, hml, hown, hts⟩ ht hlk hXK hS (m_X5_checkSlot l hl0 s.heap.size a0 _ ez1) gX5_up_X5_checkSlot rfl (by decide +kernel) ⟨rfl, rfl⟩ ⟨Nat.le_of_ble_eq_true rfl, Nat.le_of_ble_eq_true rfl⟩ ⟨Nat.le_of_ble_eq_true rfl, Nat.le_of_ble_eq_true rfl⟩ ⟨Nat.le_of_ble_eq_true rfl, Nat.le_of_ble_eq_true rfl⟩ (fun q h => hA q h) xz1 hl.1 rfl rfl (Nat.le_of_ble_eq_true rfl) dX5_up_1 (fun u9 H locs qz1 hk1 hS => ?_)
  have hP := my_keep hP hk1
  have hf := hf _ qz1
  refine lv_iload_n hx hb dX5_up_4 rfl (lv_at hl 2 rfl) ?_
  refine lv_iconst (v := 0) hx hb dX5_up_5 (by decide) ?_
  refine lv_bipush (v := 64) hx hb dX5_up_6 (by decide) ?_
  obtain ⟨z2, ez2, xz2, hf⟩ := xb_e hf
  refine my_callT (As := [.int a1, .int 0, .int 64]) (n := 3) (rest := []) ⟨hx, hb, hml, hown, hts⟩ ht hlk hXK hS (m_X5_checkRange l hl0 H.size a1 0 64 _ ez2) gX5_up_X5_checkRange rfl (by decide +kernel) ⟨rfl, rfl⟩ ⟨Nat.le_of_ble_eq_true rfl, Nat.le_of_ble_eq_true rfl⟩ ⟨Nat.le_of_ble_eq_true rfl, Nat.le_of_ble_eq_true rfl⟩ ⟨Nat.le_of_ble_eq_true rfl, Nat.le_of_ble_eq_true rfl⟩ (fun q h => hA q h) xz2 hl.1 rfl rfl (Nat.le_of_ble_eq_true rfl) dX5_up_8 (fun u9 H locs qz2 hk1 hS => ?_)
  have hP := my_keep hP hk1
  have hf := hf _ qz2
  refine lv_aload_n hx hb dX5_up_11 rfl (lv_at hl 0 rfl) ?_
  refine va_get (D := D) (ci := 4) (v := .ref h1) (C := RX5) (T := TX5) (N := 3) hx hb hts q2 hown hK hP 0 rfl rfl 0 (by decide) q1 (fun _ h9 => h9) rfl dX5_up_12 ?_
  refine lv_iload_n hx hb dX5_up_15 rfl (lv_at hl 1 rfl) ?_
  obtain ⟨g3, hf⟩ := og_e hf
  refine va_lald hx hb hK hP 1 2 rfl rfl g3 dX5_up_16 ?_
  refine lv_lstore_n (lv' := [(3, .long (u.1 a0.toNatClampNeg)), (0, .ref h0), (1, .int a0), (2, .int a1)]) hx hb dX5_up_17 rfl hl (by decide) rfl (fun ls hl => ?_)
  refine lv_aload_n hx hb dX5_up_18 rfl (lv_at hl 1 rfl) ?_
  refine lv_iload_n hx hb dX5_up_19 rfl (lv_at hl 2 rfl) ?_
  refine lv_lload_n hx hb dX5_up_20 rfl (lv_at hl 0 rfl) ?_
  refine lv_iload_n hx hb dX5_up_21 rfl (lv_at hl 3 rfl) ?_
  refine my_callPl (As := [.long (u.1 a0.toNatClampNeg), .int a1]) (n := 2) (rest := [.int a0, .ref h0]) ⟨hx, hb, hml, hown, hts⟩ (m_X0_raised l (u.1 a0.toNatClampNeg) a1 _ rfl) gX5_up_X0_raised rfl ⟨rfl, rfl⟩ (by decide +kernel) ⟨Nat.le_of_ble_eq_true rfl, Nat.le_of_ble_eq_true rfl⟩ ⟨Nat.le_of_ble_eq_true rfl, Nat.le_of_ble_eq_true rfl⟩ hl.1 rfl rfl (Nat.le_of_ble_eq_true rfl) dX5_up_22 ?_
  obtain ⟨z4, ez4, hf⟩ := ob_e hf
  have hS := my_weak hS hA
  refine my_callMl (As := [.int a0, .long (f_X0_raised (u.1 a0.toNatClampNeg) a1)]) (n := 2) (rest := []) (wr := []) ⟨hx, hb, hml, hown, hts⟩ hK hP hD hS hA [0, 1, 2, 3, 4, 5, 6, 7] [] rfl rfl (by decide) (by decide) (by decide) (m_X5_become l D cC cI cJ h0 h1 h2 h3 h4 h5 h6 h7 u H.size a0 (f_X0_raised (u.1 a0.toNatClampNeg) a1) _ ez4) gX5_up_X5_become rfl ⟨rfl, rfl⟩ (ci := 4) rfl rfl (by decide +kernel) ⟨Nat.le_of_ble_eq_true rfl, Nat.le_of_ble_eq_true rfl⟩ ⟨Nat.le_of_ble_eq_true rfl, Nat.le_of_ble_eq_true rfl⟩ hl.1 rfl rfl (Nat.le_of_ble_eq_true rfl) dX5_up_25 (fun r9 u9 H locs hw hP hD hS => ?_)
  obtain ⟨rfl, rfl⟩ := hw
  have hP : va_P D vwCl [(h0, .inr (4, [.ref h1, .ref h2, .ref h5])), (h1, .inl (cJ, 8, .inr (.inl z4.2.1))), (h2, .inr (3, [.ref h3, .ref h4, .int z4.2.2.1.2.2])), (h3, .inl (cC, 40, .inl z4.2.2.1.1)), (h4, .inl (cI, 40, .inl z4.2.2.1.2.1)), (h5, .inr (2, [.ref h6, .ref h7, .int z4.2.2.2.2.2.1, .int z4.2.2.2.2.2.2])), (h6, .inl (cI, 8, .inl z4.2.2.2.1)), (h7, .inl (cJ, 8, .inr (.inl z4.2.2.2.2.1)))] H := hP.sub [0, 1, 2, 3, 4, 5, 6, 7] rfl
  have hD : va_D A [(h0, .inr (4, [.ref h1, .ref h2, .ref h5])), (h1, .inl (cJ, 8, .inr (.inl z4.2.1))), (h2, .inr (3, [.ref h3, .ref h4, .int z4.2.2.1.2.2])), (h3, .inl (cC, 40, .inl z4.2.2.1.1)), (h4, .inl (cI, 40, .inl z4.2.2.1.2.1)), (h5, .inr (2, [.ref h6, .ref h7, .int z4.2.2.2.2.2.1, .int z4.2.2.2.2.2.2])), (h6, .inl (cI, 8, .inl z4.2.2.2.1)), (h7, .inl (cJ, 8, .inr (.inl z4.2.2.2.2.1)))] := hD.sub [0, 1, 2, 3, 4, 5, 6, 7] (by decide) rfl
  refine lv_lload_n hx hb dX5_up_28 rfl (lv_at hl 0 rfl) ?_
  refine my_callPl (As := [.long (u.1 a0.toNatClampNeg)]) (n := 1) (rest := [.long z4.1]) ⟨hx, hb, hml, hown, hts⟩ (m_X0_placeOf l (u.1 a0.toNatClampNeg) _ rfl) gX5_up_X0_placeOf rfl ⟨rfl, rfl⟩ (by decide +kernel) ⟨Nat.le_of_ble_eq_true rfl, Nat.le_of_ble_eq_true rfl⟩ ⟨Nat.le_of_ble_eq_true rfl, Nat.le_of_ble_eq_true rfl⟩ hl.1 rfl rfl (Nat.le_of_ble_eq_true rfl) dX5_up_29 ?_
  refine lv_lsub hx hb dX5_up_32 ?_
  refine lv_l2i (v := ((z4.1 - (f_X0_placeOf (u.1 a0.toNatClampNeg))).toInt32)) hx hb dX5_up_33 rfl ?_
  have hP9 : va_P D vwCl (wX cC cI cJ h0 h1 h2 h3 h4 h5 h6 h7 z4.2) _ := hP
  have hD9 : va_D A (wX cC cI cJ h0 h1 h2 h3 h4 h5 h6 h7 z4.2) := hD
  exact vx_ret (W.iret (v := ((z4.1 - (f_X0_placeOf (u.1 a0.toNatClampNeg))).toInt32)) hx hb hr (fun t ht hW => ⟨⟨((z4.1 - (f_X0_placeOf (u.1 a0.toNatClampNeg))).toInt32), z4.2, rfl, ⟨(((z4.1 - (f_X0_placeOf (u.1 a0.toNatClampNeg))).toInt32), z4.2), rfl, rfl, (Option.some.inj hf).symm⟩, by rw [ht]; exact hP9, va_K.moved hW.alike hK, hD9⟩, hS.F ht⟩) hS.2.2 dX5_up_34)

set_option maxHeartbeats 4000000 in
set_option maxRecDepth 100000 in
theorem m_X5_down (l : Launch) (hl0 : l.stackTraces = false) (D : va_G) (cC cI cJ : ClassId) (h0 h1 h2 h3 h4 h5 h6 h7 : Nat) (u : StX) (sz : Nat) (a0 : Int32) (a1 : Int32) (res : (String ⊕ (Int32 × StX))) (hf : f_X5_down u a0 a1 = some res) : vx_Met l yX5_down wsX5_down rmX5_down (my_PcTM D vwCl (KT cC cI cJ) sz (wX cC cI cJ h0 h1 h2 h3 h4 h5 h6 h7 u) [.ref h0, .int a0, .int a1]) (va_Qi (fun r v => ∃ z, r = z.1 ∧ v = z.2 ∧ res = .inr z) (my_B D vwCl (KT cC cI cJ) (va_A (wX cC cI cJ h0 h1 h2 h3 h4 h5 h6 h7 u) sz) (fun v : StX => (wX cC cI cJ h0 h1 h2 h3 h4 h5 h6 h7 v))) (va_A (wX cC cI cJ h0 h1 h2 h3 h4 h5 h6 h7 u) sz)) (vx_X (fun _ : Unit => True) (fun E _ _ => res = .inl E) (fun q : Nat => sz ≤ q)) 2 12 (va_A (wX cC cI cJ h0 h1 h2 h3 h4 h5 h6 h7 u) sz) := by
  refine vx_ofW (cc := cX5_down) (maxL := 5) (ret := (some .int)) (by decide) rfl ?_
  intro p e s m args below meth c s₁ B hml ht hv
  obtain ⟨rfl, hsz, hP, hK, hD0, hXK⟩ := hv
  have hx := B.exec
  have hb := B.bytes
  have hr := B.returns
  have hts : ∀ w ∈ wsX5_down, w.before ([.ref h0, .int a0, .int a1] : List Value).toArray s = true := atoms_spec (ws := wsX5_down) B.pre
  have hown : s.vm.findClass RX5 = some m.cls := findClass_of_methodNamed B.named
  have hlk : meth.locks = false := B.notSynchronized
  subst hsz
  have hD := hD0.self (sz := s.heap.size)
  generalize hAe : va_A (wX cC cI cJ h0 h1 h2 h3 h4 h5 h6 h7 u) s.heap.size = A at hD ⊢
  have hA : ∀ q : Nat, s.heap.size ≤ q → A q := fun q h => by rw [← hAe]; exact Or.inr h
  have hS : va_S (fun q : Nat => s.heap.size ≤ q) s.heap s.heap [] := va_S.rf
  have hP : va_P D vwCl [(h0, .inr (4, [.ref h1, .ref h2, .ref h5])), (h1, .inl (cJ, 8, .inr (.inl u.1))), (h2, .inr (3, [.ref h3, .ref h4, .int u.2.1.2.2])), (h3, .inl (cC, 40, .inl u.2.1.1)), (h4, .inl (cI, 40, .inl u.2.1.2.1)), (h5, .inr (2, [.ref h6, .ref h7, .int u.2.2.2.2.1, .int u.2.2.2.2.2])), (h6, .inl (cI, 8, .inl u.2.2.1)), (h7, .inl (cJ, 8, .inr (.inl u.2.2.2.1)))] s.heap := hP
  have hD : va_D A [(h0, .inr (4, [.ref h1, .ref h2, .ref h5])), (h1, .inl (cJ, 8, .inr (.inl u.1))), (h2, .inr (3, [.ref h3, .ref h4, .int u.2.1.2.2])), (h3, .inl (cC, 40, .inl u.2.1.1)), (h4, .inl (cI, 40, .inl u.2.1.2.1)), (h5, .inr (2, [.ref h6, .ref h7, .int u.2.2.2.2.1, .int u.2.2.2.2.2])), (h6, .inl (cI, 8, .inl u.2.2.1)), (h7, .inl (cJ, 8, .inr (.inl u.2.2.2.1)))] := hD
  have q1 := hts (.fieldLink RX5 9 "Doubleline" "slots" "[J") (by decide +kernel)
  have q2 : ∀ w ∈ u_ws RX5 TX5 3, w ∈ wsX5_down := by decide +kernel
  have hl := lv_entry ([.ref h0, .int a0, .int a1]) (n := 5) (Nat.le_of_ble_eq_true rfl)
  rw [lg_entry_eq]
  generalize (lg_sl ([.ref h0, .int a0, .int a1]) ++ List.replicate (5 - (lg_sl ([.ref h0, .int a0, .int a1])).length) Slot.unset).toArray = ls at hl ⊢
  have hl : lv_has ls 5 [(0, .ref h0), (1, .int a0), (2, .int a1)] := hl
  unfold f_X5_down at hf
  refine lv_iload_n hx hb dX5_down_0 rfl (lv_at hl 1 rfl) ?_
  obtain ⟨z1, ez1, xz1, hf⟩ := xb_e hf
  refine my_callT (As := [.int a0]) (n := 1) (rest := []) ⟨hx, hb, hml, hown, hts⟩ ht hlk hXK hS (m_X5_checkSlot l hl0 s.heap.size a0 _ ez1) gX5_down_X5_checkSlot rfl (by decide +kernel) ⟨rfl, rfl⟩ ⟨Nat.le_of_ble_eq_true rfl, Nat.le_of_ble_eq_true rfl⟩ ⟨Nat.le_of_ble_eq_true rfl, Nat.le_of_ble_eq_true rfl⟩ ⟨Nat.le_of_ble_eq_true rfl, Nat.le_of_ble_eq_true rfl⟩ (fun q h => hA q h) xz1 hl.1 rfl rfl (Nat.le_of_ble_eq_true rfl) dX5_down_1 (fun u9 H locs qz1 hk1 hS => ?_)
  have hP := my_keep hP hk1
  have hf := hf _ qz1
  refine lv_iload_n hx hb dX5_down_4 rfl (lv_at hl 2 rfl) ?_
  refine lv_iconst (v := 0) hx hb dX5_down_5 (by decide) ?_
  refine lv_bipush (v := 64) hx hb dX5_down_6 (by decide) ?_
  obtain ⟨z2, ez2, xz2, hf⟩ := xb_e hf
  refine my_callT (As := [.int a1, .int 0, .int 64]) (n := 3) (rest := []) ⟨hx, hb, hml, hown, hts⟩ ht hlk hXK hS (m_X5_checkRange l hl0 H.size a1 0 64 _ ez2) gX5_down_X5_checkRange rfl (by decide +kernel) ⟨rfl, rfl⟩ ⟨Nat.le_of_ble_eq_true rfl, Nat.le_of_ble_eq_true rfl⟩ ⟨Nat.le_of_ble_eq_true rfl, Nat.le_of_ble_eq_true rfl⟩ ⟨Nat.le_of_ble_eq_true rfl, Nat.le_of_ble_eq_true rfl⟩ (fun q h => hA q h) xz2 hl.1 rfl rfl (Nat.le_of_ble_eq_true rfl) dX5_down_8 (fun u9 H locs qz2 hk1 hS => ?_)
  have hP := my_keep hP hk1
  have hf := hf _ qz2
  refine lv_aload_n hx hb dX5_down_11 rfl (lv_at hl 0 rfl) ?_
  refine va_get (D := D) (ci := 4) (v := .ref h1) (C := RX5) (T := TX5) (N := 3) hx hb hts q2 hown hK hP 0 rfl rfl 0 (by decide) q1 (fun _ h9 => h9) rfl dX5_down_12 ?_
  refine lv_iload_n hx hb dX5_down_15 rfl (lv_at hl 1 rfl) ?_
  obtain ⟨g3, hf⟩ := og_e hf
  refine va_lald hx hb hK hP 1 2 rfl rfl g3 dX5_down_16 ?_
  refine lv_lstore_n (lv' := [(3, .long (u.1 a0.toNatClampNeg)), (0, .ref h0), (1, .int a0), (2, .int a1)]) hx hb dX5_down_17 rfl hl (by decide) rfl (fun ls hl => ?_)
  refine lv_lload_n hx hb dX5_down_18 rfl (lv_at hl 0 rfl) ?_
  refine my_callPl (As := [.long (u.1 a0.toNatClampNeg)]) (n := 1) (rest := []) ⟨hx, hb, hml, hown, hts⟩ (m_X0_placeOf l (u.1 a0.toNatClampNeg) _ rfl) gX5_down_X0_placeOf rfl ⟨rfl, rfl⟩ (by decide +kernel) ⟨Nat.le_of_ble_eq_true rfl, Nat.le_of_ble_eq_true rfl⟩ ⟨Nat.le_of_ble_eq_true rfl, Nat.le_of_ble_eq_true rfl⟩ hl.1 rfl rfl (Nat.le_of_ble_eq_true rfl) dX5_down_19 ?_
  refine lv_aload_n hx hb dX5_down_22 rfl (lv_at hl 1 rfl) ?_
  refine lv_iload_n hx hb dX5_down_23 rfl (lv_at hl 2 rfl) ?_
  refine lv_lload_n hx hb dX5_down_24 rfl (lv_at hl 0 rfl) ?_
  refine lv_iload_n hx hb dX5_down_25 rfl (lv_at hl 3 rfl) ?_
  refine my_callPl (As := [.long (u.1 a0.toNatClampNeg), .int a1]) (n := 2) (rest := [.int a0, .ref h0, .long (f_X0_placeOf (u.1 a0.toNatClampNeg))]) ⟨hx, hb, hml, hown, hts⟩ (m_X0_lowered l (u.1 a0.toNatClampNeg) a1 _ rfl) gX5_down_X0_lowered rfl ⟨rfl, rfl⟩ (by decide +kernel) ⟨Nat.le_of_ble_eq_true rfl, Nat.le_of_ble_eq_true rfl⟩ ⟨Nat.le_of_ble_eq_true rfl, Nat.le_of_ble_eq_true rfl⟩ hl.1 rfl rfl (Nat.le_of_ble_eq_true rfl) dX5_down_26 ?_
  obtain ⟨z4, ez4, hf⟩ := ob_e hf
  have hS := my_weak hS hA
  refine my_callMl (As := [.int a0, .long (f_X0_lowered (u.1 a0.toNatClampNeg) a1)]) (n := 2) (rest := [.long (f_X0_placeOf (u.1 a0.toNatClampNeg))]) (wr := []) ⟨hx, hb, hml, hown, hts⟩ hK hP hD hS hA [0, 1, 2, 3, 4, 5, 6, 7] [] rfl rfl (by decide) (by decide) (by decide) (m_X5_become l D cC cI cJ h0 h1 h2 h3 h4 h5 h6 h7 u H.size a0 (f_X0_lowered (u.1 a0.toNatClampNeg) a1) _ ez4) gX5_down_X5_become rfl ⟨rfl, rfl⟩ (ci := 4) rfl rfl (by decide +kernel) ⟨Nat.le_of_ble_eq_true rfl, Nat.le_of_ble_eq_true rfl⟩ ⟨Nat.le_of_ble_eq_true rfl, Nat.le_of_ble_eq_true rfl⟩ hl.1 rfl rfl (Nat.le_of_ble_eq_true rfl) dX5_down_29 (fun r9 u9 H locs hw hP hD hS => ?_)
  obtain ⟨rfl, rfl⟩ := hw
  have hP : va_P D vwCl [(h0, .inr (4, [.ref h1, .ref h2, .ref h5])), (h1, .inl (cJ, 8, .inr (.inl z4.2.1))), (h2, .inr (3, [.ref h3, .ref h4, .int z4.2.2.1.2.2])), (h3, .inl (cC, 40, .inl z4.2.2.1.1)), (h4, .inl (cI, 40, .inl z4.2.2.1.2.1)), (h5, .inr (2, [.ref h6, .ref h7, .int z4.2.2.2.2.2.1, .int z4.2.2.2.2.2.2])), (h6, .inl (cI, 8, .inl z4.2.2.2.1)), (h7, .inl (cJ, 8, .inr (.inl z4.2.2.2.2.1)))] H := hP.sub [0, 1, 2, 3, 4, 5, 6, 7] rfl
  have hD : va_D A [(h0, .inr (4, [.ref h1, .ref h2, .ref h5])), (h1, .inl (cJ, 8, .inr (.inl z4.2.1))), (h2, .inr (3, [.ref h3, .ref h4, .int z4.2.2.1.2.2])), (h3, .inl (cC, 40, .inl z4.2.2.1.1)), (h4, .inl (cI, 40, .inl z4.2.2.1.2.1)), (h5, .inr (2, [.ref h6, .ref h7, .int z4.2.2.2.2.2.1, .int z4.2.2.2.2.2.2])), (h6, .inl (cI, 8, .inl z4.2.2.2.1)), (h7, .inl (cJ, 8, .inr (.inl z4.2.2.2.2.1)))] := hD.sub [0, 1, 2, 3, 4, 5, 6, 7] (by decide) rfl
  refine lv_lsub hx hb dX5_down_32 ?_
  refine lv_l2i (v := (((f_X0_placeOf (u.1 a0.toNatClampNeg)) - z4.1).toInt32)) hx hb dX5_down_33 rfl ?_
  have hP9 : va_P D vwCl (wX cC cI cJ h0 h1 h2 h3 h4 h5 h6 h7 z4.2) _ := hP
  have hD9 : va_D A (wX cC cI cJ h0 h1 h2 h3 h4 h5 h6 h7 z4.2) := hD
  exact vx_ret (W.iret (v := (((f_X0_placeOf (u.1 a0.toNatClampNeg)) - z4.1).toInt32)) hx hb hr (fun t ht hW => ⟨⟨(((f_X0_placeOf (u.1 a0.toNatClampNeg)) - z4.1).toInt32), z4.2, rfl, ⟨((((f_X0_placeOf (u.1 a0.toNatClampNeg)) - z4.1).toInt32), z4.2), rfl, rfl, (Option.some.inj hf).symm⟩, by rw [ht]; exact hP9, va_K.moved hW.alike hK, hD9⟩, hS.F ht⟩) hS.2.2 dX5_down_34)

set_option maxHeartbeats 4000000 in
set_option maxRecDepth 100000 in
theorem m_X5_toward (l : Launch) (hl0 : l.stackTraces = false) (D : va_G) (cC cI cJ : ClassId) (h0 h1 h2 h3 h4 h5 h6 h7 : Nat) (u : StX) (sz : Nat) (a0 : Int32) (a1 : Int32) (a2 : Int32) (res : (String ⊕ (Int32 × StX))) (hf : f_X5_toward u a0 a1 a2 = some res) : vx_Met l yX5_toward wsX5_toward rmX5_toward (my_PcTM D vwCl (KT cC cI cJ) sz (wX cC cI cJ h0 h1 h2 h3 h4 h5 h6 h7 u) [.ref h0, .int a0, .int a1, .int a2]) (va_Qi (fun r v => ∃ z, r = z.1 ∧ v = z.2 ∧ res = .inr z) (my_B D vwCl (KT cC cI cJ) (va_A (wX cC cI cJ h0 h1 h2 h3 h4 h5 h6 h7 u) sz) (fun v : StX => (wX cC cI cJ h0 h1 h2 h3 h4 h5 h6 h7 v))) (va_A (wX cC cI cJ h0 h1 h2 h3 h4 h5 h6 h7 u) sz)) (vx_X (fun _ : Unit => True) (fun E _ _ => res = .inl E) (fun q : Nat => sz ≤ q)) 3 18 (va_A (wX cC cI cJ h0 h1 h2 h3 h4 h5 h6 h7 u) sz) := by
  refine vx_ofW (cc := cX5_toward) (maxL := 12) (ret := (some .int)) (by decide) rfl ?_
  intro p e s m args below meth c s₁ B hml ht hv
  obtain ⟨rfl, hsz, hP, hK, hD0, hXK⟩ := hv
  have hx := B.exec
  have hb := B.bytes
  have hr := B.returns
  have hts : ∀ w ∈ wsX5_toward, w.before ([.ref h0, .int a0, .int a1, .int a2] : List Value).toArray s = true := atoms_spec (ws := wsX5_toward) B.pre
  have hown : s.vm.findClass RX5 = some m.cls := findClass_of_methodNamed B.named
  have hlk : meth.locks = false := B.notSynchronized
  subst hsz
  have hD := hD0.self (sz := s.heap.size)
  generalize hAe : va_A (wX cC cI cJ h0 h1 h2 h3 h4 h5 h6 h7 u) s.heap.size = A at hD ⊢
  have hA : ∀ q : Nat, s.heap.size ≤ q → A q := fun q h => by rw [← hAe]; exact Or.inr h
  have hS : va_S (fun q : Nat => s.heap.size ≤ q) s.heap s.heap [] := va_S.rf
  have hP : va_P D vwCl [(h0, .inr (4, [.ref h1, .ref h2, .ref h5])), (h1, .inl (cJ, 8, .inr (.inl u.1))), (h2, .inr (3, [.ref h3, .ref h4, .int u.2.1.2.2])), (h3, .inl (cC, 40, .inl u.2.1.1)), (h4, .inl (cI, 40, .inl u.2.1.2.1)), (h5, .inr (2, [.ref h6, .ref h7, .int u.2.2.2.2.1, .int u.2.2.2.2.2])), (h6, .inl (cI, 8, .inl u.2.2.1)), (h7, .inl (cJ, 8, .inr (.inl u.2.2.2.1)))] s.heap := hP
  have hD : va_D A [(h0, .inr (4, [.ref h1, .ref h2, .ref h5])), (h1, .inl (cJ, 8, .inr (.inl u.1))), (h2, .inr (3, [.ref h3, .ref h4, .int u.2.1.2.2])), (h3, .inl (cC, 40, .inl u.2.1.1)), (h4, .inl (cI, 40, .inl u.2.1.2.1)), (h5, .inr (2, [.ref h6, .ref h7, .int u.2.2.2.2.1, .int u.2.2.2.2.2])), (h6, .inl (cI, 8, .inl u.2.2.1)), (h7, .inl (cJ, 8, .inr (.inl u.2.2.2.1)))] := hD
  have q1 := hts (.fieldLink RX5 9 "Doubleline" "slots" "[J") (by decide +kernel)
  have q2 : ∀ w ∈ u_ws RX5 TX5 3, w ∈ wsX5_toward := by decide +kernel
  have hl := lv_entry ([.ref h0, .int a0, .int a1, .int a2]) (n := 12) (Nat.le_of_ble_eq_true rfl)
  rw [lg_entry_eq]
  generalize (lg_sl ([.ref h0, .int a0, .int a1, .int a2]) ++ List.replicate (12 - (lg_sl ([.ref h0, .int a0, .int a1, .int a2])).length) Slot.unset).toArray = ls at hl ⊢
  have hl : lv_has ls 12 [(0, .ref h0), (1, .int a0), (2, .int a1), (3, .int a2)] := hl
  unfold f_X5_toward at hf
  refine lv_iload_n hx hb dX5_toward_0 rfl (lv_at hl 1 rfl) ?_
  obtain ⟨z1, ez1, xz1, hf⟩ := xb_e hf
  refine my_callT (As := [.int a0]) (n := 1) (rest := []) ⟨hx, hb, hml, hown, hts⟩ ht hlk hXK hS (m_X5_checkSlot l hl0 s.heap.size a0 _ ez1) gX5_toward_X5_checkSlot rfl (by decide +kernel) ⟨rfl, rfl⟩ ⟨Nat.le_of_ble_eq_true rfl, Nat.le_of_ble_eq_true rfl⟩ ⟨Nat.le_of_ble_eq_true rfl, Nat.le_of_ble_eq_true rfl⟩ ⟨Nat.le_of_ble_eq_true rfl, Nat.le_of_ble_eq_true rfl⟩ (fun q h => hA q h) xz1 hl.1 rfl rfl (Nat.le_of_ble_eq_true rfl) dX5_toward_1 (fun u9 H locs qz1 hk1 hS => ?_)
  have hP := my_keep hP hk1
  have hf := hf _ qz1
  refine lv_iload_n hx hb dX5_toward_4 rfl (lv_at hl 2 rfl) ?_
  obtain ⟨z2, ez2, xz2, hf⟩ := xb_e hf
  refine my_callT (As := [.int a1]) (n := 1) (rest := []) ⟨hx, hb, hml, hown, hts⟩ ht hlk hXK hS (m_X5_checkSlot l hl0 H.size a1 _ ez2) gX5_toward_X5_checkSlot rfl (by decide +kernel) ⟨rfl, rfl⟩ ⟨Nat.le_of_ble_eq_true rfl, Nat.le_of_ble_eq_true rfl⟩ ⟨Nat.le_of_ble_eq_true rfl, Nat.le_of_ble_eq_true rfl⟩ ⟨Nat.le_of_ble_eq_true rfl, Nat.le_of_ble_eq_true rfl⟩ (fun q h => hA q h) xz2 hl.1 rfl rfl (Nat.le_of_ble_eq_true rfl) dX5_toward_5 (fun u9 H locs qz2 hk1 hS => ?_)
  have hP := my_keep hP hk1
  have hf := hf _ qz2
  refine lv_iload_n hx hb dX5_toward_8 rfl (lv_at hl 3 rfl) ?_
  refine lv_iconst (v := 0) hx hb dX5_toward_9 (by decide) ?_
  refine lv_bipush (v := 64) hx hb dX5_toward_10 (by decide) ?_
  obtain ⟨z3, ez3, xz3, hf⟩ := xb_e hf
  refine my_callT (As := [.int a2, .int 0, .int 64]) (n := 3) (rest := []) ⟨hx, hb, hml, hown, hts⟩ ht hlk hXK hS (m_X5_checkRange l hl0 H.size a2 0 64 _ ez3) gX5_toward_X5_checkRange rfl (by decide +kernel) ⟨rfl, rfl⟩ ⟨Nat.le_of_ble_eq_true rfl, Nat.le_of_ble_eq_true rfl⟩ ⟨Nat.le_of_ble_eq_true rfl, Nat.le_of_ble_eq_true rfl⟩ ⟨Nat.le_of_ble_eq_true rfl, Nat.le_of_ble_eq_true rfl⟩ (fun q h => hA q h) xz3 hl.1 rfl rfl (Nat.le_of_ble_eq_true rfl) dX5_toward_12 (fun u9 H locs qz3 hk1 hS => ?_)
  have hP := my_keep hP hk1
  have hf := hf _ qz3
  refine lv_aload_n hx hb dX5_toward_15 rfl (lv_at hl 0 rfl) ?_
  refine va_get (D := D) (ci := 4) (v := .ref h1) (C := RX5) (T := TX5) (N := 3) hx hb hts q2 hown hK hP 0 rfl rfl 0 (by decide) q1 (fun _ h9 => h9) rfl dX5_toward_16 ?_
  refine lv_iload_n hx hb dX5_toward_19 rfl (lv_at hl 2 rfl) ?_
  obtain ⟨g4, hf⟩ := og_e hf
  refine va_lald hx hb hK hP 1 2 rfl rfl g4 dX5_toward_20 ?_
  refine lv_lstore (lv' := [(4, .long (u.1 a1.toNatClampNeg)), (0, .ref h0), (1, .int a0), (2, .int a1), (3, .int a2)]) hx hb dX5_toward_21 hl (by decide) rfl (fun ls hl => ?_)
  refine lv_aload_n hx hb dX5_toward_23 rfl (lv_at hl 1 rfl) ?_
  refine va_get (D := D) (ci := 4) (v := .ref h1) (C := RX5) (T := TX5) (N := 3) hx hb hts q2 hown hK hP 0 rfl rfl 0 (by decide) q1 (fun _ h9 => h9) rfl dX5_toward_24 ?_
  refine lv_iload_n hx hb dX5_toward_27 rfl (lv_at hl 2 rfl) ?_
  obtain ⟨g5, hf⟩ := og_e hf
  refine va_lald hx hb hK hP 1 2 rfl rfl g5 dX5_toward_28 ?_
  refine lv_lstore (lv' := [(6, .long (u.1 a0.toNatClampNeg)), (4, .long (u.1 a1.toNatClampNeg)), (0, .ref h0), (1, .int a0), (2, .int a1), (3, .int a2)]) hx hb dX5_toward_29 hl (by decide) rfl (fun ls hl => ?_)
  refine lv_iconst (v := 0) hx hb dX5_toward_31 (by decide) ?_
  refine lv_istore (lv' := [(8, .int 0), (6, .long (u.1 a0.toNatClampNeg)), (4, .long (u.1 a1.toNatClampNeg)), (0, .ref h0), (1, .int a0), (2, .int a1), (3, .int a2)]) hx hb dX5_toward_32 hl (by decide) rfl (fun ls hl => ?_)
  refine lv_iconst (v := 0) hx hb dX5_toward_34 (by decide) ?_
  refine lv_istore (lv' := [(9, .int 0), (8, .int 0), (6, .long (u.1 a0.toNatClampNeg)), (4, .long (u.1 a1.toNatClampNeg)), (0, .ref h0), (1, .int a0), (2, .int a1), (3, .int a2)]) hx hb dX5_toward_35 hl (by decide) rfl (fun ls hl => ?_)
  have loop37 : ∀ (n37 : Nat) (v37_9 : Int32) (v37_8 : Int32) (v37_6 : Int64) (v37_4 : Int64) (ls : Array Slot), lv_has ls 12 [(9, .int v37_9), (8, .int v37_8), (6, .long v37_6), (4, .long v37_4), (0, .ref h0), (1, .int a0), (3, .int a2)] → f_X5_toward_L37 u a0 a1 a2 n37 v37_9 v37_8 v37_6 v37_4 = some res → W p l e (rmX5_toward) s m ([.ref h0, .int a0, .int a1, .int a2] : List Value).toArray below meth c H locs 3 18 (vx_MQ below (va_Qi (fun r v => ∃ z, r = z.1 ∧ v = z.2 ∧ res = .inr z) (my_B D vwCl (KT cC cI cJ) A (fun v : StX => (wX cC cI cJ h0 h1 h2 h3 h4 h5 h6 h7 v))) A) (vx_X (fun _ : Unit => True) (fun E _ _ => res = .inl E) (fun q : Nat => s.heap.size ≤ q)) ([.ref h0, .int a0, .int a1, .int a2] : List Value).toArray s 3 18 A) (F0 m 37 ls []) := by
    intro n37
    induction n37 with
    | zero => intro v37_9 v37_8 v37_6 v37_4 ls hl hf; rw [f_X5_toward_L37] at hf; cases hf
    | succ n37 ih37 =>
      intro v37_9 v37_8 v37_6 v37_4 ls hl hf
      rw [f_X5_toward_L37] at hf
      refine lv_iload hx hb dX5_toward_37 (lv_at hl 0 rfl) ?_
      refine lv_iload_n hx hb dX5_toward_39 rfl (lv_at hl 6 rfl) ?_
      refine my_ic_ge (tgt := 73) hx hb dX5_toward_40 (by decide) (fun c6 => ?_) (fun c6 => ?_)
      · rw [if_neg c6] at hf
        refine lv_aload_n hx hb dX5_toward_73 rfl (lv_at hl 4 rfl) ?_
        refine lv_iload_n hx hb dX5_toward_74 rfl (lv_at hl 5 rfl) ?_
        refine lv_lload hx hb dX5_toward_75 (lv_at hl 2 rfl) ?_
        obtain ⟨z7, ez7, hf⟩ := ob_e hf
        have hS := my_weak hS hA
        refine my_callMl (As := [.int a0, .long v37_6]) (n := 2) (rest := []) (wr := []) ⟨hx, hb, hml, hown, hts⟩ hK hP hD hS hA [0, 1, 2, 3, 4, 5, 6, 7] [] rfl rfl (by decide) (by decide) (by decide) (m_X5_become l D cC cI cJ h0 h1 h2 h3 h4 h5 h6 h7 u H.size a0 v37_6 _ ez7) gX5_toward_X5_become rfl ⟨rfl, rfl⟩ (ci := 4) rfl rfl (by decide +kernel) ⟨Nat.le_of_ble_eq_true rfl, Nat.le_of_ble_eq_true rfl⟩ ⟨Nat.le_of_ble_eq_true rfl, Nat.le_of_ble_eq_true rfl⟩ hl.1 rfl rfl (Nat.le_of_ble_eq_true rfl) dX5_toward_77 (fun r9 u9 H locs hw hP hD hS => ?_)
        obtain ⟨rfl, rfl⟩ := hw
        have hP : va_P D vwCl [(h0, .inr (4, [.ref h1, .ref h2, .ref h5])), (h1, .inl (cJ, 8, .inr (.inl z7.2.1))), (h2, .inr (3, [.ref h3, .ref h4, .int z7.2.2.1.2.2])), (h3, .inl (cC, 40, .inl z7.2.2.1.1)), (h4, .inl (cI, 40, .inl z7.2.2.1.2.1)), (h5, .inr (2, [.ref h6, .ref h7, .int z7.2.2.2.2.2.1, .int z7.2.2.2.2.2.2])), (h6, .inl (cI, 8, .inl z7.2.2.2.1)), (h7, .inl (cJ, 8, .inr (.inl z7.2.2.2.2.1)))] H := hP.sub [0, 1, 2, 3, 4, 5, 6, 7] rfl
        have hD : va_D A [(h0, .inr (4, [.ref h1, .ref h2, .ref h5])), (h1, .inl (cJ, 8, .inr (.inl z7.2.1))), (h2, .inr (3, [.ref h3, .ref h4, .int z7.2.2.1.2.2])), (h3, .inl (cC, 40, .inl z7.2.2.1.1)), (h4, .inl (cI, 40, .inl z7.2.2.1.2.1)), (h5, .inr (2, [.ref h6, .ref h7, .int z7.2.2.2.2.2.1, .int z7.2.2.2.2.2.2])), (h6, .inl (cI, 8, .inl z7.2.2.2.1)), (h7, .inl (cJ, 8, .inr (.inl z7.2.2.2.2.1)))] := hD.sub [0, 1, 2, 3, 4, 5, 6, 7] (by decide) rfl
        refine lv_pop2_2 hx hb dX5_toward_80 rfl ?_
        refine lv_iload hx hb dX5_toward_81 (lv_at hl 1 rfl) ?_
        have hP9 : va_P D vwCl (wX cC cI cJ h0 h1 h2 h3 h4 h5 h6 h7 z7.2) _ := hP
        have hD9 : va_D A (wX cC cI cJ h0 h1 h2 h3 h4 h5 h6 h7 z7.2) := hD
        exact vx_ret (W.iret (v := v37_8) hx hb hr (fun t ht hW => ⟨⟨v37_8, z7.2, rfl, ⟨(v37_8, z7.2), rfl, rfl, (Option.some.inj hf).symm⟩, by rw [ht]; exact hP9, va_K.moved hW.alike hK, hD9⟩, hS.F ht⟩) hS.2.2 dX5_toward_83)
      · rw [if_pos c6] at hf
        refine lv_lload hx hb dX5_toward_43 (lv_at hl 2 rfl) ?_
        refine lv_lload hx hb dX5_toward_45 (lv_at hl 3 rfl) ?_
        refine my_callPl (As := [.long v37_6, .long v37_4]) (n := 2) (rest := []) ⟨hx, hb, hml, hown, hts⟩ (m_X0_nearer l v37_6 v37_4 _ rfl) gX5_toward_X0_nearer rfl ⟨rfl, rfl⟩ (by decide +kernel) ⟨Nat.le_of_ble_eq_true rfl, Nat.le_of_ble_eq_true rfl⟩ ⟨Nat.le_of_ble_eq_true rfl, Nat.le_of_ble_eq_true rfl⟩ hl.1 rfl rfl (Nat.le_of_ble_eq_true rfl) dX5_toward_47 ?_
        refine lv_lstore (lv' := [(10, .long (f_X0_nearer v37_6 v37_4)), (9, .int v37_9), (8, .int v37_8), (6, .long v37_6), (4, .long v37_4), (0, .ref h0), (1, .int a0), (3, .int a2)]) hx hb dX5_toward_50 hl (by decide) rfl (fun ls hl => ?_)
        refine lv_lload hx hb dX5_toward_52 (lv_at hl 0 rfl) ?_
        refine lv_lload hx hb dX5_toward_54 (lv_at hl 3 rfl) ?_
        refine my_lc_eq (tgt := 63) hx hb dX5_toward_56 dX5_toward_57 (by decide) (fun c8 => ?_) (fun c8 => ?_)
        · rw [if_pos c8] at hf
          refine lv_lload hx hb dX5_toward_63 (lv_at hl 0 rfl) ?_
          refine lv_lstore (lv' := [(6, .long (f_X0_nearer v37_6 v37_4)), (10, .long (f_X0_nearer v37_6 v37_4)), (9, .int v37_9), (8, .int v37_8), (4, .long v37_4), (0, .ref h0), (1, .int a0), (3, .int a2)]) hx hb dX5_toward_65 hl (by decide) rfl (fun ls hl => ?_)
          refine lv_iinc (v := (v37_9 + 1)) (lv' := [(9, .int (v37_9 + 1)), (6, .long (f_X0_nearer v37_6 v37_4)), (10, .long (f_X0_nearer v37_6 v37_4)), (8, .int v37_8), (4, .long v37_4), (0, .ref h0), (1, .int a0), (3, .int a2)]) hx hb dX5_toward_67 hl (k := 2) rfl rfl (by decide) rfl (fun ls hl => ?_)
          refine lv_goto (tgt := 37) hx hb dX5_toward_70 (by decide) ?_
          exact ih37 (v37_9 + 1) v37_8 (f_X0_nearer v37_6 v37_4) v37_4 _ (lv_sub hl [0, 3, 1, 4, 5, 6, 7] rfl) hf
        · rw [if_neg c8] at hf
          refine lv_iinc (v := (v37_8 + 1)) (lv' := [(8, .int (v37_8 + 1)), (10, .long (f_X0_nearer v37_6 v37_4)), (9, .int v37_9), (6, .long v37_6), (4, .long v37_4), (0, .ref h0), (1, .int a0), (3, .int a2)]) hx hb dX5_toward_60 hl (k := 2) rfl rfl (by decide) rfl (fun ls hl => ?_)
          refine lv_lload hx hb dX5_toward_63 (lv_at hl 1 rfl) ?_
          refine lv_lstore (lv' := [(6, .long (f_X0_nearer v37_6 v37_4)), (8, .int (v37_8 + 1)), (10, .long (f_X0_nearer v37_6 v37_4)), (9, .int v37_9), (4, .long v37_4), (0, .ref h0), (1, .int a0), (3, .int a2)]) hx hb dX5_toward_65 hl (by decide) rfl (fun ls hl => ?_)
          refine lv_iinc (v := (v37_9 + 1)) (lv' := [(9, .int (v37_9 + 1)), (6, .long (f_X0_nearer v37_6 v37_4)), (8, .int (v37_8 + 1)), (10, .long (f_X0_nearer v37_6 v37_4)), (4, .long v37_4), (0, .ref h0), (1, .int a0), (3, .int a2)]) hx hb dX5_toward_67 hl (k := 3) rfl rfl (by decide) rfl (fun ls hl => ?_)
          refine lv_goto (tgt := 37) hx hb dX5_toward_70 (by decide) ?_
          exact ih37 (v37_9 + 1) (v37_8 + 1) (f_X0_nearer v37_6 v37_4) v37_4 _ (lv_sub hl [0, 2, 1, 4, 5, 6, 7] rfl) hf
  exact loop37 100 0 0 (u.1 a0.toNatClampNeg) (u.1 a1.toNatClampNeg) _ (lv_sub hl [0, 1, 2, 3, 4, 5, 7] rfl) hf

set_option maxHeartbeats 4000000 in
set_option maxRecDepth 100000 in
theorem m_X5_walk (l : Launch) (hl0 : l.stackTraces = false) (D : va_G) (cC cI cJ : ClassId) (h0 h1 h2 h3 h4 h5 h6 h7 : Nat) (u : StX) (sz : Nat) (a0 : Int32) (a1 : Int32) (res : (String ⊕ Int32)) (hf : f_X5_walk u a0 a1 = some res) : vx_Met l yX5_walk wsX5_walk rmX5_walk (my_PcTR D vwCl (KT cC cI cJ) sz (wX cC cI cJ h0 h1 h2 h3 h4 h5 h6 h7 u) [.ref h0, .int a0, .int a1]) (va_Qi (fun r (_ : Unit) => (∃ z, r = z ∧ res = .inr z)) (fun _ _ => True) (fun q : Nat => sz ≤ q)) (vx_X (fun _ : Unit => True) (fun E _ _ => res = .inl E) (fun q : Nat => sz ≤ q)) 2 12 (fun q : Nat => sz ≤ q) := by
  refine vx_ofW (cc := cX5_walk) (maxL := 5) (ret := (some .int)) (by decide) rfl ?_
  intro p e s m args below meth c s₁ B hml ht hv
  obtain ⟨rfl, hsz, hP, hK, hXK⟩ := hv
  have hx := B.exec
  have hb := B.bytes
  have hr := B.returns
  have hts : ∀ w ∈ wsX5_walk, w.before ([.ref h0, .int a0, .int a1] : List Value).toArray s = true := atoms_spec (ws := wsX5_walk) B.pre
  have hown : s.vm.findClass RX5 = some m.cls := findClass_of_methodNamed B.named
  have hlk : meth.locks = false := B.notSynchronized
  subst hsz
  have hS : va_S (fun q : Nat => s.heap.size ≤ q) s.heap s.heap [] := va_S.rf
  have hP : va_P D vwCl [(h0, .inr (4, [.ref h1, .ref h2, .ref h5])), (h1, .inl (cJ, 8, .inr (.inl u.1))), (h2, .inr (3, [.ref h3, .ref h4, .int u.2.1.2.2])), (h3, .inl (cC, 40, .inl u.2.1.1)), (h4, .inl (cI, 40, .inl u.2.1.2.1)), (h5, .inr (2, [.ref h6, .ref h7, .int u.2.2.2.2.1, .int u.2.2.2.2.2])), (h6, .inl (cI, 8, .inl u.2.2.1)), (h7, .inl (cJ, 8, .inr (.inl u.2.2.2.1)))] s.heap := hP
  have q1 := hts (.fieldLink RX5 9 "Doubleline" "slots" "[J") (by decide +kernel)
  have q2 : ∀ w ∈ u_ws RX5 TX5 3, w ∈ wsX5_walk := by decide +kernel
  have hl := lv_entry ([.ref h0, .int a0, .int a1]) (n := 5) (Nat.le_of_ble_eq_true rfl)
  rw [lg_entry_eq]
  generalize (lg_sl ([.ref h0, .int a0, .int a1]) ++ List.replicate (5 - (lg_sl ([.ref h0, .int a0, .int a1])).length) Slot.unset).toArray = ls at hl ⊢
  have hl : lv_has ls 5 [(0, .ref h0), (1, .int a0), (2, .int a1)] := hl
  unfold f_X5_walk at hf
  refine lv_iload_n hx hb dX5_walk_0 rfl (lv_at hl 1 rfl) ?_
  obtain ⟨z1, ez1, xz1, hf⟩ := xb_e hf
  refine my_callT (As := [.int a0]) (n := 1) (rest := []) ⟨hx, hb, hml, hown, hts⟩ ht hlk hXK hS (m_X5_checkSlot l hl0 s.heap.size a0 _ ez1) gX5_walk_X5_checkSlot rfl (by decide +kernel) ⟨rfl, rfl⟩ ⟨Nat.le_of_ble_eq_true rfl, Nat.le_of_ble_eq_true rfl⟩ ⟨Nat.le_of_ble_eq_true rfl, Nat.le_of_ble_eq_true rfl⟩ ⟨Nat.le_of_ble_eq_true rfl, Nat.le_of_ble_eq_true rfl⟩ (fun q h => h) xz1 hl.1 rfl rfl (Nat.le_of_ble_eq_true rfl) dX5_walk_1 (fun u9 H locs qz1 hk1 hS => ?_)
  have hP := my_keep hP hk1
  have hf := hf _ qz1
  refine lv_iload_n hx hb dX5_walk_4 rfl (lv_at hl 2 rfl) ?_
  obtain ⟨z2, ez2, xz2, hf⟩ := xb_e hf
  refine my_callT (As := [.int a1]) (n := 1) (rest := []) ⟨hx, hb, hml, hown, hts⟩ ht hlk hXK hS (m_X5_checkSlot l hl0 H.size a1 _ ez2) gX5_walk_X5_checkSlot rfl (by decide +kernel) ⟨rfl, rfl⟩ ⟨Nat.le_of_ble_eq_true rfl, Nat.le_of_ble_eq_true rfl⟩ ⟨Nat.le_of_ble_eq_true rfl, Nat.le_of_ble_eq_true rfl⟩ ⟨Nat.le_of_ble_eq_true rfl, Nat.le_of_ble_eq_true rfl⟩ (fun q h => h) xz2 hl.1 rfl rfl (Nat.le_of_ble_eq_true rfl) dX5_walk_5 (fun u9 H locs qz2 hk1 hS => ?_)
  have hP := my_keep hP hk1
  have hf := hf _ qz2
  refine lv_aload_n hx hb dX5_walk_8 rfl (lv_at hl 0 rfl) ?_
  refine va_get (D := D) (ci := 4) (v := .ref h1) (C := RX5) (T := TX5) (N := 3) hx hb hts q2 hown hK hP 0 rfl rfl 0 (by decide) q1 (fun _ h9 => h9) rfl dX5_walk_9 ?_
  refine lv_iload_n hx hb dX5_walk_12 rfl (lv_at hl 1 rfl) ?_
  obtain ⟨g3, hf⟩ := og_e hf
  refine va_lald hx hb hK hP 1 2 rfl rfl g3 dX5_walk_13 ?_
  refine lv_aload_n hx hb dX5_walk_14 rfl (lv_at hl 0 rfl) ?_
  refine va_get (D := D) (ci := 4) (v := .ref h1) (C := RX5) (T := TX5) (N := 3) hx hb hts q2 hown hK hP 0 rfl rfl 0 (by decide) q1 (fun _ h9 => h9) rfl dX5_walk_15 ?_
  refine lv_iload_n hx hb dX5_walk_18 rfl (lv_at hl 2 rfl) ?_
  obtain ⟨g4, hf⟩ := og_e hf
  refine va_lald hx hb hK hP 1 2 rfl rfl g4 dX5_walk_19 ?_
  refine my_callPl (As := [.long (u.1 a0.toNatClampNeg), .long (u.1 a1.toNatClampNeg)]) (n := 2) (rest := []) ⟨hx, hb, hml, hown, hts⟩ (m_X0_distance l (u.1 a0.toNatClampNeg) (u.1 a1.toNatClampNeg) _ rfl) gX5_walk_X0_distance rfl ⟨rfl, rfl⟩ (by decide +kernel) ⟨Nat.le_of_ble_eq_true rfl, Nat.le_of_ble_eq_true rfl⟩ ⟨Nat.le_of_ble_eq_true rfl, Nat.le_of_ble_eq_true rfl⟩ hl.1 rfl rfl (Nat.le_of_ble_eq_true rfl) dX5_walk_20 ?_
  refine lv_lstore_n (lv' := [(3, .long (f_X0_distance (u.1 a0.toNatClampNeg) (u.1 a1.toNatClampNeg))), (0, .ref h0), (1, .int a0), (2, .int a1)]) hx hb dX5_walk_23 rfl hl (by decide) rfl (fun ls hl => ?_)
  refine lv_lload_n hx hb dX5_walk_24 rfl (lv_at hl 0 rfl) ?_
  refine lv_bipush (v := 64) hx hb dX5_walk_25 (by decide) ?_
  refine my_callPi (As := [.long (f_X0_distance (u.1 a0.toNatClampNeg) (u.1 a1.toNatClampNeg)), .int 64]) (n := 2) (rest := []) ⟨hx, hb, hml, hown, hts⟩ (m_X0_isMoreThan l (f_X0_distance (u.1 a0.toNatClampNeg) (u.1 a1.toNatClampNeg)) 64 _ rfl) gX5_walk_X0_isMoreThan rfl ⟨rfl, rfl⟩ (by decide +kernel) ⟨Nat.le_of_ble_eq_true rfl, Nat.le_of_ble_eq_true rfl⟩ ⟨Nat.le_of_ble_eq_true rfl, Nat.le_of_ble_eq_true rfl⟩ hl.1 rfl rfl (Nat.le_of_ble_eq_true rfl) dX5_walk_27 ?_
  refine my_bz_eq (x := (f_X0_isMoreThan (f_X0_distance (u.1 a0.toNatClampNeg) (u.1 a1.toNatClampNeg)) 64)) (tgt := 37) hx hb dX5_walk_30 (by decide) (fun c5 => ?_) (fun c5 => ?_)
  · rw [if_pos c5] at hf
    refine lv_lload_n hx hb dX5_walk_37 rfl (lv_at hl 0 rfl) ?_
    refine lv_l2i (v := ((f_X0_distance (u.1 a0.toNatClampNeg) (u.1 a1.toNatClampNeg)).toInt32)) hx hb dX5_walk_38 rfl ?_
    exact vx_ret (W.iret (v := ((f_X0_distance (u.1 a0.toNatClampNeg) (u.1 a1.toNatClampNeg)).toInt32)) hx hb hr (fun t ht hW => ⟨⟨((f_X0_distance (u.1 a0.toNatClampNeg) (u.1 a1.toNatClampNeg)).toInt32), (), rfl, ⟨_, rfl, (Option.some.inj hf).symm⟩, trivial⟩, hS.F ht⟩) hS.2.2 dX5_walk_39)
  · rw [if_neg c5] at hf
    refine lv_iconst (v := (-1)) hx hb dX5_walk_33 (by decide) ?_
    refine lv_goto (tgt := 39) hx hb dX5_walk_34 (by decide) ?_
    exact vx_ret (W.iret (v := (-1)) hx hb hr (fun t ht hW => ⟨⟨(-1), (), rfl, ⟨_, rfl, (Option.some.inj hf).symm⟩, trivial⟩, hS.F ht⟩) hS.2.2 dX5_walk_39)

set_option maxHeartbeats 4000000 in
set_option maxRecDepth 100000 in
theorem m_X5_apart (l : Launch) (hl0 : l.stackTraces = false) (D : va_G) (cC cI cJ : ClassId) (h0 h1 h2 h3 h4 h5 h6 h7 : Nat) (u : StX) (sz : Nat) (a0 : Int32) (a1 : Int32) (res : (String ⊕ Int64)) (hf : f_X5_apart u a0 a1 = some res) : vx_Met l yX5_apart wsX5_apart rmX5_apart (my_PcTR D vwCl (KT cC cI cJ) sz (wX cC cI cJ h0 h1 h2 h3 h4 h5 h6 h7 u) [.ref h0, .int a0, .int a1]) (va_Ql (fun r (_ : Unit) => (∃ z, r = z ∧ res = .inr z)) (fun _ _ => True) (fun q : Nat => sz ≤ q)) (vx_X (fun _ : Unit => True) (fun E _ _ => res = .inl E) (fun q : Nat => sz ≤ q)) 2 12 (fun q : Nat => sz ≤ q) := by
  refine vx_ofW (cc := cX5_apart) (maxL := 3) (ret := (some .long)) (by decide) rfl ?_
  intro p e s m args below meth c s₁ B hml ht hv
  obtain ⟨rfl, hsz, hP, hK, hXK⟩ := hv
  have hx := B.exec
  have hb := B.bytes
  have hr := B.returns
  have hts : ∀ w ∈ wsX5_apart, w.before ([.ref h0, .int a0, .int a1] : List Value).toArray s = true := atoms_spec (ws := wsX5_apart) B.pre
  have hown : s.vm.findClass RX5 = some m.cls := findClass_of_methodNamed B.named
  have hlk : meth.locks = false := B.notSynchronized
  subst hsz
  have hS : va_S (fun q : Nat => s.heap.size ≤ q) s.heap s.heap [] := va_S.rf
  have hP : va_P D vwCl [(h0, .inr (4, [.ref h1, .ref h2, .ref h5])), (h1, .inl (cJ, 8, .inr (.inl u.1))), (h2, .inr (3, [.ref h3, .ref h4, .int u.2.1.2.2])), (h3, .inl (cC, 40, .inl u.2.1.1)), (h4, .inl (cI, 40, .inl u.2.1.2.1)), (h5, .inr (2, [.ref h6, .ref h7, .int u.2.2.2.2.1, .int u.2.2.2.2.2])), (h6, .inl (cI, 8, .inl u.2.2.1)), (h7, .inl (cJ, 8, .inr (.inl u.2.2.2.1)))] s.heap := hP
  have q1 := hts (.fieldLink RX5 9 "Doubleline" "slots" "[J") (by decide +kernel)
  have q2 : ∀ w ∈ u_ws RX5 TX5 3, w ∈ wsX5_apart := by decide +kernel
  have hl := lv_entry ([.ref h0, .int a0, .int a1]) (n := 3) (Nat.le_of_ble_eq_true rfl)
  rw [lg_entry_eq]
  generalize (lg_sl ([.ref h0, .int a0, .int a1]) ++ List.replicate (3 - (lg_sl ([.ref h0, .int a0, .int a1])).length) Slot.unset).toArray = ls at hl ⊢
  have hl : lv_has ls 3 [(0, .ref h0), (1, .int a0), (2, .int a1)] := hl
  unfold f_X5_apart at hf
  refine lv_iload_n hx hb dX5_apart_0 rfl (lv_at hl 1 rfl) ?_
  obtain ⟨z1, ez1, xz1, hf⟩ := xb_e hf
  refine my_callT (As := [.int a0]) (n := 1) (rest := []) ⟨hx, hb, hml, hown, hts⟩ ht hlk hXK hS (m_X5_checkSlot l hl0 s.heap.size a0 _ ez1) gX5_apart_X5_checkSlot rfl (by decide +kernel) ⟨rfl, rfl⟩ ⟨Nat.le_of_ble_eq_true rfl, Nat.le_of_ble_eq_true rfl⟩ ⟨Nat.le_of_ble_eq_true rfl, Nat.le_of_ble_eq_true rfl⟩ ⟨Nat.le_of_ble_eq_true rfl, Nat.le_of_ble_eq_true rfl⟩ (fun q h => h) xz1 hl.1 rfl rfl (Nat.le_of_ble_eq_true rfl) dX5_apart_1 (fun u9 H locs qz1 hk1 hS => ?_)
  have hP := my_keep hP hk1
  have hf := hf _ qz1
  refine lv_iload_n hx hb dX5_apart_4 rfl (lv_at hl 2 rfl) ?_
  obtain ⟨z2, ez2, xz2, hf⟩ := xb_e hf
  refine my_callT (As := [.int a1]) (n := 1) (rest := []) ⟨hx, hb, hml, hown, hts⟩ ht hlk hXK hS (m_X5_checkSlot l hl0 H.size a1 _ ez2) gX5_apart_X5_checkSlot rfl (by decide +kernel) ⟨rfl, rfl⟩ ⟨Nat.le_of_ble_eq_true rfl, Nat.le_of_ble_eq_true rfl⟩ ⟨Nat.le_of_ble_eq_true rfl, Nat.le_of_ble_eq_true rfl⟩ ⟨Nat.le_of_ble_eq_true rfl, Nat.le_of_ble_eq_true rfl⟩ (fun q h => h) xz2 hl.1 rfl rfl (Nat.le_of_ble_eq_true rfl) dX5_apart_5 (fun u9 H locs qz2 hk1 hS => ?_)
  have hP := my_keep hP hk1
  have hf := hf _ qz2
  refine lv_aload_n hx hb dX5_apart_8 rfl (lv_at hl 0 rfl) ?_
  refine va_get (D := D) (ci := 4) (v := .ref h1) (C := RX5) (T := TX5) (N := 3) hx hb hts q2 hown hK hP 0 rfl rfl 0 (by decide) q1 (fun _ h9 => h9) rfl dX5_apart_9 ?_
  refine lv_iload_n hx hb dX5_apart_12 rfl (lv_at hl 1 rfl) ?_
  obtain ⟨g3, hf⟩ := og_e hf
  refine va_lald hx hb hK hP 1 2 rfl rfl g3 dX5_apart_13 ?_
  refine lv_aload_n hx hb dX5_apart_14 rfl (lv_at hl 0 rfl) ?_
  refine va_get (D := D) (ci := 4) (v := .ref h1) (C := RX5) (T := TX5) (N := 3) hx hb hts q2 hown hK hP 0 rfl rfl 0 (by decide) q1 (fun _ h9 => h9) rfl dX5_apart_15 ?_
  refine lv_iload_n hx hb dX5_apart_18 rfl (lv_at hl 2 rfl) ?_
  obtain ⟨g4, hf⟩ := og_e hf
  refine va_lald hx hb hK hP 1 2 rfl rfl g4 dX5_apart_19 ?_
  refine my_callPl (As := [.long (u.1 a0.toNatClampNeg), .long (u.1 a1.toNatClampNeg)]) (n := 2) (rest := []) ⟨hx, hb, hml, hown, hts⟩ (m_X0_distance l (u.1 a0.toNatClampNeg) (u.1 a1.toNatClampNeg) _ rfl) gX5_apart_X0_distance rfl ⟨rfl, rfl⟩ (by decide +kernel) ⟨Nat.le_of_ble_eq_true rfl, Nat.le_of_ble_eq_true rfl⟩ ⟨Nat.le_of_ble_eq_true rfl, Nat.le_of_ble_eq_true rfl⟩ hl.1 rfl rfl (Nat.le_of_ble_eq_true rfl) dX5_apart_20 ?_
  exact vx_ret (W.lret (v := (f_X0_distance (u.1 a0.toNatClampNeg) (u.1 a1.toNatClampNeg))) hx hb hr (fun t ht hW => ⟨⟨(f_X0_distance (u.1 a0.toNatClampNeg) (u.1 a1.toNatClampNeg)), (), rfl, ⟨_, rfl, (Option.some.inj hf).symm⟩, trivial⟩, hS.F ht⟩) hS.2.2 dX5_apart_23)

set_option maxHeartbeats 4000000 in
set_option maxRecDepth 100000 in
theorem m_X5_areNext (l : Launch) (hl0 : l.stackTraces = false) (D : va_G) (cC cI cJ : ClassId) (h0 h1 h2 h3 h4 h5 h6 h7 : Nat) (u : StX) (sz : Nat) (a0 : Int32) (a1 : Int32) (res : (String ⊕ Bool)) (hf : f_X5_areNext u a0 a1 = some res) : vx_Met l yX5_areNext wsX5_areNext rmX5_areNext (my_PcTR D vwCl (KT cC cI cJ) sz (wX cC cI cJ h0 h1 h2 h3 h4 h5 h6 h7 u) [.ref h0, .int a0, .int a1]) (va_Qi (fun r (_ : Unit) => (∃ z, r = b2i z ∧ res = .inr z)) (fun _ _ => True) (fun q : Nat => sz ≤ q)) (vx_X (fun _ : Unit => True) (fun E _ _ => res = .inl E) (fun q : Nat => sz ≤ q)) 2 12 (fun q : Nat => sz ≤ q) := by
  refine vx_ofW (cc := cX5_areNext) (maxL := 3) (ret := (some .boolean)) (by decide) rfl ?_
  intro p e s m args below meth c s₁ B hml ht hv
  obtain ⟨rfl, hsz, hP, hK, hXK⟩ := hv
  have hx := B.exec
  have hb := B.bytes
  have hr := B.returns
  have hts : ∀ w ∈ wsX5_areNext, w.before ([.ref h0, .int a0, .int a1] : List Value).toArray s = true := atoms_spec (ws := wsX5_areNext) B.pre
  have hown : s.vm.findClass RX5 = some m.cls := findClass_of_methodNamed B.named
  have hlk : meth.locks = false := B.notSynchronized
  subst hsz
  have hS : va_S (fun q : Nat => s.heap.size ≤ q) s.heap s.heap [] := va_S.rf
  have hP : va_P D vwCl [(h0, .inr (4, [.ref h1, .ref h2, .ref h5])), (h1, .inl (cJ, 8, .inr (.inl u.1))), (h2, .inr (3, [.ref h3, .ref h4, .int u.2.1.2.2])), (h3, .inl (cC, 40, .inl u.2.1.1)), (h4, .inl (cI, 40, .inl u.2.1.2.1)), (h5, .inr (2, [.ref h6, .ref h7, .int u.2.2.2.2.1, .int u.2.2.2.2.2])), (h6, .inl (cI, 8, .inl u.2.2.1)), (h7, .inl (cJ, 8, .inr (.inl u.2.2.2.1)))] s.heap := hP
  have q1 := hts (.fieldLink RX5 9 "Doubleline" "slots" "[J") (by decide +kernel)
  have q2 : ∀ w ∈ u_ws RX5 TX5 3, w ∈ wsX5_areNext := by decide +kernel
  have hl := lv_entry ([.ref h0, .int a0, .int a1]) (n := 3) (Nat.le_of_ble_eq_true rfl)
  rw [lg_entry_eq]
  generalize (lg_sl ([.ref h0, .int a0, .int a1]) ++ List.replicate (3 - (lg_sl ([.ref h0, .int a0, .int a1])).length) Slot.unset).toArray = ls at hl ⊢
  have hl : lv_has ls 3 [(0, .ref h0), (1, .int a0), (2, .int a1)] := hl
  unfold f_X5_areNext at hf
  refine lv_iload_n hx hb dX5_areNext_0 rfl (lv_at hl 1 rfl) ?_
  obtain ⟨z1, ez1, xz1, hf⟩ := xb_e hf
  refine my_callT (As := [.int a0]) (n := 1) (rest := []) ⟨hx, hb, hml, hown, hts⟩ ht hlk hXK hS (m_X5_checkSlot l hl0 s.heap.size a0 _ ez1) gX5_areNext_X5_checkSlot rfl (by decide +kernel) ⟨rfl, rfl⟩ ⟨Nat.le_of_ble_eq_true rfl, Nat.le_of_ble_eq_true rfl⟩ ⟨Nat.le_of_ble_eq_true rfl, Nat.le_of_ble_eq_true rfl⟩ ⟨Nat.le_of_ble_eq_true rfl, Nat.le_of_ble_eq_true rfl⟩ (fun q h => h) xz1 hl.1 rfl rfl (Nat.le_of_ble_eq_true rfl) dX5_areNext_1 (fun u9 H locs qz1 hk1 hS => ?_)
  have hP := my_keep hP hk1
  have hf := hf _ qz1
  refine lv_iload_n hx hb dX5_areNext_4 rfl (lv_at hl 2 rfl) ?_
  obtain ⟨z2, ez2, xz2, hf⟩ := xb_e hf
  refine my_callT (As := [.int a1]) (n := 1) (rest := []) ⟨hx, hb, hml, hown, hts⟩ ht hlk hXK hS (m_X5_checkSlot l hl0 H.size a1 _ ez2) gX5_areNext_X5_checkSlot rfl (by decide +kernel) ⟨rfl, rfl⟩ ⟨Nat.le_of_ble_eq_true rfl, Nat.le_of_ble_eq_true rfl⟩ ⟨Nat.le_of_ble_eq_true rfl, Nat.le_of_ble_eq_true rfl⟩ ⟨Nat.le_of_ble_eq_true rfl, Nat.le_of_ble_eq_true rfl⟩ (fun q h => h) xz2 hl.1 rfl rfl (Nat.le_of_ble_eq_true rfl) dX5_areNext_5 (fun u9 H locs qz2 hk1 hS => ?_)
  have hP := my_keep hP hk1
  have hf := hf _ qz2
  refine lv_aload_n hx hb dX5_areNext_8 rfl (lv_at hl 0 rfl) ?_
  refine va_get (D := D) (ci := 4) (v := .ref h1) (C := RX5) (T := TX5) (N := 3) hx hb hts q2 hown hK hP 0 rfl rfl 0 (by decide) q1 (fun _ h9 => h9) rfl dX5_areNext_9 ?_
  refine lv_iload_n hx hb dX5_areNext_12 rfl (lv_at hl 1 rfl) ?_
  obtain ⟨g3, hf⟩ := og_e hf
  refine va_lald hx hb hK hP 1 2 rfl rfl g3 dX5_areNext_13 ?_
  refine lv_aload_n hx hb dX5_areNext_14 rfl (lv_at hl 0 rfl) ?_
  refine va_get (D := D) (ci := 4) (v := .ref h1) (C := RX5) (T := TX5) (N := 3) hx hb hts q2 hown hK hP 0 rfl rfl 0 (by decide) q1 (fun _ h9 => h9) rfl dX5_areNext_15 ?_
  refine lv_iload_n hx hb dX5_areNext_18 rfl (lv_at hl 2 rfl) ?_
  obtain ⟨g4, hf⟩ := og_e hf
  refine va_lald hx hb hK hP 1 2 rfl rfl g4 dX5_areNext_19 ?_
  refine my_callPl (As := [.long (u.1 a0.toNatClampNeg), .long (u.1 a1.toNatClampNeg)]) (n := 2) (rest := []) ⟨hx, hb, hml, hown, hts⟩ (m_X0_distance l (u.1 a0.toNatClampNeg) (u.1 a1.toNatClampNeg) _ rfl) gX5_areNext_X0_distance rfl ⟨rfl, rfl⟩ (by decide +kernel) ⟨Nat.le_of_ble_eq_true rfl, Nat.le_of_ble_eq_true rfl⟩ ⟨Nat.le_of_ble_eq_true rfl, Nat.le_of_ble_eq_true rfl⟩ hl.1 rfl rfl (Nat.le_of_ble_eq_true rfl) dX5_areNext_20 ?_
  refine lv_lconst (v := 1) hx hb dX5_areNext_23 (by decide) ?_
  refine my_lc_ne (tgt := 32) hx hb dX5_areNext_24 dX5_areNext_25 (by decide) (fun c5 => ?_) (fun c5 => ?_)
  · rw [if_neg c5] at hf
    refine lv_iconst (v := 0) hx hb dX5_areNext_32 (by decide) ?_
    exact vx_ret (W.zret (v := b2i false) (ty := .boolean) hx hb hr (b2i_nar _) (fun t ht hW => ⟨⟨b2i false, (), rfl, ⟨_, rfl, (Option.some.inj hf).symm⟩, trivial⟩, hS.F ht⟩) hS.2.2 dX5_areNext_33)
  · rw [if_pos c5] at hf
    refine lv_iconst (v := 1) hx hb dX5_areNext_28 (by decide) ?_
    refine lv_goto (tgt := 33) hx hb dX5_areNext_29 (by decide) ?_
    exact vx_ret (W.zret (v := b2i true) (ty := .boolean) hx hb hr (b2i_nar _) (fun t ht hW => ⟨⟨b2i true, (), rfl, ⟨_, rfl, (Option.some.inj hf).symm⟩, trivial⟩, hS.F ht⟩) hS.2.2 dX5_areNext_33)

set_option maxHeartbeats 4000000 in
set_option maxRecDepth 100000 in
theorem m_X5_middle (l : Launch) (hl0 : l.stackTraces = false) (D : va_G) (cC cI cJ : ClassId) (h0 h1 h2 h3 h4 h5 h6 h7 : Nat) (u : StX) (sz : Nat) (a0 : Int32) (a1 : Int32) (a2 : Int32) (res : (String ⊕ (Int64 × StX))) (hf : f_X5_middle u a0 a1 a2 = some res) : vx_Met l yX5_middle wsX5_middle rmX5_middle (my_PcTM D vwCl (KT cC cI cJ) sz (wX cC cI cJ h0 h1 h2 h3 h4 h5 h6 h7 u) [.ref h0, .int a0, .int a1, .int a2]) (va_Ql (fun r v => ∃ z, r = z.1 ∧ v = z.2 ∧ res = .inr z) (my_B D vwCl (KT cC cI cJ) (va_A (wX cC cI cJ h0 h1 h2 h3 h4 h5 h6 h7 u) sz) (fun v : StX => (wX cC cI cJ h0 h1 h2 h3 h4 h5 h6 h7 v))) (va_A (wX cC cI cJ h0 h1 h2 h3 h4 h5 h6 h7 u) sz)) (vx_X (fun _ : Unit => True) (fun E _ _ => res = .inl E) (fun q : Nat => sz ≤ q)) 3 18 (va_A (wX cC cI cJ h0 h1 h2 h3 h4 h5 h6 h7 u) sz) := by
  refine vx_ofW (cc := cX5_middle) (maxL := 4) (ret := (some .long)) (by decide) rfl ?_
  intro p e s m args below meth c s₁ B hml ht hv
  obtain ⟨rfl, hsz, hP, hK, hD0, hXK⟩ := hv
  have hx := B.exec
  have hb := B.bytes
  have hr := B.returns
  have hts : ∀ w ∈ wsX5_middle, w.before ([.ref h0, .int a0, .int a1, .int a2] : List Value).toArray s = true := atoms_spec (ws := wsX5_middle) B.pre
  have hown : s.vm.findClass RX5 = some m.cls := findClass_of_methodNamed B.named
  have hlk : meth.locks = false := B.notSynchronized
  subst hsz
  have hD := hD0.self (sz := s.heap.size)
  generalize hAe : va_A (wX cC cI cJ h0 h1 h2 h3 h4 h5 h6 h7 u) s.heap.size = A at hD ⊢
  have hA : ∀ q : Nat, s.heap.size ≤ q → A q := fun q h => by rw [← hAe]; exact Or.inr h
  have hS : va_S (fun q : Nat => s.heap.size ≤ q) s.heap s.heap [] := va_S.rf
  have hP : va_P D vwCl [(h0, .inr (4, [.ref h1, .ref h2, .ref h5])), (h1, .inl (cJ, 8, .inr (.inl u.1))), (h2, .inr (3, [.ref h3, .ref h4, .int u.2.1.2.2])), (h3, .inl (cC, 40, .inl u.2.1.1)), (h4, .inl (cI, 40, .inl u.2.1.2.1)), (h5, .inr (2, [.ref h6, .ref h7, .int u.2.2.2.2.1, .int u.2.2.2.2.2])), (h6, .inl (cI, 8, .inl u.2.2.1)), (h7, .inl (cJ, 8, .inr (.inl u.2.2.2.1)))] s.heap := hP
  have hD : va_D A [(h0, .inr (4, [.ref h1, .ref h2, .ref h5])), (h1, .inl (cJ, 8, .inr (.inl u.1))), (h2, .inr (3, [.ref h3, .ref h4, .int u.2.1.2.2])), (h3, .inl (cC, 40, .inl u.2.1.1)), (h4, .inl (cI, 40, .inl u.2.1.2.1)), (h5, .inr (2, [.ref h6, .ref h7, .int u.2.2.2.2.1, .int u.2.2.2.2.2])), (h6, .inl (cI, 8, .inl u.2.2.1)), (h7, .inl (cJ, 8, .inr (.inl u.2.2.2.1)))] := hD
  have q1 := hts (.fieldLink RX5 9 "Doubleline" "slots" "[J") (by decide +kernel)
  have q2 : ∀ w ∈ u_ws RX5 TX5 3, w ∈ wsX5_middle := by decide +kernel
  have hl := lv_entry ([.ref h0, .int a0, .int a1, .int a2]) (n := 4) (Nat.le_of_ble_eq_true rfl)
  rw [lg_entry_eq]
  generalize (lg_sl ([.ref h0, .int a0, .int a1, .int a2]) ++ List.replicate (4 - (lg_sl ([.ref h0, .int a0, .int a1, .int a2])).length) Slot.unset).toArray = ls at hl ⊢
  have hl : lv_has ls 4 [(0, .ref h0), (1, .int a0), (2, .int a1), (3, .int a2)] := hl
  unfold f_X5_middle at hf
  refine lv_iload_n hx hb dX5_middle_0 rfl (lv_at hl 1 rfl) ?_
  obtain ⟨z1, ez1, xz1, hf⟩ := xb_e hf
  refine my_callT (As := [.int a0]) (n := 1) (rest := []) ⟨hx, hb, hml, hown, hts⟩ ht hlk hXK hS (m_X5_checkSlot l hl0 s.heap.size a0 _ ez1) gX5_middle_X5_checkSlot rfl (by decide +kernel) ⟨rfl, rfl⟩ ⟨Nat.le_of_ble_eq_true rfl, Nat.le_of_ble_eq_true rfl⟩ ⟨Nat.le_of_ble_eq_true rfl, Nat.le_of_ble_eq_true rfl⟩ ⟨Nat.le_of_ble_eq_true rfl, Nat.le_of_ble_eq_true rfl⟩ (fun q h => hA q h) xz1 hl.1 rfl rfl (Nat.le_of_ble_eq_true rfl) dX5_middle_1 (fun u9 H locs qz1 hk1 hS => ?_)
  have hP := my_keep hP hk1
  have hf := hf _ qz1
  refine lv_iload_n hx hb dX5_middle_4 rfl (lv_at hl 2 rfl) ?_
  obtain ⟨z2, ez2, xz2, hf⟩ := xb_e hf
  refine my_callT (As := [.int a1]) (n := 1) (rest := []) ⟨hx, hb, hml, hown, hts⟩ ht hlk hXK hS (m_X5_checkSlot l hl0 H.size a1 _ ez2) gX5_middle_X5_checkSlot rfl (by decide +kernel) ⟨rfl, rfl⟩ ⟨Nat.le_of_ble_eq_true rfl, Nat.le_of_ble_eq_true rfl⟩ ⟨Nat.le_of_ble_eq_true rfl, Nat.le_of_ble_eq_true rfl⟩ ⟨Nat.le_of_ble_eq_true rfl, Nat.le_of_ble_eq_true rfl⟩ (fun q h => hA q h) xz2 hl.1 rfl rfl (Nat.le_of_ble_eq_true rfl) dX5_middle_5 (fun u9 H locs qz2 hk1 hS => ?_)
  have hP := my_keep hP hk1
  have hf := hf _ qz2
  refine lv_iload_n hx hb dX5_middle_8 rfl (lv_at hl 3 rfl) ?_
  obtain ⟨z3, ez3, xz3, hf⟩ := xb_e hf
  refine my_callT (As := [.int a2]) (n := 1) (rest := []) ⟨hx, hb, hml, hown, hts⟩ ht hlk hXK hS (m_X5_checkSlot l hl0 H.size a2 _ ez3) gX5_middle_X5_checkSlot rfl (by decide +kernel) ⟨rfl, rfl⟩ ⟨Nat.le_of_ble_eq_true rfl, Nat.le_of_ble_eq_true rfl⟩ ⟨Nat.le_of_ble_eq_true rfl, Nat.le_of_ble_eq_true rfl⟩ ⟨Nat.le_of_ble_eq_true rfl, Nat.le_of_ble_eq_true rfl⟩ (fun q h => hA q h) xz3 hl.1 rfl rfl (Nat.le_of_ble_eq_true rfl) dX5_middle_9 (fun u9 H locs qz3 hk1 hS => ?_)
  have hP := my_keep hP hk1
  have hf := hf _ qz3
  refine lv_aload_n hx hb dX5_middle_12 rfl (lv_at hl 0 rfl) ?_
  refine lv_iload_n hx hb dX5_middle_13 rfl (lv_at hl 3 rfl) ?_
  refine lv_aload_n hx hb dX5_middle_14 rfl (lv_at hl 0 rfl) ?_
  refine va_get (D := D) (ci := 4) (v := .ref h1) (C := RX5) (T := TX5) (N := 3) hx hb hts q2 hown hK hP 0 rfl rfl 0 (by decide) q1 (fun _ h9 => h9) rfl dX5_middle_15 ?_
  refine lv_iload_n hx hb dX5_middle_18 rfl (lv_at hl 1 rfl) ?_
  obtain ⟨g4, hf⟩ := og_e hf
  refine va_lald hx hb hK hP 1 2 rfl rfl g4 dX5_middle_19 ?_
  refine lv_aload_n hx hb dX5_middle_20 rfl (lv_at hl 0 rfl) ?_
  refine va_get (D := D) (ci := 4) (v := .ref h1) (C := RX5) (T := TX5) (N := 3) hx hb hts q2 hown hK hP 0 rfl rfl 0 (by decide) q1 (fun _ h9 => h9) rfl dX5_middle_21 ?_
  refine lv_iload_n hx hb dX5_middle_24 rfl (lv_at hl 2 rfl) ?_
  obtain ⟨g5, hf⟩ := og_e hf
  refine va_lald hx hb hK hP 1 2 rfl rfl g5 dX5_middle_25 ?_
  refine my_callPl (As := [.long (u.1 a0.toNatClampNeg), .long (u.1 a1.toNatClampNeg)]) (n := 2) (rest := [.int a2, .ref h0]) ⟨hx, hb, hml, hown, hts⟩ (m_X0_between l (u.1 a0.toNatClampNeg) (u.1 a1.toNatClampNeg) _ rfl) gX5_middle_X0_between rfl ⟨rfl, rfl⟩ (by decide +kernel) ⟨Nat.le_of_ble_eq_true rfl, Nat.le_of_ble_eq_true rfl⟩ ⟨Nat.le_of_ble_eq_true rfl, Nat.le_of_ble_eq_true rfl⟩ hl.1 rfl rfl (Nat.le_of_ble_eq_true rfl) dX5_middle_26 ?_
  obtain ⟨z6, ez6, hf⟩ := ob_e hf
  have hS := my_weak hS hA
  refine my_callMl (As := [.int a2, .long (f_X0_between (u.1 a0.toNatClampNeg) (u.1 a1.toNatClampNeg))]) (n := 2) (rest := []) (wr := []) ⟨hx, hb, hml, hown, hts⟩ hK hP hD hS hA [0, 1, 2, 3, 4, 5, 6, 7] [] rfl rfl (by decide) (by decide) (by decide) (m_X5_become l D cC cI cJ h0 h1 h2 h3 h4 h5 h6 h7 u H.size a2 (f_X0_between (u.1 a0.toNatClampNeg) (u.1 a1.toNatClampNeg)) _ ez6) gX5_middle_X5_become rfl ⟨rfl, rfl⟩ (ci := 4) rfl rfl (by decide +kernel) ⟨Nat.le_of_ble_eq_true rfl, Nat.le_of_ble_eq_true rfl⟩ ⟨Nat.le_of_ble_eq_true rfl, Nat.le_of_ble_eq_true rfl⟩ hl.1 rfl rfl (Nat.le_of_ble_eq_true rfl) dX5_middle_29 (fun r9 u9 H locs hw hP hD hS => ?_)
  obtain ⟨rfl, rfl⟩ := hw
  have hP : va_P D vwCl [(h0, .inr (4, [.ref h1, .ref h2, .ref h5])), (h1, .inl (cJ, 8, .inr (.inl z6.2.1))), (h2, .inr (3, [.ref h3, .ref h4, .int z6.2.2.1.2.2])), (h3, .inl (cC, 40, .inl z6.2.2.1.1)), (h4, .inl (cI, 40, .inl z6.2.2.1.2.1)), (h5, .inr (2, [.ref h6, .ref h7, .int z6.2.2.2.2.2.1, .int z6.2.2.2.2.2.2])), (h6, .inl (cI, 8, .inl z6.2.2.2.1)), (h7, .inl (cJ, 8, .inr (.inl z6.2.2.2.2.1)))] H := hP.sub [0, 1, 2, 3, 4, 5, 6, 7] rfl
  have hD : va_D A [(h0, .inr (4, [.ref h1, .ref h2, .ref h5])), (h1, .inl (cJ, 8, .inr (.inl z6.2.1))), (h2, .inr (3, [.ref h3, .ref h4, .int z6.2.2.1.2.2])), (h3, .inl (cC, 40, .inl z6.2.2.1.1)), (h4, .inl (cI, 40, .inl z6.2.2.1.2.1)), (h5, .inr (2, [.ref h6, .ref h7, .int z6.2.2.2.2.2.1, .int z6.2.2.2.2.2.2])), (h6, .inl (cI, 8, .inl z6.2.2.2.1)), (h7, .inl (cJ, 8, .inr (.inl z6.2.2.2.2.1)))] := hD.sub [0, 1, 2, 3, 4, 5, 6, 7] (by decide) rfl
  have hP9 : va_P D vwCl (wX cC cI cJ h0 h1 h2 h3 h4 h5 h6 h7 z6.2) _ := hP
  have hD9 : va_D A (wX cC cI cJ h0 h1 h2 h3 h4 h5 h6 h7 z6.2) := hD
  exact vx_ret (W.lret (v := z6.1) hx hb hr (fun t ht hW => ⟨⟨z6.1, z6.2, rfl, ⟨(z6.1, z6.2), rfl, rfl, (Option.some.inj hf).symm⟩, by rw [ht]; exact hP9, va_K.moved hW.alike hK, hD9⟩, hS.F ht⟩) hS.2.2 dX5_middle_32)

set_option maxHeartbeats 4000000 in
set_option maxRecDepth 100000 in
theorem m_X5_halvings (l : Launch) (hl0 : l.stackTraces = false) (D : va_G) (cC cI cJ : ClassId) (h0 h1 h2 h3 h4 h5 h6 h7 : Nat) (u : StX) (sz : Nat) (a0 : Int32) (a1 : Int32) (res : (String ⊕ Int32)) (hf : f_X5_halvings u a0 a1 = some res) : vx_Met l yX5_halvings wsX5_halvings rmX5_halvings (my_PcTR D vwCl (KT cC cI cJ) sz (wX cC cI cJ h0 h1 h2 h3 h4 h5 h6 h7 u) [.ref h0, .int a0, .int a1]) (va_Qi (fun r (_ : Unit) => (∃ z, r = z ∧ res = .inr z)) (fun _ _ => True) (fun q : Nat => sz ≤ q)) (vx_X (fun _ : Unit => True) (fun E _ _ => res = .inl E) (fun q : Nat => sz ≤ q)) 2 12 (fun q : Nat => sz ≤ q) := by
  refine vx_ofW (cc := cX5_halvings) (maxL := 8) (ret := (some .int)) (by decide) rfl ?_
  intro p e s m args below meth c s₁ B hml ht hv
  obtain ⟨rfl, hsz, hP, hK, hXK⟩ := hv
  have hx := B.exec
  have hb := B.bytes
  have hr := B.returns
  have hts : ∀ w ∈ wsX5_halvings, w.before ([.ref h0, .int a0, .int a1] : List Value).toArray s = true := atoms_spec (ws := wsX5_halvings) B.pre
  have hown : s.vm.findClass RX5 = some m.cls := findClass_of_methodNamed B.named
  have hlk : meth.locks = false := B.notSynchronized
  subst hsz
  have hS : va_S (fun q : Nat => s.heap.size ≤ q) s.heap s.heap [] := va_S.rf
  have hP : va_P D vwCl [(h0, .inr (4, [.ref h1, .ref h2, .ref h5])), (h1, .inl (cJ, 8, .inr (.inl u.1))), (h2, .inr (3, [.ref h3, .ref h4, .int u.2.1.2.2])), (h3, .inl (cC, 40, .inl u.2.1.1)), (h4, .inl (cI, 40, .inl u.2.1.2.1)), (h5, .inr (2, [.ref h6, .ref h7, .int u.2.2.2.2.1, .int u.2.2.2.2.2])), (h6, .inl (cI, 8, .inl u.2.2.1)), (h7, .inl (cJ, 8, .inr (.inl u.2.2.2.1)))] s.heap := hP
  have q1 := hts (.fieldLink RX5 9 "Doubleline" "slots" "[J") (by decide +kernel)
  have q2 : ∀ w ∈ u_ws RX5 TX5 3, w ∈ wsX5_halvings := by decide +kernel
  have hl := lv_entry ([.ref h0, .int a0, .int a1]) (n := 8) (Nat.le_of_ble_eq_true rfl)
  rw [lg_entry_eq]
  generalize (lg_sl ([.ref h0, .int a0, .int a1]) ++ List.replicate (8 - (lg_sl ([.ref h0, .int a0, .int a1])).length) Slot.unset).toArray = ls at hl ⊢
  have hl : lv_has ls 8 [(0, .ref h0), (1, .int a0), (2, .int a1)] := hl
  unfold f_X5_halvings at hf
  refine lv_iload_n hx hb dX5_halvings_0 rfl (lv_at hl 1 rfl) ?_
  obtain ⟨z1, ez1, xz1, hf⟩ := xb_e hf
  refine my_callT (As := [.int a0]) (n := 1) (rest := []) ⟨hx, hb, hml, hown, hts⟩ ht hlk hXK hS (m_X5_checkSlot l hl0 s.heap.size a0 _ ez1) gX5_halvings_X5_checkSlot rfl (by decide +kernel) ⟨rfl, rfl⟩ ⟨Nat.le_of_ble_eq_true rfl, Nat.le_of_ble_eq_true rfl⟩ ⟨Nat.le_of_ble_eq_true rfl, Nat.le_of_ble_eq_true rfl⟩ ⟨Nat.le_of_ble_eq_true rfl, Nat.le_of_ble_eq_true rfl⟩ (fun q h => h) xz1 hl.1 rfl rfl (Nat.le_of_ble_eq_true rfl) dX5_halvings_1 (fun u9 H locs qz1 hk1 hS => ?_)
  have hP := my_keep hP hk1
  have hf := hf _ qz1
  refine lv_iload_n hx hb dX5_halvings_4 rfl (lv_at hl 2 rfl) ?_
  obtain ⟨z2, ez2, xz2, hf⟩ := xb_e hf
  refine my_callT (As := [.int a1]) (n := 1) (rest := []) ⟨hx, hb, hml, hown, hts⟩ ht hlk hXK hS (m_X5_checkSlot l hl0 H.size a1 _ ez2) gX5_halvings_X5_checkSlot rfl (by decide +kernel) ⟨rfl, rfl⟩ ⟨Nat.le_of_ble_eq_true rfl, Nat.le_of_ble_eq_true rfl⟩ ⟨Nat.le_of_ble_eq_true rfl, Nat.le_of_ble_eq_true rfl⟩ ⟨Nat.le_of_ble_eq_true rfl, Nat.le_of_ble_eq_true rfl⟩ (fun q h => h) xz2 hl.1 rfl rfl (Nat.le_of_ble_eq_true rfl) dX5_halvings_5 (fun u9 H locs qz2 hk1 hS => ?_)
  have hP := my_keep hP hk1
  have hf := hf _ qz2
  refine lv_aload_n hx hb dX5_halvings_8 rfl (lv_at hl 0 rfl) ?_
  refine va_get (D := D) (ci := 4) (v := .ref h1) (C := RX5) (T := TX5) (N := 3) hx hb hts q2 hown hK hP 0 rfl rfl 0 (by decide) q1 (fun _ h9 => h9) rfl dX5_halvings_9 ?_
  refine lv_iload_n hx hb dX5_halvings_12 rfl (lv_at hl 1 rfl) ?_
  obtain ⟨g3, hf⟩ := og_e hf
  refine va_lald hx hb hK hP 1 2 rfl rfl g3 dX5_halvings_13 ?_
  refine lv_lstore_n (lv' := [(3, .long (u.1 a0.toNatClampNeg)), (0, .ref h0), (1, .int a0), (2, .int a1)]) hx hb dX5_halvings_14 rfl hl (by decide) rfl (fun ls hl => ?_)
  refine lv_aload_n hx hb dX5_halvings_15 rfl (lv_at hl 1 rfl) ?_
  refine va_get (D := D) (ci := 4) (v := .ref h1) (C := RX5) (T := TX5) (N := 3) hx hb hts q2 hown hK hP 0 rfl rfl 0 (by decide) q1 (fun _ h9 => h9) rfl dX5_halvings_16 ?_
  refine lv_iload_n hx hb dX5_halvings_19 rfl (lv_at hl 3 rfl) ?_
  obtain ⟨g4, hf⟩ := og_e hf
  refine va_lald hx hb hK hP 1 2 rfl rfl g4 dX5_halvings_20 ?_
  refine lv_lstore (lv' := [(5, .long (u.1 a1.toNatClampNeg)), (3, .long (u.1 a0.toNatClampNeg)), (0, .ref h0), (1, .int a0), (2, .int a1)]) hx hb dX5_halvings_21 hl (by decide) rfl (fun ls hl => ?_)
  refine lv_iconst (v := 0) hx hb dX5_halvings_23 (by decide) ?_
  refine lv_istore (lv' := [(7, .int 0), (5, .long (u.1 a1.toNatClampNeg)), (3, .long (u.1 a0.toNatClampNeg)), (0, .ref h0), (1, .int a0), (2, .int a1)]) hx hb dX5_halvings_24 hl (by decide) rfl (fun ls hl => ?_)
  have loop26 : ∀ (n26 : Nat) (v26_7 : Int32) (v26_5 : Int64) (v26_3 : Int64) (ls : Array Slot), lv_has ls 8 [(7, .int v26_7), (5, .long v26_5), (3, .long v26_3)] → f_X5_halvings_L26 u a0 a1 n26 v26_7 v26_5 v26_3 = some res → W p l e (rmX5_halvings) s m ([.ref h0, .int a0, .int a1] : List Value).toArray below meth c H locs 2 12 (vx_MQ below (va_Qi (fun r (_ : Unit) => (∃ z, r = z ∧ res = .inr z)) (fun _ _ => True) (fun q : Nat => s.heap.size ≤ q)) (vx_X (fun _ : Unit => True) (fun E _ _ => res = .inl E) (fun q : Nat => s.heap.size ≤ q)) ([.ref h0, .int a0, .int a1] : List Value).toArray s 2 12 (fun q : Nat => s.heap.size ≤ q)) (F0 m 26 ls []) := by
    intro n26
    induction n26 with
    | zero => intro v26_7 v26_5 v26_3 ls hl hf; rw [f_X5_halvings_L26] at hf; cases hf
    | succ n26 ih26 =>
      intro v26_7 v26_5 v26_3 ls hl hf
      rw [f_X5_halvings_L26] at hf
      refine lv_iload hx hb dX5_halvings_26 (lv_at hl 0 rfl) ?_
      refine lv_bipush (v := 64) hx hb dX5_halvings_28 (by decide) ?_
      refine my_ic_ge (tgt := 59) hx hb dX5_halvings_30 (by decide) (fun c5 => ?_) (fun c5 => ?_)
      · rw [if_neg c5] at hf
        refine lv_iload hx hb dX5_halvings_59 (lv_at hl 0 rfl) ?_
        exact vx_ret (W.iret (v := v26_7) hx hb hr (fun t ht hW => ⟨⟨v26_7, (), rfl, ⟨_, rfl, (Option.some.inj hf).symm⟩, trivial⟩, hS.F ht⟩) hS.2.2 dX5_halvings_61)
      · rw [if_pos c5] at hf
        refine lv_lload_n hx hb dX5_halvings_33 rfl (lv_at hl 2 rfl) ?_
        refine lv_lload hx hb dX5_halvings_34 (lv_at hl 1 rfl) ?_
        refine my_callPl (As := [.long v26_3, .long v26_5]) (n := 2) (rest := []) ⟨hx, hb, hml, hown, hts⟩ (m_X0_distance l v26_3 v26_5 _ rfl) gX5_halvings_X0_distance rfl ⟨rfl, rfl⟩ (by decide +kernel) ⟨Nat.le_of_ble_eq_true rfl, Nat.le_of_ble_eq_true rfl⟩ ⟨Nat.le_of_ble_eq_true rfl, Nat.le_of_ble_eq_true rfl⟩ hl.1 rfl rfl (Nat.le_of_ble_eq_true rfl) dX5_halvings_36 ?_
        refine lv_iconst (v := 1) hx hb dX5_halvings_39 (by decide) ?_
        refine my_callPi (As := [.long (f_X0_distance v26_3 v26_5), .int 1]) (n := 2) (rest := []) ⟨hx, hb, hml, hown, hts⟩ (m_X0_isMoreThan l (f_X0_distance v26_3 v26_5) 1 _ rfl) gX5_halvings_X0_isMoreThan rfl ⟨rfl, rfl⟩ (by decide +kernel) ⟨Nat.le_of_ble_eq_true rfl, Nat.le_of_ble_eq_true rfl⟩ ⟨Nat.le_of_ble_eq_true rfl, Nat.le_of_ble_eq_true rfl⟩ hl.1 rfl rfl (Nat.le_of_ble_eq_true rfl) dX5_halvings_40 ?_
        refine my_bz_eq (x := (f_X0_isMoreThan (f_X0_distance v26_3 v26_5) 1)) (tgt := 59) hx hb dX5_halvings_43 (by decide) (fun c6 => ?_) (fun c6 => ?_)
        · rw [if_pos c6] at hf
          refine lv_iload hx hb dX5_halvings_59 (lv_at hl 0 rfl) ?_
          exact vx_ret (W.iret (v := v26_7) hx hb hr (fun t ht hW => ⟨⟨v26_7, (), rfl, ⟨_, rfl, (Option.some.inj hf).symm⟩, trivial⟩, hS.F ht⟩) hS.2.2 dX5_halvings_61)
        · rw [if_neg c6] at hf
          refine lv_lload_n hx hb dX5_halvings_46 rfl (lv_at hl 2 rfl) ?_
          refine lv_lload hx hb dX5_halvings_47 (lv_at hl 1 rfl) ?_
          refine my_callPl (As := [.long v26_3, .long v26_5]) (n := 2) (rest := []) ⟨hx, hb, hml, hown, hts⟩ (m_X0_between l v26_3 v26_5 _ rfl) gX5_halvings_X0_between rfl ⟨rfl, rfl⟩ (by decide +kernel) ⟨Nat.le_of_ble_eq_true rfl, Nat.le_of_ble_eq_true rfl⟩ ⟨Nat.le_of_ble_eq_true rfl, Nat.le_of_ble_eq_true rfl⟩ hl.1 rfl rfl (Nat.le_of_ble_eq_true rfl) dX5_halvings_49 ?_
          refine lv_lstore_n (lv' := [(3, .long (f_X0_between v26_3 v26_5)), (7, .int v26_7), (5, .long v26_5)]) hx hb dX5_halvings_52 rfl hl (by decide) rfl (fun ls hl => ?_)
          refine lv_iinc (v := (v26_7 + 1)) (lv' := [(7, .int (v26_7 + 1)), (3, .long (f_X0_between v26_3 v26_5)), (5, .long v26_5)]) hx hb dX5_halvings_53 hl (k := 1) rfl rfl (by decide) rfl (fun ls hl => ?_)
          refine lv_goto (tgt := 26) hx hb dX5_halvings_56 (by decide) ?_
          exact ih26 (v26_7 + 1) v26_5 (f_X0_between v26_3 v26_5) _ (lv_sub hl [0, 2, 1] rfl) hf
  exact loop26 100 0 (u.1 a1.toNatClampNeg) (u.1 a0.toNatClampNeg) _ (lv_sub hl [0, 1, 2] rfl) hf

set_option maxHeartbeats 4000000 in
set_option maxRecDepth 100000 in
theorem m_X5_compare (l : Launch) (hl0 : l.stackTraces = false) (D : va_G) (cC cI cJ : ClassId) (h0 h1 h2 h3 h4 h5 h6 h7 : Nat) (u : StX) (sz : Nat) (a0 : Int32) (a1 : Int32) (res : (String ⊕ Int32)) (hf : f_X5_compare u a0 a1 = some res) : vx_Met l yX5_compare wsX5_compare rmX5_compare (my_PcTR D vwCl (KT cC cI cJ) sz (wX cC cI cJ h0 h1 h2 h3 h4 h5 h6 h7 u) [.ref h0, .int a0, .int a1]) (va_Qi (fun r (_ : Unit) => (∃ z, r = z ∧ res = .inr z)) (fun _ _ => True) (fun q : Nat => sz ≤ q)) (vx_X (fun _ : Unit => True) (fun E _ _ => res = .inl E) (fun q : Nat => sz ≤ q)) 2 12 (fun q : Nat => sz ≤ q) := by
  refine vx_ofW (cc := cX5_compare) (maxL := 3) (ret := (some .int)) (by decide) rfl ?_
  intro p e s m args below meth c s₁ B hml ht hv
  obtain ⟨rfl, hsz, hP, hK, hXK⟩ := hv
  have hx := B.exec
  have hb := B.bytes
  have hr := B.returns
  have hts : ∀ w ∈ wsX5_compare, w.before ([.ref h0, .int a0, .int a1] : List Value).toArray s = true := atoms_spec (ws := wsX5_compare) B.pre
  have hown : s.vm.findClass RX5 = some m.cls := findClass_of_methodNamed B.named
  have hlk : meth.locks = false := B.notSynchronized
  subst hsz
  have hS : va_S (fun q : Nat => s.heap.size ≤ q) s.heap s.heap [] := va_S.rf
  have hP : va_P D vwCl [(h0, .inr (4, [.ref h1, .ref h2, .ref h5])), (h1, .inl (cJ, 8, .inr (.inl u.1))), (h2, .inr (3, [.ref h3, .ref h4, .int u.2.1.2.2])), (h3, .inl (cC, 40, .inl u.2.1.1)), (h4, .inl (cI, 40, .inl u.2.1.2.1)), (h5, .inr (2, [.ref h6, .ref h7, .int u.2.2.2.2.1, .int u.2.2.2.2.2])), (h6, .inl (cI, 8, .inl u.2.2.1)), (h7, .inl (cJ, 8, .inr (.inl u.2.2.2.1)))] s.heap := hP
  have q1 := hts (.fieldLink RX5 9 "Doubleline" "slots" "[J") (by decide +kernel)
  have q2 : ∀ w ∈ u_ws RX5 TX5 3, w ∈ wsX5_compare := by decide +kernel
  have hl := lv_entry ([.ref h0, .int a0, .int a1]) (n := 3) (Nat.le_of_ble_eq_true rfl)
  rw [lg_entry_eq]
  generalize (lg_sl ([.ref h0, .int a0, .int a1]) ++ List.replicate (3 - (lg_sl ([.ref h0, .int a0, .int a1])).length) Slot.unset).toArray = ls at hl ⊢
  have hl : lv_has ls 3 [(0, .ref h0), (1, .int a0), (2, .int a1)] := hl
  unfold f_X5_compare at hf
  refine lv_iload_n hx hb dX5_compare_0 rfl (lv_at hl 1 rfl) ?_
  obtain ⟨z1, ez1, xz1, hf⟩ := xb_e hf
  refine my_callT (As := [.int a0]) (n := 1) (rest := []) ⟨hx, hb, hml, hown, hts⟩ ht hlk hXK hS (m_X5_checkSlot l hl0 s.heap.size a0 _ ez1) gX5_compare_X5_checkSlot rfl (by decide +kernel) ⟨rfl, rfl⟩ ⟨Nat.le_of_ble_eq_true rfl, Nat.le_of_ble_eq_true rfl⟩ ⟨Nat.le_of_ble_eq_true rfl, Nat.le_of_ble_eq_true rfl⟩ ⟨Nat.le_of_ble_eq_true rfl, Nat.le_of_ble_eq_true rfl⟩ (fun q h => h) xz1 hl.1 rfl rfl (Nat.le_of_ble_eq_true rfl) dX5_compare_1 (fun u9 H locs qz1 hk1 hS => ?_)
  have hP := my_keep hP hk1
  have hf := hf _ qz1
  refine lv_iload_n hx hb dX5_compare_4 rfl (lv_at hl 2 rfl) ?_
  obtain ⟨z2, ez2, xz2, hf⟩ := xb_e hf
  refine my_callT (As := [.int a1]) (n := 1) (rest := []) ⟨hx, hb, hml, hown, hts⟩ ht hlk hXK hS (m_X5_checkSlot l hl0 H.size a1 _ ez2) gX5_compare_X5_checkSlot rfl (by decide +kernel) ⟨rfl, rfl⟩ ⟨Nat.le_of_ble_eq_true rfl, Nat.le_of_ble_eq_true rfl⟩ ⟨Nat.le_of_ble_eq_true rfl, Nat.le_of_ble_eq_true rfl⟩ ⟨Nat.le_of_ble_eq_true rfl, Nat.le_of_ble_eq_true rfl⟩ (fun q h => h) xz2 hl.1 rfl rfl (Nat.le_of_ble_eq_true rfl) dX5_compare_5 (fun u9 H locs qz2 hk1 hS => ?_)
  have hP := my_keep hP hk1
  have hf := hf _ qz2
  refine lv_aload_n hx hb dX5_compare_8 rfl (lv_at hl 0 rfl) ?_
  refine va_get (D := D) (ci := 4) (v := .ref h1) (C := RX5) (T := TX5) (N := 3) hx hb hts q2 hown hK hP 0 rfl rfl 0 (by decide) q1 (fun _ h9 => h9) rfl dX5_compare_9 ?_
  refine lv_iload_n hx hb dX5_compare_12 rfl (lv_at hl 1 rfl) ?_
  obtain ⟨g3, hf⟩ := og_e hf
  refine va_lald hx hb hK hP 1 2 rfl rfl g3 dX5_compare_13 ?_
  refine lv_aload_n hx hb dX5_compare_14 rfl (lv_at hl 0 rfl) ?_
  refine va_get (D := D) (ci := 4) (v := .ref h1) (C := RX5) (T := TX5) (N := 3) hx hb hts q2 hown hK hP 0 rfl rfl 0 (by decide) q1 (fun _ h9 => h9) rfl dX5_compare_15 ?_
  refine lv_iload_n hx hb dX5_compare_18 rfl (lv_at hl 2 rfl) ?_
  obtain ⟨g4, hf⟩ := og_e hf
  refine va_lald hx hb hK hP 1 2 rfl rfl g4 dX5_compare_19 ?_
  refine my_callPi (As := [.long (u.1 a0.toNatClampNeg), .long (u.1 a1.toNatClampNeg)]) (n := 2) (rest := []) ⟨hx, hb, hml, hown, hts⟩ (m_X0_order l (u.1 a0.toNatClampNeg) (u.1 a1.toNatClampNeg) _ rfl) gX5_compare_X0_order rfl ⟨rfl, rfl⟩ (by decide +kernel) ⟨Nat.le_of_ble_eq_true rfl, Nat.le_of_ble_eq_true rfl⟩ ⟨Nat.le_of_ble_eq_true rfl, Nat.le_of_ble_eq_true rfl⟩ hl.1 rfl rfl (Nat.le_of_ble_eq_true rfl) dX5_compare_20 ?_
  exact vx_ret (W.iret (v := (f_X0_order (u.1 a0.toNatClampNeg) (u.1 a1.toNatClampNeg))) hx hb hr (fun t ht hW => ⟨⟨(f_X0_order (u.1 a0.toNatClampNeg) (u.1 a1.toNatClampNeg)), (), rfl, ⟨_, rfl, (Option.some.inj hf).symm⟩, trivial⟩, hS.F ht⟩) hS.2.2 dX5_compare_23)
