set_option maxHeartbeats 4000000 in
set_option maxRecDepth 100000 in
theorem m_X2_init (l : Launch) (D : va_G) (cC cI cJ : ClassId) (h0 : Nat) (sz : Nat) : Met l yX2_init wsX2_init rmX2_init (my_PcM D vwCl (KT cC cI cJ) sz [(h0, .inr (2, [.null, .null, .int 0, .int 0]))] [.ref h0]) (va_Qv (fun (_ : Nat × Nat) => True) (my_B D vwCl (KT cC cI cJ) (va_A [(h0, .inr (2, [.null, .null, .int 0, .int 0]))] sz) (fun v : Nat × Nat => (wP cI cJ h0 v.1 v.2 zRX2))) (va_A [(h0, .inr (2, [.null, .null, .int 0, .int 0]))] sz)) 2 16 (va_A [(h0, .inr (2, [.null, .null, .int 0, .int 0]))] sz) := by
  refine Met.ofW (cc := cX2_init) (maxL := 1) (ret := none) (by decide) rfl ?_
  intro p e s m args below meth c s₁ B hml hv
  obtain ⟨rfl, hsz, hP, hK, hD0⟩ := hv
  have hx := B.exec
  have hb := B.bytes
  have hr := B.returns
  have hts : ∀ w ∈ wsX2_init, w.before ([.ref h0] : List Value).toArray s = true := atoms_spec (ws := wsX2_init) B.pre
  have hown : s.vm.findClass RX2 = some m.cls := findClass_of_methodNamed B.named
  have hlk : meth.locks = false := B.notSynchronized
  subst hsz
  have hin : meth.name = "<init>" := (name_of_methodNamed B.named B.method).1
  have hD := hD0.self (sz := s.heap.size)
  generalize hAe : va_A [(h0, .inr (2, [.null, .null, .int 0, .int 0]))] s.heap.size = A at hD ⊢
  have hA : ∀ q : Nat, s.heap.size ≤ q → A q := fun q h => by rw [← hAe]; exact Or.inr h
  have hS : va_S A s.heap s.heap [] := va_S.rf
  have q1 := hts (.methodLink RX2 1 objectInit) (by decide +kernel)
  have q2 := hts (.instanceMethod objectInit) (by decide +kernel)
  have q3 := hts (.code objectInit ⟨#[0xb1]⟩ 1 none) (by decide +kernel)
  have q4 := hts (.arrayClass .int) (by decide +kernel)
  have q5 := hts (.fieldLink RX2 9 "Doubleline$Past" "keptSlots" "[I") (by decide +kernel)
  have q6 : ∀ w ∈ u_ws RX2 TX2 4, w ∈ wsX2_init := by decide +kernel
  have q7 := hts (.arrayClass .long) (by decide +kernel)
  have q8 := hts (.fieldLink RX2 13 "Doubleline$Past" "keptNumbers" "[J") (by decide +kernel)
  have q9 := hts (.fieldLink RX2 17 "Doubleline$Past" "latest" "I") (by decide +kernel)
  have q10 := hts (.fieldLink RX2 21 "Doubleline$Past" "count" "I") (by decide +kernel)
  have hl := lv_entry ([.ref h0]) (n := 1) (Nat.le_of_ble_eq_true rfl)
  rw [lg_entry_eq]
  generalize (lg_sl ([.ref h0]) ++ List.replicate (1 - (lg_sl ([.ref h0])).length) Slot.unset).toArray = ls at hl ⊢
  have hl : lv_has ls 1 [(0, .ref h0)] := hl
  refine lv_aload_n hx hb dX2_init_0 rfl (lv_at hl 0 rfl) ?_
  refine W.objInit hx hb hown q1 q2 q3 rfl (by rw [hml]; exact hl.1) rfl dX2_init_1 (Nat.le_of_ble_eq_true rfl) (Nat.le_of_ble_eq_true rfl) ?_
  refine W.eq (g2 := F0 m 4 ls []) rfl ?_
  refine lv_aload_n hx hb dX2_init_4 rfl (lv_at hl 0 rfl) ?_
  refine lv_bipush (v := 8) hx hb dX2_init_5 (by decide) ?_
  refine my_newaI hx hb q4 hK (t0 := 1) rfl hP hD hS hA (N := 8) (by decide) rfl (by decide) (Nat.le_of_ble_eq_true rfl) (Nat.le_of_ble_eq_true rfl) dX2_init_7 (fun b1 H hP hD hS => ?_)
  have hP : va_P D vwCl [(h0, .inr (2, [.null, .null, .int 0, .int 0])), (b1, .inl (cI, 8, .inl (fun _ => 0)))] H := hP
  have hD : va_D A [(h0, .inr (2, [.null, .null, .int 0, .int 0])), (b1, .inl (cI, 8, .inl (fun _ => 0)))] := hD
  refine va_putF (D := D) (ci := 2) (v := .ref b1) (ty := (.array .int)) (C := RX2) (T := TX2) (N := 4) hx hb hts q6 tyX2 tyX2_ok nmX2 hown hK hP hD hS 0 rfl rfl 0 (by decide) q5 (fun _ h9 => h9) rfl hin rfl (by decide +kernel) rfl rfl (Nat.le_of_ble_eq_true rfl) dX2_init_9 (fun H locs hP hD hS => ?_)
  have hP : va_P D vwCl [(h0, .inr (2, [.ref b1, .null, .int 0, .int 0])), (b1, .inl (cI, 8, .inl (fun _ => 0)))] H := hP
  have hD : va_D A [(h0, .inr (2, [.ref b1, .null, .int 0, .int 0])), (b1, .inl (cI, 8, .inl (fun _ => 0)))] := hD
  refine lv_aload_n hx hb dX2_init_12 rfl (lv_at hl 0 rfl) ?_
  refine lv_bipush (v := 8) hx hb dX2_init_13 (by decide) ?_
  refine my_newaJ hx hb q7 hK (t0 := 2) rfl hP hD hS hA (N := 8) (by decide) rfl (by decide) (Nat.le_of_ble_eq_true rfl) (Nat.le_of_ble_eq_true rfl) dX2_init_15 (fun b2 H hP hD hS => ?_)
  have hP : va_P D vwCl [(h0, .inr (2, [.ref b1, .null, .int 0, .int 0])), (b1, .inl (cI, 8, .inl (fun _ => 0))), (b2, .inl (cJ, 8, .inr (.inl (fun _ => 0))))] H := hP
  have hD : va_D A [(h0, .inr (2, [.ref b1, .null, .int 0, .int 0])), (b1, .inl (cI, 8, .inl (fun _ => 0))), (b2, .inl (cJ, 8, .inr (.inl (fun _ => 0))))] := hD
  refine va_putF (D := D) (ci := 2) (v := .ref b2) (ty := (.array .long)) (C := RX2) (T := TX2) (N := 4) hx hb hts q6 tyX2 tyX2_ok nmX2 hown hK hP hD hS 0 rfl rfl 1 (by decide) q8 (fun _ h9 => h9) rfl hin rfl (by decide +kernel) rfl rfl (Nat.le_of_ble_eq_true rfl) dX2_init_17 (fun H locs hP hD hS => ?_)
  have hP : va_P D vwCl [(h0, .inr (2, [.ref b1, .ref b2, .int 0, .int 0])), (b1, .inl (cI, 8, .inl (fun _ => 0))), (b2, .inl (cJ, 8, .inr (.inl (fun _ => 0))))] H := hP
  have hD : va_D A [(h0, .inr (2, [.ref b1, .ref b2, .int 0, .int 0])), (b1, .inl (cI, 8, .inl (fun _ => 0))), (b2, .inl (cJ, 8, .inr (.inl (fun _ => 0))))] := hD
  refine lv_aload_n hx hb dX2_init_20 rfl (lv_at hl 0 rfl) ?_
  refine lv_iconst (v := 0) hx hb dX2_init_21 (by decide) ?_
  refine va_put (D := D) (ci := 2) (v := .int 0) (ty := .int) (C := RX2) (T := TX2) (N := 4) hx hb hts q6 tyX2 tyX2_ok nmX2 hown hK hP hD hS 0 rfl rfl 2 (by decide) q9 (fun _ h9 => h9) rfl (by decide +kernel) rfl rfl (Nat.le_of_ble_eq_true rfl) dX2_init_22 (fun H locs hP hD hS => ?_)
  have hP : va_P D vwCl [(h0, .inr (2, [.ref b1, .ref b2, .int 0, .int 0])), (b1, .inl (cI, 8, .inl (fun _ => 0))), (b2, .inl (cJ, 8, .inr (.inl (fun _ => 0))))] H := hP
  have hD : va_D A [(h0, .inr (2, [.ref b1, .ref b2, .int 0, .int 0])), (b1, .inl (cI, 8, .inl (fun _ => 0))), (b2, .inl (cJ, 8, .inr (.inl (fun _ => 0))))] := hD
  refine lv_aload_n hx hb dX2_init_25 rfl (lv_at hl 0 rfl) ?_
  refine lv_iconst (v := 0) hx hb dX2_init_26 (by decide) ?_
  refine va_put (D := D) (ci := 2) (v := .int 0) (ty := .int) (C := RX2) (T := TX2) (N := 4) hx hb hts q6 tyX2 tyX2_ok nmX2 hown hK hP hD hS 0 rfl rfl 3 (by decide) q10 (fun _ h9 => h9) rfl (by decide +kernel) rfl rfl (Nat.le_of_ble_eq_true rfl) dX2_init_27 (fun H locs hP hD hS => ?_)
  have hP : va_P D vwCl [(h0, .inr (2, [.ref b1, .ref b2, .int 0, .int 0])), (b1, .inl (cI, 8, .inl (fun _ => 0))), (b2, .inl (cJ, 8, .inr (.inl (fun _ => 0))))] H := hP
  have hD : va_D A [(h0, .inr (2, [.ref b1, .ref b2, .int 0, .int 0])), (b1, .inl (cI, 8, .inl (fun _ => 0))), (b2, .inl (cJ, 8, .inr (.inl (fun _ => 0))))] := hD
  have hP9 : va_P D vwCl (wP cI cJ h0 b1 b2 zRX2) _ := hP.sub [0, 1, 2] rfl
  have hD9 : va_D A (wP cI cJ h0 b1 b2 zRX2) := hD.sub [0, 1, 2] (by decide) rfl
  exact W.vret hx hb hr (fun t ht hW => ⟨⟨(b1, b2), rfl, trivial, by rw [ht]; exact hP9, va_K.moved hW.alike hK, hD9⟩, hS.F ht⟩) hS.2.2 dX2_init_30

set_option maxHeartbeats 4000000 in
set_option maxRecDepth 100000 in
theorem m_X3_init (l : Launch) (D : va_G) (cC cI cJ : ClassId) (h0 : Nat) (sz : Nat) : Met l yX3_init wsX3_init rmX3_init (my_PcM D vwCl (KT cC cI cJ) sz [(h0, .inr (3, [.null, .null, .int 0]))] [.ref h0]) (va_Qv (fun (_ : Nat × Nat) => True) (my_B D vwCl (KT cC cI cJ) (va_A [(h0, .inr (3, [.null, .null, .int 0]))] sz) (fun v : Nat × Nat => (wR cC cI h0 v.1 v.2 zRX3))) (va_A [(h0, .inr (3, [.null, .null, .int 0]))] sz)) 2 80 (va_A [(h0, .inr (3, [.null, .null, .int 0]))] sz) := by
  refine Met.ofW (cc := cX3_init) (maxL := 1) (ret := none) (by decide) rfl ?_
  intro p e s m args below meth c s₁ B hml hv
  obtain ⟨rfl, hsz, hP, hK, hD0⟩ := hv
  have hx := B.exec
  have hb := B.bytes
  have hr := B.returns
  have hts : ∀ w ∈ wsX3_init, w.before ([.ref h0] : List Value).toArray s = true := atoms_spec (ws := wsX3_init) B.pre
  have hown : s.vm.findClass RX3 = some m.cls := findClass_of_methodNamed B.named
  have hlk : meth.locks = false := B.notSynchronized
  subst hsz
  have hin : meth.name = "<init>" := (name_of_methodNamed B.named B.method).1
  have hD := hD0.self (sz := s.heap.size)
  generalize hAe : va_A [(h0, .inr (3, [.null, .null, .int 0]))] s.heap.size = A at hD ⊢
  have hA : ∀ q : Nat, s.heap.size ≤ q → A q := fun q h => by rw [← hAe]; exact Or.inr h
  have hS : va_S A s.heap s.heap [] := va_S.rf
  have q1 := hts (.methodLink RX3 1 objectInit) (by decide +kernel)
  have q2 := hts (.instanceMethod objectInit) (by decide +kernel)
  have q3 := hts (.code objectInit ⟨#[0xb1]⟩ 1 none) (by decide +kernel)
  have q4 := hts (.arrayClass .char) (by decide +kernel)
  have q5 := hts (.fieldLink RX3 9 "Doubleline$Row" "kinds" "[C") (by decide +kernel)
  have q6 : ∀ w ∈ u_ws RX3 TX3 3, w ∈ wsX3_init := by decide +kernel
  have q7 := hts (.arrayClass .int) (by decide +kernel)
  have q8 := hts (.fieldLink RX3 13 "Doubleline$Row" "counts" "[I") (by decide +kernel)
  have q9 := hts (.fieldLink RX3 17 "Doubleline$Row" "size" "I") (by decide +kernel)
  have hl := lv_entry ([.ref h0]) (n := 1) (Nat.le_of_ble_eq_true rfl)
  rw [lg_entry_eq]
  generalize (lg_sl ([.ref h0]) ++ List.replicate (1 - (lg_sl ([.ref h0])).length) Slot.unset).toArray = ls at hl ⊢
  have hl : lv_has ls 1 [(0, .ref h0)] := hl
  refine lv_aload_n hx hb dX3_init_0 rfl (lv_at hl 0 rfl) ?_
  refine W.objInit hx hb hown q1 q2 q3 rfl (by rw [hml]; exact hl.1) rfl dX3_init_1 (Nat.le_of_ble_eq_true rfl) (Nat.le_of_ble_eq_true rfl) ?_
  refine W.eq (g2 := F0 m 4 ls []) rfl ?_
  refine lv_aload_n hx hb dX3_init_4 rfl (lv_at hl 0 rfl) ?_
  refine lv_bipush (v := 40) hx hb dX3_init_5 (by decide) ?_
  refine my_newaC hx hb q4 hK (t0 := 0) rfl hP hD hS hA (N := 40) (by decide) rfl (by decide) (Nat.le_of_ble_eq_true rfl) (Nat.le_of_ble_eq_true rfl) dX3_init_7 (fun b1 H hP hD hS => ?_)
  have hP : va_P D vwCl [(h0, .inr (3, [.null, .null, .int 0])), (b1, .inl (cC, 40, .inl (fun _ => 0)))] H := hP
  have hD : va_D A [(h0, .inr (3, [.null, .null, .int 0])), (b1, .inl (cC, 40, .inl (fun _ => 0)))] := hD
  refine va_putF (D := D) (ci := 3) (v := .ref b1) (ty := (.array .char)) (C := RX3) (T := TX3) (N := 3) hx hb hts q6 tyX3 tyX3_ok nmX3 hown hK hP hD hS 0 rfl rfl 0 (by decide) q5 (fun _ h9 => h9) rfl hin rfl (by decide +kernel) rfl rfl (Nat.le_of_ble_eq_true rfl) dX3_init_9 (fun H locs hP hD hS => ?_)
  have hP : va_P D vwCl [(h0, .inr (3, [.ref b1, .null, .int 0])), (b1, .inl (cC, 40, .inl (fun _ => 0)))] H := hP
  have hD : va_D A [(h0, .inr (3, [.ref b1, .null, .int 0])), (b1, .inl (cC, 40, .inl (fun _ => 0)))] := hD
  refine lv_aload_n hx hb dX3_init_12 rfl (lv_at hl 0 rfl) ?_
  refine lv_bipush (v := 40) hx hb dX3_init_13 (by decide) ?_
  refine my_newaI hx hb q7 hK (t0 := 1) rfl hP hD hS hA (N := 40) (by decide) rfl (by decide) (Nat.le_of_ble_eq_true rfl) (Nat.le_of_ble_eq_true rfl) dX3_init_15 (fun b2 H hP hD hS => ?_)
  have hP : va_P D vwCl [(h0, .inr (3, [.ref b1, .null, .int 0])), (b1, .inl (cC, 40, .inl (fun _ => 0))), (b2, .inl (cI, 40, .inl (fun _ => 0)))] H := hP
  have hD : va_D A [(h0, .inr (3, [.ref b1, .null, .int 0])), (b1, .inl (cC, 40, .inl (fun _ => 0))), (b2, .inl (cI, 40, .inl (fun _ => 0)))] := hD
  refine va_putF (D := D) (ci := 3) (v := .ref b2) (ty := (.array .int)) (C := RX3) (T := TX3) (N := 3) hx hb hts q6 tyX3 tyX3_ok nmX3 hown hK hP hD hS 0 rfl rfl 1 (by decide) q8 (fun _ h9 => h9) rfl hin rfl (by decide +kernel) rfl rfl (Nat.le_of_ble_eq_true rfl) dX3_init_17 (fun H locs hP hD hS => ?_)
  have hP : va_P D vwCl [(h0, .inr (3, [.ref b1, .ref b2, .int 0])), (b1, .inl (cC, 40, .inl (fun _ => 0))), (b2, .inl (cI, 40, .inl (fun _ => 0)))] H := hP
  have hD : va_D A [(h0, .inr (3, [.ref b1, .ref b2, .int 0])), (b1, .inl (cC, 40, .inl (fun _ => 0))), (b2, .inl (cI, 40, .inl (fun _ => 0)))] := hD
  refine lv_aload_n hx hb dX3_init_20 rfl (lv_at hl 0 rfl) ?_
  refine lv_iconst (v := 0) hx hb dX3_init_21 (by decide) ?_
  refine va_put (D := D) (ci := 3) (v := .int 0) (ty := .int) (C := RX3) (T := TX3) (N := 3) hx hb hts q6 tyX3 tyX3_ok nmX3 hown hK hP hD hS 0 rfl rfl 2 (by decide) q9 (fun _ h9 => h9) rfl (by decide +kernel) rfl rfl (Nat.le_of_ble_eq_true rfl) dX3_init_22 (fun H locs hP hD hS => ?_)
  have hP : va_P D vwCl [(h0, .inr (3, [.ref b1, .ref b2, .int 0])), (b1, .inl (cC, 40, .inl (fun _ => 0))), (b2, .inl (cI, 40, .inl (fun _ => 0)))] H := hP
  have hD : va_D A [(h0, .inr (3, [.ref b1, .ref b2, .int 0])), (b1, .inl (cC, 40, .inl (fun _ => 0))), (b2, .inl (cI, 40, .inl (fun _ => 0)))] := hD
  have hP9 : va_P D vwCl (wR cC cI h0 b1 b2 zRX3) _ := hP.sub [0, 1, 2] rfl
  have hD9 : va_D A (wR cC cI h0 b1 b2 zRX3) := hD.sub [0, 1, 2] (by decide) rfl
  exact W.vret hx hb hr (fun t ht hW => ⟨⟨(b1, b2), rfl, trivial, by rw [ht]; exact hP9, va_K.moved hW.alike hK, hD9⟩, hS.F ht⟩) hS.2.2 dX3_init_25

set_option maxHeartbeats 4000000 in
set_option maxRecDepth 100000 in
theorem m_X5_init (l : Launch) (D : va_G) (cC cI cJ : ClassId) (h0 : Nat) (sz : Nat) : Met l yX5_init wsX5_init rmX5_init (my_PcM D vwCl (KT cC cI cJ) sz [(h0, .inr (4, [.null, .null, .null]))] [.ref h0]) (va_Qv (fun (_ : Nat × Nat × Nat × Nat × Nat × Nat × Nat) => True) (my_B D vwCl (KT cC cI cJ) (va_A [(h0, .inr (4, [.null, .null, .null]))] sz) (fun v : Nat × Nat × Nat × Nat × Nat × Nat × Nat => (wX cC cI cJ h0 v.1 v.2.1 v.2.2.1 v.2.2.2.1 v.2.2.2.2.1 v.2.2.2.2.2.1 v.2.2.2.2.2.2 zRX5))) (va_A [(h0, .inr (4, [.null, .null, .null]))] sz)) 7 111 (va_A [(h0, .inr (4, [.null, .null, .null]))] sz) := by
  refine Met.ofW (cc := cX5_init) (maxL := 1) (ret := none) (by decide) rfl ?_
  intro p e s m args below meth c s₁ B hml hv
  obtain ⟨rfl, hsz, hP, hK, hD0⟩ := hv
  have hx := B.exec
  have hb := B.bytes
  have hr := B.returns
  have hts : ∀ w ∈ wsX5_init, w.before ([.ref h0] : List Value).toArray s = true := atoms_spec (ws := wsX5_init) B.pre
  have hown : s.vm.findClass RX5 = some m.cls := findClass_of_methodNamed B.named
  have hlk : meth.locks = false := B.notSynchronized
  subst hsz
  have hin : meth.name = "<init>" := (name_of_methodNamed B.named B.method).1
  have hD := hD0.self (sz := s.heap.size)
  generalize hAe : va_A [(h0, .inr (4, [.null, .null, .null]))] s.heap.size = A at hD ⊢
  have hA : ∀ q : Nat, s.heap.size ≤ q → A q := fun q h => by rw [← hAe]; exact Or.inr h
  have hS : va_S A s.heap s.heap [] := va_S.rf
  have q1 := hts (.methodLink RX5 1 objectInit) (by decide +kernel)
  have q2 := hts (.instanceMethod objectInit) (by decide +kernel)
  have q3 := hts (.code objectInit ⟨#[0xb1]⟩ 1 none) (by decide +kernel)
  have q4 := hts (.arrayClass .long) (by decide +kernel)
  have q5 := hts (.fieldLink RX5 9 "Doubleline" "slots" "[J") (by decide +kernel)
  have q6 : ∀ w ∈ u_ws RX5 TX5 3, w ∈ wsX5_init := by decide +kernel
  have q7 := hts (.classLink RX5 13 RX3) (by decide +kernel)
  have q8 := hts (.instantiable RX3 3) (by decide +kernel)
  have q9 := hts (.initialized RX3) (by decide +kernel)
  have q10 : ∀ w ∈ u_ws RX3 TX3 3, w ∈ wsX5_init := by decide +kernel
  have q11 := hts (.methodLink RX5 15 yX3_init) (by decide +kernel)
  have q12 := hts (.instanceMethod yX3_init) (by decide +kernel)
  have q13 := hts (.fieldLink RX5 16 "Doubleline" "row" "LDoubleline$Row;") (by decide +kernel)
  have q14 := hts (.classLink RX5 20 RX2) (by decide +kernel)
  have q15 := hts (.instantiable RX2 4) (by decide +kernel)
  have q16 := hts (.initialized RX2) (by decide +kernel)
  have q17 : ∀ w ∈ u_ws RX2 TX2 4, w ∈ wsX5_init := by decide +kernel
  have q18 := hts (.methodLink RX5 22 yX2_init) (by decide +kernel)
  have q19 := hts (.instanceMethod yX2_init) (by decide +kernel)
  have q20 := hts (.fieldLink RX5 23 "Doubleline" "past" "LDoubleline$Past;") (by decide +kernel)
  have hl := lv_entry ([.ref h0]) (n := 1) (Nat.le_of_ble_eq_true rfl)
  rw [lg_entry_eq]
  generalize (lg_sl ([.ref h0]) ++ List.replicate (1 - (lg_sl ([.ref h0])).length) Slot.unset).toArray = ls at hl ⊢
  have hl : lv_has ls 1 [(0, .ref h0)] := hl
  refine lv_aload_n hx hb dX5_init_0 rfl (lv_at hl 0 rfl) ?_
  refine W.objInit hx hb hown q1 q2 q3 rfl (by rw [hml]; exact hl.1) rfl dX5_init_1 (Nat.le_of_ble_eq_true rfl) (Nat.le_of_ble_eq_true rfl) ?_
  refine W.eq (g2 := F0 m 4 ls []) rfl ?_
  refine lv_aload_n hx hb dX5_init_4 rfl (lv_at hl 0 rfl) ?_
  refine lv_bipush (v := 8) hx hb dX5_init_5 (by decide) ?_
  refine my_newaJ hx hb q4 hK (t0 := 2) rfl hP hD hS hA (N := 8) (by decide) rfl (by decide) (Nat.le_of_ble_eq_true rfl) (Nat.le_of_ble_eq_true rfl) dX5_init_7 (fun b1 H hP hD hS => ?_)
  have hP : va_P D vwCl [(h0, .inr (4, [.null, .null, .null])), (b1, .inl (cJ, 8, .inr (.inl (fun _ => 0))))] H := hP
  have hD : va_D A [(h0, .inr (4, [.null, .null, .null])), (b1, .inl (cJ, 8, .inr (.inl (fun _ => 0))))] := hD
  refine va_putF (D := D) (ci := 4) (v := .ref b1) (ty := (.array .long)) (C := RX5) (T := TX5) (N := 3) hx hb hts q6 tyX5 tyX5_ok nmX5 hown hK hP hD hS 0 rfl rfl 0 (by decide) q5 (fun _ h9 => h9) rfl hin rfl (by decide +kernel) rfl rfl (Nat.le_of_ble_eq_true rfl) dX5_init_9 (fun H locs hP hD hS => ?_)
  have hP : va_P D vwCl [(h0, .inr (4, [.ref b1, .null, .null])), (b1, .inl (cJ, 8, .inr (.inl (fun _ => 0))))] H := hP
  have hD : va_D A [(h0, .inr (4, [.ref b1, .null, .null])), (b1, .inl (cJ, 8, .inr (.inl (fun _ => 0))))] := hD
  refine lv_aload_n hx hb dX5_init_12 rfl (lv_at hl 0 rfl) ?_
  refine va_new (ci := 3) (fs := [.null, .null, .int 0]) (C := RX3) (T := TX3) (N := 3) hx hb hts q10 tyX3 tyX3_ok hown q7 q8 q9 hK hP hD hS hA rfl (fun j hj => by rcases (show j = 0 ∨ j = 1 ∨ j = 2 by omega) with rfl | rfl | rfl <;> rfl) (Nat.le_of_ble_eq_true rfl) (Nat.le_of_ble_eq_true rfl) dX5_init_13 (fun b2 H hP hD hS => ?_)
  have hP : va_P D vwCl [(h0, .inr (4, [.ref b1, .null, .null])), (b1, .inl (cJ, 8, .inr (.inl (fun _ => 0)))), (b2, .inr (3, [.null, .null, .int 0]))] H := hP
  have hD : va_D A [(h0, .inr (4, [.ref b1, .null, .null])), (b1, .inl (cJ, 8, .inr (.inl (fun _ => 0)))), (b2, .inr (3, [.null, .null, .int 0]))] := hD
  refine lv_dup hx hb dX5_init_16 rfl ?_
  refine my_callI (As := []) (n := 0) (rest := [.ref b2, .ref h0]) (wc := [(b2, .inr (3, [.null, .null, .int 0]))]) (wr := [(h0, .inr (4, [.ref b1, .null, .null])), (b1, .inl (cJ, 8, .inr (.inl (fun _ => 0))))]) ⟨hx, hb, hml, hown, hts⟩ hK hP hD hS hA [2] [0, 1] rfl rfl (by decide) (by decide) (by decide) (m_X3_init l D cC cI cJ b2 H.size) gX5_init_X3_init rfl ⟨rfl, rfl⟩ q9 q11 q12 rfl (by decide +kernel) ⟨Nat.le_of_ble_eq_true rfl, Nat.le_of_ble_eq_true rfl⟩ ⟨Nat.le_of_ble_eq_true rfl, Nat.le_of_ble_eq_true rfl⟩ hl.1 rfl rfl (Nat.le_of_ble_eq_true rfl) dX5_init_17 (fun u9 H locs hw hP hD hS => ?_)
  obtain ⟨b3, b4⟩ := u9
  have hP : va_P D vwCl [(h0, .inr (4, [.ref b1, .null, .null])), (b1, .inl (cJ, 8, .inr (.inl (fun _ => 0)))), (b2, .inr (3, [.ref b3, .ref b4, .int zRX3.2.2])), (b3, .inl (cC, 40, .inl zRX3.1)), (b4, .inl (cI, 40, .inl zRX3.2.1))] H := hP
  have hD : va_D A [(h0, .inr (4, [.ref b1, .null, .null])), (b1, .inl (cJ, 8, .inr (.inl (fun _ => 0)))), (b2, .inr (3, [.ref b3, .ref b4, .int zRX3.2.2])), (b3, .inl (cC, 40, .inl zRX3.1)), (b4, .inl (cI, 40, .inl zRX3.2.1))] := hD
  refine va_putF (D := D) (ci := 4) (v := .ref b2) (ty := (.object "Doubleline$Row")) (C := RX5) (T := TX5) (N := 3) hx hb hts q6 tyX5 tyX5_ok nmX5 hown hK hP hD hS 0 rfl rfl 1 (by decide) q13 (fun _ h9 => h9) rfl hin rfl (by decide +kernel) rfl rfl (Nat.le_of_ble_eq_true rfl) dX5_init_20 (fun H locs hP hD hS => ?_)
  have hP : va_P D vwCl [(h0, .inr (4, [.ref b1, .ref b2, .null])), (b1, .inl (cJ, 8, .inr (.inl (fun _ => 0)))), (b2, .inr (3, [.ref b3, .ref b4, .int zRX3.2.2])), (b3, .inl (cC, 40, .inl zRX3.1)), (b4, .inl (cI, 40, .inl zRX3.2.1))] H := hP
  have hD : va_D A [(h0, .inr (4, [.ref b1, .ref b2, .null])), (b1, .inl (cJ, 8, .inr (.inl (fun _ => 0)))), (b2, .inr (3, [.ref b3, .ref b4, .int zRX3.2.2])), (b3, .inl (cC, 40, .inl zRX3.1)), (b4, .inl (cI, 40, .inl zRX3.2.1))] := hD
  refine lv_aload_n hx hb dX5_init_23 rfl (lv_at hl 0 rfl) ?_
  refine va_new (ci := 2) (fs := [.null, .null, .int 0, .int 0]) (C := RX2) (T := TX2) (N := 4) hx hb hts q17 tyX2 tyX2_ok hown q14 q15 q16 hK hP hD hS hA rfl (fun j hj => by rcases (show j = 0 ∨ j = 1 ∨ j = 2 ∨ j = 3 by omega) with rfl | rfl | rfl | rfl <;> rfl) (Nat.le_of_ble_eq_true rfl) (Nat.le_of_ble_eq_true rfl) dX5_init_24 (fun b5 H hP hD hS => ?_)
  have hP : va_P D vwCl [(h0, .inr (4, [.ref b1, .ref b2, .null])), (b1, .inl (cJ, 8, .inr (.inl (fun _ => 0)))), (b2, .inr (3, [.ref b3, .ref b4, .int zRX3.2.2])), (b3, .inl (cC, 40, .inl zRX3.1)), (b4, .inl (cI, 40, .inl zRX3.2.1)), (b5, .inr (2, [.null, .null, .int 0, .int 0]))] H := hP
  have hD : va_D A [(h0, .inr (4, [.ref b1, .ref b2, .null])), (b1, .inl (cJ, 8, .inr (.inl (fun _ => 0)))), (b2, .inr (3, [.ref b3, .ref b4, .int zRX3.2.2])), (b3, .inl (cC, 40, .inl zRX3.1)), (b4, .inl (cI, 40, .inl zRX3.2.1)), (b5, .inr (2, [.null, .null, .int 0, .int 0]))] := hD
  refine lv_dup hx hb dX5_init_27 rfl ?_
  refine my_callI (As := []) (n := 0) (rest := [.ref b5, .ref h0]) (wc := [(b5, .inr (2, [.null, .null, .int 0, .int 0]))]) (wr := [(h0, .inr (4, [.ref b1, .ref b2, .null])), (b1, .inl (cJ, 8, .inr (.inl (fun _ => 0)))), (b2, .inr (3, [.ref b3, .ref b4, .int zRX3.2.2])), (b3, .inl (cC, 40, .inl zRX3.1)), (b4, .inl (cI, 40, .inl zRX3.2.1))]) ⟨hx, hb, hml, hown, hts⟩ hK hP hD hS hA [5] [0, 1, 2, 3, 4] rfl rfl (by decide) (by decide) (by decide) (m_X2_init l D cC cI cJ b5 H.size) gX5_init_X2_init rfl ⟨rfl, rfl⟩ q16 q18 q19 rfl (by decide +kernel) ⟨Nat.le_of_ble_eq_true rfl, Nat.le_of_ble_eq_true rfl⟩ ⟨Nat.le_of_ble_eq_true rfl, Nat.le_of_ble_eq_true rfl⟩ hl.1 rfl rfl (Nat.le_of_ble_eq_true rfl) dX5_init_28 (fun u9 H locs hw hP hD hS => ?_)
  obtain ⟨b6, b7⟩ := u9
  have hP : va_P D vwCl [(h0, .inr (4, [.ref b1, .ref b2, .null])), (b1, .inl (cJ, 8, .inr (.inl (fun _ => 0)))), (b2, .inr (3, [.ref b3, .ref b4, .int zRX3.2.2])), (b3, .inl (cC, 40, .inl zRX3.1)), (b4, .inl (cI, 40, .inl zRX3.2.1)), (b5, .inr (2, [.ref b6, .ref b7, .int zRX2.2.2.1, .int zRX2.2.2.2])), (b6, .inl (cI, 8, .inl zRX2.1)), (b7, .inl (cJ, 8, .inr (.inl zRX2.2.1)))] H := hP
  have hD : va_D A [(h0, .inr (4, [.ref b1, .ref b2, .null])), (b1, .inl (cJ, 8, .inr (.inl (fun _ => 0)))), (b2, .inr (3, [.ref b3, .ref b4, .int zRX3.2.2])), (b3, .inl (cC, 40, .inl zRX3.1)), (b4, .inl (cI, 40, .inl zRX3.2.1)), (b5, .inr (2, [.ref b6, .ref b7, .int zRX2.2.2.1, .int zRX2.2.2.2])), (b6, .inl (cI, 8, .inl zRX2.1)), (b7, .inl (cJ, 8, .inr (.inl zRX2.2.1)))] := hD
  refine va_putF (D := D) (ci := 4) (v := .ref b5) (ty := (.object "Doubleline$Past")) (C := RX5) (T := TX5) (N := 3) hx hb hts q6 tyX5 tyX5_ok nmX5 hown hK hP hD hS 0 rfl rfl 2 (by decide) q20 (fun _ h9 => h9) rfl hin rfl (by decide +kernel) rfl rfl (Nat.le_of_ble_eq_true rfl) dX5_init_31 (fun H locs hP hD hS => ?_)
  have hP : va_P D vwCl [(h0, .inr (4, [.ref b1, .ref b2, .ref b5])), (b1, .inl (cJ, 8, .inr (.inl (fun _ => 0)))), (b2, .inr (3, [.ref b3, .ref b4, .int zRX3.2.2])), (b3, .inl (cC, 40, .inl zRX3.1)), (b4, .inl (cI, 40, .inl zRX3.2.1)), (b5, .inr (2, [.ref b6, .ref b7, .int zRX2.2.2.1, .int zRX2.2.2.2])), (b6, .inl (cI, 8, .inl zRX2.1)), (b7, .inl (cJ, 8, .inr (.inl zRX2.2.1)))] H := hP
  have hD : va_D A [(h0, .inr (4, [.ref b1, .ref b2, .ref b5])), (b1, .inl (cJ, 8, .inr (.inl (fun _ => 0)))), (b2, .inr (3, [.ref b3, .ref b4, .int zRX3.2.2])), (b3, .inl (cC, 40, .inl zRX3.1)), (b4, .inl (cI, 40, .inl zRX3.2.1)), (b5, .inr (2, [.ref b6, .ref b7, .int zRX2.2.2.1, .int zRX2.2.2.2])), (b6, .inl (cI, 8, .inl zRX2.1)), (b7, .inl (cJ, 8, .inr (.inl zRX2.2.1)))] := hD
  have hP9 : va_P D vwCl (wX cC cI cJ h0 b1 b2 b3 b4 b5 b6 b7 zRX5) _ := hP.sub [0, 1, 2, 3, 4, 5, 6, 7] rfl
  have hD9 : va_D A (wX cC cI cJ h0 b1 b2 b3 b4 b5 b6 b7 zRX5) := hD.sub [0, 1, 2, 3, 4, 5, 6, 7] (by decide) rfl
  exact W.vret hx hb hr (fun t ht hW => ⟨⟨(b1, b2, b3, b4, b5, b6, b7), rfl, trivial, by rw [ht]; exact hP9, va_K.moved hW.alike hK, hD9⟩, hS.F ht⟩) hS.2.2 dX5_init_34

set_option maxHeartbeats 4000000 in
set_option maxRecDepth 100000 in
theorem m_X6_init (l : Launch) (D : va_G) (cC cI cJ : ClassId) (h0 : Nat) (sz : Nat) : Met l yX6_init wsX6_init rmX6_init (my_PcM D vwCl (KT cC cI cJ) sz [(h0, .inr (5, [.null, .null, .null, .int 0, .null, .null, .int 0, .int 0]))] [.ref h0]) (va_Qv (fun (_ : Nat × Nat × Nat × Nat × Nat) => True) (my_B D vwCl (KT cC cI cJ) (va_A [(h0, .inr (5, [.null, .null, .null, .int 0, .null, .null, .int 0, .int 0]))] sz) (fun v : Nat × Nat × Nat × Nat × Nat => (wM cC cI cJ h0 v.1 v.2.1 v.2.2.1 v.2.2.2.1 v.2.2.2.2 zRX6))) (va_A [(h0, .inr (5, [.null, .null, .null, .int 0, .null, .null, .int 0, .int 0]))] sz)) 5 104 (va_A [(h0, .inr (5, [.null, .null, .null, .int 0, .null, .null, .int 0, .int 0]))] sz) := by
  refine Met.ofW (cc := cX6_init) (maxL := 1) (ret := none) (by decide) rfl ?_
  intro p e s m args below meth c s₁ B hml hv
  obtain ⟨rfl, hsz, hP, hK, hD0⟩ := hv
  have hx := B.exec
  have hb := B.bytes
  have hr := B.returns
  have hts : ∀ w ∈ wsX6_init, w.before ([.ref h0] : List Value).toArray s = true := atoms_spec (ws := wsX6_init) B.pre
  have hown : s.vm.findClass RX6 = some m.cls := findClass_of_methodNamed B.named
  have hlk : meth.locks = false := B.notSynchronized
  subst hsz
  have hin : meth.name = "<init>" := (name_of_methodNamed B.named B.method).1
  have hD := hD0.self (sz := s.heap.size)
  generalize hAe : va_A [(h0, .inr (5, [.null, .null, .null, .int 0, .null, .null, .int 0, .int 0]))] s.heap.size = A at hD ⊢
  have hA : ∀ q : Nat, s.heap.size ≤ q → A q := fun q h => by rw [← hAe]; exact Or.inr h
  have hS : va_S A s.heap s.heap [] := va_S.rf
  have q1 := hts (.methodLink RX6 1 objectInit) (by decide +kernel)
  have q2 := hts (.instanceMethod objectInit) (by decide +kernel)
  have q3 := hts (.code objectInit ⟨#[0xb1]⟩ 1 none) (by decide +kernel)
  have q4 := hts (.arrayClass .long) (by decide +kernel)
  have q5 := hts (.fieldLink RX6 9 "DoublelineModel" "codes" "[J") (by decide +kernel)
  have q6 : ∀ w ∈ u_ws RX6 TX6 8, w ∈ wsX6_init := by decide +kernel
  have q7 := hts (.arrayClass .int) (by decide +kernel)
  have q8 := hts (.fieldLink RX6 13 "DoublelineModel" "keptSlots" "[I") (by decide +kernel)
  have q9 := hts (.fieldLink RX6 17 "DoublelineModel" "keptCodes" "[J") (by decide +kernel)
  have q10 := hts (.arrayClass .char) (by decide +kernel)
  have q11 := hts (.fieldLink RX6 20 "DoublelineModel" "kinds" "[C") (by decide +kernel)
  have q12 := hts (.fieldLink RX6 24 "DoublelineModel" "counts" "[I") (by decide +kernel)
  have hl := lv_entry ([.ref h0]) (n := 1) (Nat.le_of_ble_eq_true rfl)
  rw [lg_entry_eq]
  generalize (lg_sl ([.ref h0]) ++ List.replicate (1 - (lg_sl ([.ref h0])).length) Slot.unset).toArray = ls at hl ⊢
  have hl : lv_has ls 1 [(0, .ref h0)] := hl
  refine lv_aload_n hx hb dX6_init_0 rfl (lv_at hl 0 rfl) ?_
  refine W.objInit hx hb hown q1 q2 q3 rfl (by rw [hml]; exact hl.1) rfl dX6_init_1 (Nat.le_of_ble_eq_true rfl) (Nat.le_of_ble_eq_true rfl) ?_
  refine W.eq (g2 := F0 m 4 ls []) rfl ?_
  refine lv_aload_n hx hb dX6_init_4 rfl (lv_at hl 0 rfl) ?_
  refine lv_bipush (v := 8) hx hb dX6_init_5 (by decide) ?_
  refine my_newaJ hx hb q4 hK (t0 := 2) rfl hP hD hS hA (N := 8) (by decide) rfl (by decide) (Nat.le_of_ble_eq_true rfl) (Nat.le_of_ble_eq_true rfl) dX6_init_7 (fun b1 H hP hD hS => ?_)
  have hP : va_P D vwCl [(h0, .inr (5, [.null, .null, .null, .int 0, .null, .null, .int 0, .int 0])), (b1, .inl (cJ, 8, .inr (.inl (fun _ => 0))))] H := hP
  have hD : va_D A [(h0, .inr (5, [.null, .null, .null, .int 0, .null, .null, .int 0, .int 0])), (b1, .inl (cJ, 8, .inr (.inl (fun _ => 0))))] := hD
  refine va_putF (D := D) (ci := 5) (v := .ref b1) (ty := (.array .long)) (C := RX6) (T := TX6) (N := 8) hx hb hts q6 tyX6 tyX6_ok nmX6 hown hK hP hD hS 0 rfl rfl 0 (by decide) q5 (fun _ h9 => h9) rfl hin rfl (by decide +kernel) rfl rfl (Nat.le_of_ble_eq_true rfl) dX6_init_9 (fun H locs hP hD hS => ?_)
  have hP : va_P D vwCl [(h0, .inr (5, [.ref b1, .null, .null, .int 0, .null, .null, .int 0, .int 0])), (b1, .inl (cJ, 8, .inr (.inl (fun _ => 0))))] H := hP
  have hD : va_D A [(h0, .inr (5, [.ref b1, .null, .null, .int 0, .null, .null, .int 0, .int 0])), (b1, .inl (cJ, 8, .inr (.inl (fun _ => 0))))] := hD
  refine lv_aload_n hx hb dX6_init_12 rfl (lv_at hl 0 rfl) ?_
  refine lv_bipush (v := 8) hx hb dX6_init_13 (by decide) ?_
  refine my_newaI hx hb q7 hK (t0 := 1) rfl hP hD hS hA (N := 8) (by decide) rfl (by decide) (Nat.le_of_ble_eq_true rfl) (Nat.le_of_ble_eq_true rfl) dX6_init_15 (fun b2 H hP hD hS => ?_)
  have hP : va_P D vwCl [(h0, .inr (5, [.ref b1, .null, .null, .int 0, .null, .null, .int 0, .int 0])), (b1, .inl (cJ, 8, .inr (.inl (fun _ => 0)))), (b2, .inl (cI, 8, .inl (fun _ => 0)))] H := hP
  have hD : va_D A [(h0, .inr (5, [.ref b1, .null, .null, .int 0, .null, .null, .int 0, .int 0])), (b1, .inl (cJ, 8, .inr (.inl (fun _ => 0)))), (b2, .inl (cI, 8, .inl (fun _ => 0)))] := hD
  refine va_putF (D := D) (ci := 5) (v := .ref b2) (ty := (.array .int)) (C := RX6) (T := TX6) (N := 8) hx hb hts q6 tyX6 tyX6_ok nmX6 hown hK hP hD hS 0 rfl rfl 1 (by decide) q8 (fun _ h9 => h9) rfl hin rfl (by decide +kernel) rfl rfl (Nat.le_of_ble_eq_true rfl) dX6_init_17 (fun H locs hP hD hS => ?_)
  have hP : va_P D vwCl [(h0, .inr (5, [.ref b1, .ref b2, .null, .int 0, .null, .null, .int 0, .int 0])), (b1, .inl (cJ, 8, .inr (.inl (fun _ => 0)))), (b2, .inl (cI, 8, .inl (fun _ => 0)))] H := hP
  have hD : va_D A [(h0, .inr (5, [.ref b1, .ref b2, .null, .int 0, .null, .null, .int 0, .int 0])), (b1, .inl (cJ, 8, .inr (.inl (fun _ => 0)))), (b2, .inl (cI, 8, .inl (fun _ => 0)))] := hD
  refine lv_aload_n hx hb dX6_init_20 rfl (lv_at hl 0 rfl) ?_
  refine lv_bipush (v := 8) hx hb dX6_init_21 (by decide) ?_
  refine my_newaJ hx hb q4 hK (t0 := 2) rfl hP hD hS hA (N := 8) (by decide) rfl (by decide) (Nat.le_of_ble_eq_true rfl) (Nat.le_of_ble_eq_true rfl) dX6_init_23 (fun b3 H hP hD hS => ?_)
  have hP : va_P D vwCl [(h0, .inr (5, [.ref b1, .ref b2, .null, .int 0, .null, .null, .int 0, .int 0])), (b1, .inl (cJ, 8, .inr (.inl (fun _ => 0)))), (b2, .inl (cI, 8, .inl (fun _ => 0))), (b3, .inl (cJ, 8, .inr (.inl (fun _ => 0))))] H := hP
  have hD : va_D A [(h0, .inr (5, [.ref b1, .ref b2, .null, .int 0, .null, .null, .int 0, .int 0])), (b1, .inl (cJ, 8, .inr (.inl (fun _ => 0)))), (b2, .inl (cI, 8, .inl (fun _ => 0))), (b3, .inl (cJ, 8, .inr (.inl (fun _ => 0))))] := hD
  refine va_putF (D := D) (ci := 5) (v := .ref b3) (ty := (.array .long)) (C := RX6) (T := TX6) (N := 8) hx hb hts q6 tyX6 tyX6_ok nmX6 hown hK hP hD hS 0 rfl rfl 2 (by decide) q9 (fun _ h9 => h9) rfl hin rfl (by decide +kernel) rfl rfl (Nat.le_of_ble_eq_true rfl) dX6_init_25 (fun H locs hP hD hS => ?_)
  have hP : va_P D vwCl [(h0, .inr (5, [.ref b1, .ref b2, .ref b3, .int 0, .null, .null, .int 0, .int 0])), (b1, .inl (cJ, 8, .inr (.inl (fun _ => 0)))), (b2, .inl (cI, 8, .inl (fun _ => 0))), (b3, .inl (cJ, 8, .inr (.inl (fun _ => 0))))] H := hP
  have hD : va_D A [(h0, .inr (5, [.ref b1, .ref b2, .ref b3, .int 0, .null, .null, .int 0, .int 0])), (b1, .inl (cJ, 8, .inr (.inl (fun _ => 0)))), (b2, .inl (cI, 8, .inl (fun _ => 0))), (b3, .inl (cJ, 8, .inr (.inl (fun _ => 0))))] := hD
  refine lv_aload_n hx hb dX6_init_28 rfl (lv_at hl 0 rfl) ?_
  refine lv_bipush (v := 40) hx hb dX6_init_29 (by decide) ?_
  refine my_newaC hx hb q10 hK (t0 := 0) rfl hP hD hS hA (N := 40) (by decide) rfl (by decide) (Nat.le_of_ble_eq_true rfl) (Nat.le_of_ble_eq_true rfl) dX6_init_31 (fun b4 H hP hD hS => ?_)
  have hP : va_P D vwCl [(h0, .inr (5, [.ref b1, .ref b2, .ref b3, .int 0, .null, .null, .int 0, .int 0])), (b1, .inl (cJ, 8, .inr (.inl (fun _ => 0)))), (b2, .inl (cI, 8, .inl (fun _ => 0))), (b3, .inl (cJ, 8, .inr (.inl (fun _ => 0)))), (b4, .inl (cC, 40, .inl (fun _ => 0)))] H := hP
  have hD : va_D A [(h0, .inr (5, [.ref b1, .ref b2, .ref b3, .int 0, .null, .null, .int 0, .int 0])), (b1, .inl (cJ, 8, .inr (.inl (fun _ => 0)))), (b2, .inl (cI, 8, .inl (fun _ => 0))), (b3, .inl (cJ, 8, .inr (.inl (fun _ => 0)))), (b4, .inl (cC, 40, .inl (fun _ => 0)))] := hD
  refine va_putF (D := D) (ci := 5) (v := .ref b4) (ty := (.array .char)) (C := RX6) (T := TX6) (N := 8) hx hb hts q6 tyX6 tyX6_ok nmX6 hown hK hP hD hS 0 rfl rfl 4 (by decide) q11 (fun _ h9 => h9) rfl hin rfl (by decide +kernel) rfl rfl (Nat.le_of_ble_eq_true rfl) dX6_init_33 (fun H locs hP hD hS => ?_)
  have hP : va_P D vwCl [(h0, .inr (5, [.ref b1, .ref b2, .ref b3, .int 0, .ref b4, .null, .int 0, .int 0])), (b1, .inl (cJ, 8, .inr (.inl (fun _ => 0)))), (b2, .inl (cI, 8, .inl (fun _ => 0))), (b3, .inl (cJ, 8, .inr (.inl (fun _ => 0)))), (b4, .inl (cC, 40, .inl (fun _ => 0)))] H := hP
  have hD : va_D A [(h0, .inr (5, [.ref b1, .ref b2, .ref b3, .int 0, .ref b4, .null, .int 0, .int 0])), (b1, .inl (cJ, 8, .inr (.inl (fun _ => 0)))), (b2, .inl (cI, 8, .inl (fun _ => 0))), (b3, .inl (cJ, 8, .inr (.inl (fun _ => 0)))), (b4, .inl (cC, 40, .inl (fun _ => 0)))] := hD
  refine lv_aload_n hx hb dX6_init_36 rfl (lv_at hl 0 rfl) ?_
  refine lv_bipush (v := 40) hx hb dX6_init_37 (by decide) ?_
  refine my_newaI hx hb q7 hK (t0 := 1) rfl hP hD hS hA (N := 40) (by decide) rfl (by decide) (Nat.le_of_ble_eq_true rfl) (Nat.le_of_ble_eq_true rfl) dX6_init_39 (fun b5 H hP hD hS => ?_)
  have hP : va_P D vwCl [(h0, .inr (5, [.ref b1, .ref b2, .ref b3, .int 0, .ref b4, .null, .int 0, .int 0])), (b1, .inl (cJ, 8, .inr (.inl (fun _ => 0)))), (b2, .inl (cI, 8, .inl (fun _ => 0))), (b3, .inl (cJ, 8, .inr (.inl (fun _ => 0)))), (b4, .inl (cC, 40, .inl (fun _ => 0))), (b5, .inl (cI, 40, .inl (fun _ => 0)))] H := hP
  have hD : va_D A [(h0, .inr (5, [.ref b1, .ref b2, .ref b3, .int 0, .ref b4, .null, .int 0, .int 0])), (b1, .inl (cJ, 8, .inr (.inl (fun _ => 0)))), (b2, .inl (cI, 8, .inl (fun _ => 0))), (b3, .inl (cJ, 8, .inr (.inl (fun _ => 0)))), (b4, .inl (cC, 40, .inl (fun _ => 0))), (b5, .inl (cI, 40, .inl (fun _ => 0)))] := hD
  refine va_putF (D := D) (ci := 5) (v := .ref b5) (ty := (.array .int)) (C := RX6) (T := TX6) (N := 8) hx hb hts q6 tyX6 tyX6_ok nmX6 hown hK hP hD hS 0 rfl rfl 5 (by decide) q12 (fun _ h9 => h9) rfl hin rfl (by decide +kernel) rfl rfl (Nat.le_of_ble_eq_true rfl) dX6_init_41 (fun H locs hP hD hS => ?_)
  have hP : va_P D vwCl [(h0, .inr (5, [.ref b1, .ref b2, .ref b3, .int 0, .ref b4, .ref b5, .int 0, .int 0])), (b1, .inl (cJ, 8, .inr (.inl (fun _ => 0)))), (b2, .inl (cI, 8, .inl (fun _ => 0))), (b3, .inl (cJ, 8, .inr (.inl (fun _ => 0)))), (b4, .inl (cC, 40, .inl (fun _ => 0))), (b5, .inl (cI, 40, .inl (fun _ => 0)))] H := hP
  have hD : va_D A [(h0, .inr (5, [.ref b1, .ref b2, .ref b3, .int 0, .ref b4, .ref b5, .int 0, .int 0])), (b1, .inl (cJ, 8, .inr (.inl (fun _ => 0)))), (b2, .inl (cI, 8, .inl (fun _ => 0))), (b3, .inl (cJ, 8, .inr (.inl (fun _ => 0)))), (b4, .inl (cC, 40, .inl (fun _ => 0))), (b5, .inl (cI, 40, .inl (fun _ => 0)))] := hD
  have hP9 : va_P D vwCl (wM cC cI cJ h0 b1 b2 b3 b4 b5 zRX6) _ := hP.sub [0, 1, 2, 3, 4, 5] rfl
  have hD9 : va_D A (wM cC cI cJ h0 b1 b2 b3 b4 b5 zRX6) := hD.sub [0, 1, 2, 3, 4, 5] (by decide) rfl
  exact W.vret hx hb hr (fun t ht hW => ⟨⟨(b1, b2, b3, b4, b5), rfl, trivial, by rw [ht]; exact hP9, va_K.moved hW.alike hK, hD9⟩, hS.F ht⟩) hS.2.2 dX6_init_44
