set_option maxHeartbeats 4000000 in
set_option maxRecDepth 100000 in
theorem m_X2_isEmpty (l : Launch) (D : va_G) (cC cI cJ : ClassId) (h0 h1 h2 : Nat) (u : StP) (res : Bool) (hf : f_X2_isEmpty u = res) : Met l yX2_isEmpty wsX2_isEmpty rmX2_isEmpty (my_PcR D vwCl (KT cC cI cJ) (wP cI cJ h0 h1 h2 u) [.ref h0]) (vp_Si (fun z => z = b2i res)) 0 0 (fun _ => False) := by
  refine Met.ofW (cc := cX2_isEmpty) (maxL := 1) (ret := (some .boolean)) (by decide) rfl ?_
  intro p e s m args below meth c s₁ B hml hv
  obtain ⟨rfl, hP, hK⟩ := hv
  have hx := B.exec
  have hb := B.bytes
  have hr := B.returns
  have hts : ∀ w ∈ wsX2_isEmpty, w.before ([.ref h0] : List Value).toArray s = true := atoms_spec (ws := wsX2_isEmpty) B.pre
  have hown : s.vm.findClass RX2 = some m.cls := findClass_of_methodNamed B.named
  have hlk : meth.locks = false := B.notSynchronized
  have hP : va_P D vwCl [(h0, .inr (2, [.ref h1, .ref h2, .int u.2.2.1, .int u.2.2.2])), (h1, .inl (cI, 8, .inl u.1)), (h2, .inl (cJ, 8, .inr (.inl u.2.1)))] s.heap := hP
  have q1 := hts (.fieldLink RX2 21 "Doubleline$Past" "count" "I") (by decide +kernel)
  have q2 : ∀ w ∈ u_ws RX2 TX2 4, w ∈ wsX2_isEmpty := by decide +kernel
  have hl := lv_entry ([.ref h0]) (n := 1) (Nat.le_of_ble_eq_true rfl)
  rw [lg_entry_eq]
  generalize (lg_sl ([.ref h0]) ++ List.replicate (1 - (lg_sl ([.ref h0])).length) Slot.unset).toArray = ls at hl ⊢
  have hl : lv_has ls 1 [(0, .ref h0)] := hl
  unfold f_X2_isEmpty at hf
  refine lv_aload_n hx hb dX2_isEmpty_0 rfl (lv_at hl 0 rfl) ?_
  refine va_get (D := D) (ci := 2) (v := .int u.2.2.2) (C := RX2) (T := TX2) (N := 4) hx hb hts q2 hown hK hP 0 rfl rfl 3 (by decide) q1 (fun _ h9 => h9) rfl dX2_isEmpty_1 ?_
  refine my_if_ne (tgt := 11) hx hb dX2_isEmpty_4 (by decide) (fun c1 => ?_) (fun c1 => ?_)
  · rw [if_neg c1] at hf
    refine lv_iconst (v := 0) hx hb dX2_isEmpty_11 (by decide) ?_
    exact W.zret (v := b2i false) (ty := .boolean) hx hb hr (b2i_nar _) (fun t ht hW => ⟨_, rfl, congrArg b2i (hf), ht⟩) (fun q hq => absurd hq List.not_mem_nil) dX2_isEmpty_12
  · rw [if_pos c1] at hf
    refine lv_iconst (v := 1) hx hb dX2_isEmpty_7 (by decide) ?_
    refine lv_goto (tgt := 12) hx hb dX2_isEmpty_8 (by decide) ?_
    exact W.zret (v := b2i true) (ty := .boolean) hx hb hr (b2i_nar _) (fun t ht hW => ⟨_, rfl, congrArg b2i (hf), ht⟩) (fun q hq => absurd hq List.not_mem_nil) dX2_isEmpty_12

set_option maxHeartbeats 4000000 in
set_option maxRecDepth 100000 in
theorem m_X2_keep (l : Launch) (D : va_G) (cC cI cJ : ClassId) (h0 h1 h2 : Nat) (u : StP) (sz : Nat) (a0 : Int32) (a1 : Int64) (res : StP) (hf : f_X2_keep u a0 a1 = some res) : Met l yX2_keep wsX2_keep rmX2_keep (my_PcM D vwCl (KT cC cI cJ) sz (wP cI cJ h0 h1 h2 u) [.ref h0, .int a0, .long a1]) (va_Qv (fun v => v = res) (my_B D vwCl (KT cC cI cJ) (va_A (wP cI cJ h0 h1 h2 u) sz) (fun v : StP => (wP cI cJ h0 h1 h2 v))) (va_A (wP cI cJ h0 h1 h2 u) sz)) 0 0 (va_A (wP cI cJ h0 h1 h2 u) sz) := by
  refine Met.ofW (cc := cX2_keep) (maxL := 4) (ret := none) (by decide) rfl ?_
  intro p e s m args below meth c s₁ B hml hv
  obtain ⟨rfl, hsz, hP, hK, hD0⟩ := hv
  have hx := B.exec
  have hb := B.bytes
  have hr := B.returns
  have hts : ∀ w ∈ wsX2_keep, w.before ([.ref h0, .int a0, .long a1] : List Value).toArray s = true := atoms_spec (ws := wsX2_keep) B.pre
  have hown : s.vm.findClass RX2 = some m.cls := findClass_of_methodNamed B.named
  have hlk : meth.locks = false := B.notSynchronized
  subst hsz
  have hD := hD0.self (sz := s.heap.size)
  generalize hAe : va_A (wP cI cJ h0 h1 h2 u) s.heap.size = A at hD ⊢
  have hA : ∀ q : Nat, s.heap.size ≤ q → A q := fun q h => by rw [← hAe]; exact Or.inr h
  have hS : va_S A s.heap s.heap [] := va_S.rf
  have hP : va_P D vwCl [(h0, .inr (2, [.ref h1, .ref h2, .int u.2.2.1, .int u.2.2.2])), (h1, .inl (cI, 8, .inl u.1)), (h2, .inl (cJ, 8, .inr (.inl u.2.1)))] s.heap := hP
  have hD : va_D A [(h0, .inr (2, [.ref h1, .ref h2, .int u.2.2.1, .int u.2.2.2])), (h1, .inl (cI, 8, .inl u.1)), (h2, .inl (cJ, 8, .inr (.inl u.2.1)))] := hD
  have q1 := hts (.fieldLink RX2 17 "Doubleline$Past" "latest" "I") (by decide +kernel)
  have q2 : ∀ w ∈ u_ws RX2 TX2 4, w ∈ wsX2_keep := by decide +kernel
  have q3 := hts (.fieldLink RX2 9 "Doubleline$Past" "keptSlots" "[I") (by decide +kernel)
  have q4 := hts (.fieldLink RX2 13 "Doubleline$Past" "keptNumbers" "[J") (by decide +kernel)
  have q5 := hts (.fieldLink RX2 21 "Doubleline$Past" "count" "I") (by decide +kernel)
  have q6 := hts (.methodLink RX2 24 Lib.Math.min.name) (by decide +kernel)
  have q7 := hts (.static Lib.Math.min.name) (by decide +kernel)
  have q8 := hts (.initialized "java/lang/Math") (by decide +kernel)
  have q9 := hts (.code Lib.Math.min.name Lib.Math.min.code 2 (some .int)) (by decide +kernel)
  have hl := lv_entry ([.ref h0, .int a0, .long a1]) (n := 4) (Nat.le_of_ble_eq_true rfl)
  rw [lg_entry_eq]
  generalize (lg_sl ([.ref h0, .int a0, .long a1]) ++ List.replicate (4 - (lg_sl ([.ref h0, .int a0, .long a1])).length) Slot.unset).toArray = ls at hl ⊢
  have hl : lv_has ls 4 [(0, .ref h0), (1, .int a0), (2, .long a1)] := hl
  unfold f_X2_keep at hf
  refine lv_aload_n hx hb dX2_keep_0 rfl (lv_at hl 0 rfl) ?_
  refine lv_aload_n hx hb dX2_keep_1 rfl (lv_at hl 0 rfl) ?_
  refine va_get (D := D) (ci := 2) (v := .int u.2.2.1) (C := RX2) (T := TX2) (N := 4) hx hb hts q2 hown hK hP 0 rfl rfl 2 (by decide) q1 (fun _ h9 => h9) rfl dX2_keep_2 ?_
  refine lv_iconst (v := 1) hx hb dX2_keep_5 (by decide) ?_
  refine lv_iadd hx hb dX2_keep_6 ?_
  refine lv_bipush (v := 8) hx hb dX2_keep_7 (by decide) ?_
  refine lv_irem hx hb dX2_keep_9 (by decide) ?_
  refine va_put (D := D) (ci := 2) (v := .int ((u.2.2.1 + 1) - (u.2.2.1 + 1) / 8 * 8)) (ty := .int) (C := RX2) (T := TX2) (N := 4) hx hb hts q2 tyX2 tyX2_ok nmX2 hown hK hP hD hS 0 rfl rfl 2 (by decide) q1 (fun _ h9 => h9) rfl (by decide +kernel) rfl rfl (Nat.le_of_ble_eq_true rfl) dX2_keep_10 (fun H locs hP hD hS => ?_)
  have hP : va_P D vwCl [(h0, .inr (2, [.ref h1, .ref h2, .int ((u.2.2.1 + 1) - (u.2.2.1 + 1) / 8 * 8), .int u.2.2.2])), (h1, .inl (cI, 8, .inl u.1)), (h2, .inl (cJ, 8, .inr (.inl u.2.1)))] H := hP
  have hD : va_D A [(h0, .inr (2, [.ref h1, .ref h2, .int ((u.2.2.1 + 1) - (u.2.2.1 + 1) / 8 * 8), .int u.2.2.2])), (h1, .inl (cI, 8, .inl u.1)), (h2, .inl (cJ, 8, .inr (.inl u.2.1)))] := hD
  refine lv_aload_n hx hb dX2_keep_13 rfl (lv_at hl 0 rfl) ?_
  refine va_get (D := D) (ci := 2) (v := .ref h1) (C := RX2) (T := TX2) (N := 4) hx hb hts q2 hown hK hP 0 rfl rfl 0 (by decide) q3 (fun _ h9 => h9) rfl dX2_keep_14 ?_
  refine lv_aload_n hx hb dX2_keep_17 rfl (lv_at hl 0 rfl) ?_
  refine va_get (D := D) (ci := 2) (v := .int ((u.2.2.1 + 1) - (u.2.2.1 + 1) / 8 * 8)) (C := RX2) (T := TX2) (N := 4) hx hb hts q2 hown hK hP 0 rfl rfl 2 (by decide) q1 (fun _ h9 => h9) rfl dX2_keep_18 ?_
  refine lv_iload_n hx hb dX2_keep_21 rfl (lv_at hl 1 rfl) ?_
  obtain ⟨g1, hf⟩ := og_e hf
  refine va_iast hx hb hK hP hD hS 1 1 rfl rfl g1 dX2_keep_22 (fun H locs hP hD hS => ?_)
  have hP : va_P D vwCl [(h0, .inr (2, [.ref h1, .ref h2, .int ((u.2.2.1 + 1) - (u.2.2.1 + 1) / 8 * 8), .int u.2.2.2])), (h1, .inl (cI, 8, .inl (upd u.1 ((u.2.2.1 + 1) - (u.2.2.1 + 1) / 8 * 8).toNatClampNeg a0))), (h2, .inl (cJ, 8, .inr (.inl u.2.1)))] H := hP
  have hD : va_D A [(h0, .inr (2, [.ref h1, .ref h2, .int ((u.2.2.1 + 1) - (u.2.2.1 + 1) / 8 * 8), .int u.2.2.2])), (h1, .inl (cI, 8, .inl (upd u.1 ((u.2.2.1 + 1) - (u.2.2.1 + 1) / 8 * 8).toNatClampNeg a0))), (h2, .inl (cJ, 8, .inr (.inl u.2.1)))] := hD
  refine lv_aload_n hx hb dX2_keep_23 rfl (lv_at hl 0 rfl) ?_
  refine va_get (D := D) (ci := 2) (v := .ref h2) (C := RX2) (T := TX2) (N := 4) hx hb hts q2 hown hK hP 0 rfl rfl 1 (by decide) q4 (fun _ h9 => h9) rfl dX2_keep_24 ?_
  refine lv_aload_n hx hb dX2_keep_27 rfl (lv_at hl 0 rfl) ?_
  refine va_get (D := D) (ci := 2) (v := .int ((u.2.2.1 + 1) - (u.2.2.1 + 1) / 8 * 8)) (C := RX2) (T := TX2) (N := 4) hx hb hts q2 hown hK hP 0 rfl rfl 2 (by decide) q1 (fun _ h9 => h9) rfl dX2_keep_28 ?_
  refine lv_lload_n hx hb dX2_keep_31 rfl (lv_at hl 2 rfl) ?_
  obtain ⟨g2, hf⟩ := og_e hf
  refine va_last hx hb hK hP hD hS 2 2 rfl rfl g2 dX2_keep_32 (fun H locs hP hD hS => ?_)
  have hP : va_P D vwCl [(h0, .inr (2, [.ref h1, .ref h2, .int ((u.2.2.1 + 1) - (u.2.2.1 + 1) / 8 * 8), .int u.2.2.2])), (h1, .inl (cI, 8, .inl (upd u.1 ((u.2.2.1 + 1) - (u.2.2.1 + 1) / 8 * 8).toNatClampNeg a0))), (h2, .inl (cJ, 8, .inr (.inl (vp_updL u.2.1 ((u.2.2.1 + 1) - (u.2.2.1 + 1) / 8 * 8).toNatClampNeg a1))))] H := hP
  have hD : va_D A [(h0, .inr (2, [.ref h1, .ref h2, .int ((u.2.2.1 + 1) - (u.2.2.1 + 1) / 8 * 8), .int u.2.2.2])), (h1, .inl (cI, 8, .inl (upd u.1 ((u.2.2.1 + 1) - (u.2.2.1 + 1) / 8 * 8).toNatClampNeg a0))), (h2, .inl (cJ, 8, .inr (.inl (vp_updL u.2.1 ((u.2.2.1 + 1) - (u.2.2.1 + 1) / 8 * 8).toNatClampNeg a1))))] := hD
  refine lv_aload_n hx hb dX2_keep_33 rfl (lv_at hl 0 rfl) ?_
  refine lv_aload_n hx hb dX2_keep_34 rfl (lv_at hl 0 rfl) ?_
  refine va_get (D := D) (ci := 2) (v := .int u.2.2.2) (C := RX2) (T := TX2) (N := 4) hx hb hts q2 hown hK hP 0 rfl rfl 3 (by decide) q5 (fun _ h9 => h9) rfl dX2_keep_35 ?_
  refine lv_iconst (v := 1) hx hb dX2_keep_38 (by decide) ?_
  refine lv_iadd hx hb dX2_keep_39 ?_
  refine lv_bipush (v := 8) hx hb dX2_keep_40 (by decide) ?_
  refine va_mmin hx hb (hml.trans hl.1.symm) hown q6 q7 q8 q9 (Nat.le_of_ble_eq_true rfl) (Nat.le_of_ble_eq_true rfl) (Nat.le_of_ble_eq_true rfl) (Nat.le_of_ble_eq_true rfl) dX2_keep_42 ?_
  refine va_put (D := D) (ci := 2) (v := .int (if 8 < (u.2.2.2 + 1) then 8 else (u.2.2.2 + 1))) (ty := .int) (C := RX2) (T := TX2) (N := 4) hx hb hts q2 tyX2 tyX2_ok nmX2 hown hK hP hD hS 0 rfl rfl 3 (by decide) q5 (fun _ h9 => h9) rfl (by decide +kernel) rfl rfl (Nat.le_of_ble_eq_true rfl) dX2_keep_45 (fun H locs hP hD hS => ?_)
  have hP : va_P D vwCl [(h0, .inr (2, [.ref h1, .ref h2, .int ((u.2.2.1 + 1) - (u.2.2.1 + 1) / 8 * 8), .int (if 8 < (u.2.2.2 + 1) then 8 else (u.2.2.2 + 1))])), (h1, .inl (cI, 8, .inl (upd u.1 ((u.2.2.1 + 1) - (u.2.2.1 + 1) / 8 * 8).toNatClampNeg a0))), (h2, .inl (cJ, 8, .inr (.inl (vp_updL u.2.1 ((u.2.2.1 + 1) - (u.2.2.1 + 1) / 8 * 8).toNatClampNeg a1))))] H := hP
  have hD : va_D A [(h0, .inr (2, [.ref h1, .ref h2, .int ((u.2.2.1 + 1) - (u.2.2.1 + 1) / 8 * 8), .int (if 8 < (u.2.2.2 + 1) then 8 else (u.2.2.2 + 1))])), (h1, .inl (cI, 8, .inl (upd u.1 ((u.2.2.1 + 1) - (u.2.2.1 + 1) / 8 * 8).toNatClampNeg a0))), (h2, .inl (cJ, 8, .inr (.inl (vp_updL u.2.1 ((u.2.2.1 + 1) - (u.2.2.1 + 1) / 8 * 8).toNatClampNeg a1))))] := hD
  have hP9 : va_P D vwCl (wP cI cJ h0 h1 h2 ((upd u.1 ((u.2.2.1 + 1) - (u.2.2.1 + 1) / 8 * 8).toNatClampNeg a0), ((vp_updL u.2.1 ((u.2.2.1 + 1) - (u.2.2.1 + 1) / 8 * 8).toNatClampNeg a1), (((u.2.2.1 + 1) - (u.2.2.1 + 1) / 8 * 8), (if 8 < (u.2.2.2 + 1) then 8 else (u.2.2.2 + 1)))))) _ := hP
  have hD9 : va_D A (wP cI cJ h0 h1 h2 ((upd u.1 ((u.2.2.1 + 1) - (u.2.2.1 + 1) / 8 * 8).toNatClampNeg a0), ((vp_updL u.2.1 ((u.2.2.1 + 1) - (u.2.2.1 + 1) / 8 * 8).toNatClampNeg a1), (((u.2.2.1 + 1) - (u.2.2.1 + 1) / 8 * 8), (if 8 < (u.2.2.2 + 1) then 8 else (u.2.2.2 + 1)))))) := hD
  exact W.vret hx hb hr (fun t ht hW => ⟨⟨((upd u.1 ((u.2.2.1 + 1) - (u.2.2.1 + 1) / 8 * 8).toNatClampNeg a0), ((vp_updL u.2.1 ((u.2.2.1 + 1) - (u.2.2.1 + 1) / 8 * 8).toNatClampNeg a1), (((u.2.2.1 + 1) - (u.2.2.1 + 1) / 8 * 8), (if 8 < (u.2.2.2 + 1) then 8 else (u.2.2.2 + 1))))), rfl, Option.some.inj hf, by rw [ht]; exact hP9, va_K.moved hW.alike hK, hD9⟩, hS.F ht⟩) hS.2.2 dX2_keep_48

set_option maxHeartbeats 4000000 in
set_option maxRecDepth 100000 in
theorem m_X2_latestSlot (l : Launch) (D : va_G) (cC cI cJ : ClassId) (h0 h1 h2 : Nat) (u : StP) (res : Int32) (hf : f_X2_latestSlot u = some res) : Met l yX2_latestSlot wsX2_latestSlot rmX2_latestSlot (my_PcR D vwCl (KT cC cI cJ) (wP cI cJ h0 h1 h2 u) [.ref h0]) (vp_Si (fun z => z = res)) 0 0 (fun _ => False) := by
  refine Met.ofW (cc := cX2_latestSlot) (maxL := 1) (ret := (some .int)) (by decide) rfl ?_
  intro p e s m args below meth c s₁ B hml hv
  obtain ⟨rfl, hP, hK⟩ := hv
  have hx := B.exec
  have hb := B.bytes
  have hr := B.returns
  have hts : ∀ w ∈ wsX2_latestSlot, w.before ([.ref h0] : List Value).toArray s = true := atoms_spec (ws := wsX2_latestSlot) B.pre
  have hown : s.vm.findClass RX2 = some m.cls := findClass_of_methodNamed B.named
  have hlk : meth.locks = false := B.notSynchronized
  have hP : va_P D vwCl [(h0, .inr (2, [.ref h1, .ref h2, .int u.2.2.1, .int u.2.2.2])), (h1, .inl (cI, 8, .inl u.1)), (h2, .inl (cJ, 8, .inr (.inl u.2.1)))] s.heap := hP
  have q1 := hts (.fieldLink RX2 9 "Doubleline$Past" "keptSlots" "[I") (by decide +kernel)
  have q2 : ∀ w ∈ u_ws RX2 TX2 4, w ∈ wsX2_latestSlot := by decide +kernel
  have q3 := hts (.fieldLink RX2 17 "Doubleline$Past" "latest" "I") (by decide +kernel)
  have hl := lv_entry ([.ref h0]) (n := 1) (Nat.le_of_ble_eq_true rfl)
  rw [lg_entry_eq]
  generalize (lg_sl ([.ref h0]) ++ List.replicate (1 - (lg_sl ([.ref h0])).length) Slot.unset).toArray = ls at hl ⊢
  have hl : lv_has ls 1 [(0, .ref h0)] := hl
  unfold f_X2_latestSlot at hf
  refine lv_aload_n hx hb dX2_latestSlot_0 rfl (lv_at hl 0 rfl) ?_
  refine va_get (D := D) (ci := 2) (v := .ref h1) (C := RX2) (T := TX2) (N := 4) hx hb hts q2 hown hK hP 0 rfl rfl 0 (by decide) q1 (fun _ h9 => h9) rfl dX2_latestSlot_1 ?_
  refine lv_aload_n hx hb dX2_latestSlot_4 rfl (lv_at hl 0 rfl) ?_
  refine va_get (D := D) (ci := 2) (v := .int u.2.2.1) (C := RX2) (T := TX2) (N := 4) hx hb hts q2 hown hK hP 0 rfl rfl 2 (by decide) q3 (fun _ h9 => h9) rfl dX2_latestSlot_5 ?_
  obtain ⟨g1, hf⟩ := og_e hf
  refine va_iald hx hb hK hP 1 1 rfl rfl g1 dX2_latestSlot_8 ?_
  exact W.iret (v := (u.1 u.2.2.1.toNatClampNeg)) hx hb hr (fun t ht hW => ⟨_, rfl, Option.some.inj hf, ht⟩) (fun q hq => absurd hq List.not_mem_nil) dX2_latestSlot_9

set_option maxHeartbeats 4000000 in
set_option maxRecDepth 100000 in
theorem m_X2_latestNumber (l : Launch) (D : va_G) (cC cI cJ : ClassId) (h0 h1 h2 : Nat) (u : StP) (res : Int64) (hf : f_X2_latestNumber u = some res) : Met l yX2_latestNumber wsX2_latestNumber rmX2_latestNumber (my_PcR D vwCl (KT cC cI cJ) (wP cI cJ h0 h1 h2 u) [.ref h0]) (vp_Sl (fun z => z = res)) 0 0 (fun _ => False) := by
  refine Met.ofW (cc := cX2_latestNumber) (maxL := 1) (ret := (some .long)) (by decide) rfl ?_
  intro p e s m args below meth c s₁ B hml hv
  obtain ⟨rfl, hP, hK⟩ := hv
  have hx := B.exec
  have hb := B.bytes
  have hr := B.returns
  have hts : ∀ w ∈ wsX2_latestNumber, w.before ([.ref h0] : List Value).toArray s = true := atoms_spec (ws := wsX2_latestNumber) B.pre
  have hown : s.vm.findClass RX2 = some m.cls := findClass_of_methodNamed B.named
  have hlk : meth.locks = false := B.notSynchronized
  have hP : va_P D vwCl [(h0, .inr (2, [.ref h1, .ref h2, .int u.2.2.1, .int u.2.2.2])), (h1, .inl (cI, 8, .inl u.1)), (h2, .inl (cJ, 8, .inr (.inl u.2.1)))] s.heap := hP
  have q1 := hts (.fieldLink RX2 13 "Doubleline$Past" "keptNumbers" "[J") (by decide +kernel)
  have q2 : ∀ w ∈ u_ws RX2 TX2 4, w ∈ wsX2_latestNumber := by decide +kernel
  have q3 := hts (.fieldLink RX2 17 "Doubleline$Past" "latest" "I") (by decide +kernel)
  have hl := lv_entry ([.ref h0]) (n := 1) (Nat.le_of_ble_eq_true rfl)
  rw [lg_entry_eq]
  generalize (lg_sl ([.ref h0]) ++ List.replicate (1 - (lg_sl ([.ref h0])).length) Slot.unset).toArray = ls at hl ⊢
  have hl : lv_has ls 1 [(0, .ref h0)] := hl
  unfold f_X2_latestNumber at hf
  refine lv_aload_n hx hb dX2_latestNumber_0 rfl (lv_at hl 0 rfl) ?_
  refine va_get (D := D) (ci := 2) (v := .ref h2) (C := RX2) (T := TX2) (N := 4) hx hb hts q2 hown hK hP 0 rfl rfl 1 (by decide) q1 (fun _ h9 => h9) rfl dX2_latestNumber_1 ?_
  refine lv_aload_n hx hb dX2_latestNumber_4 rfl (lv_at hl 0 rfl) ?_
  refine va_get (D := D) (ci := 2) (v := .int u.2.2.1) (C := RX2) (T := TX2) (N := 4) hx hb hts q2 hown hK hP 0 rfl rfl 2 (by decide) q3 (fun _ h9 => h9) rfl dX2_latestNumber_5 ?_
  obtain ⟨g1, hf⟩ := og_e hf
  refine va_lald hx hb hK hP 2 2 rfl rfl g1 dX2_latestNumber_8 ?_
  exact W.lret (v := (u.2.1 u.2.2.1.toNatClampNeg)) hx hb hr (fun t ht hW => ⟨_, rfl, Option.some.inj hf, ht⟩) (fun q hq => absurd hq List.not_mem_nil) dX2_latestNumber_9

set_option maxHeartbeats 4000000 in
set_option maxRecDepth 100000 in
theorem m_X2_forgetLatest (l : Launch) (D : va_G) (cC cI cJ : ClassId) (h0 h1 h2 : Nat) (u : StP) (sz : Nat)  (res : StP) (hf : f_X2_forgetLatest u = some res) : Met l yX2_forgetLatest wsX2_forgetLatest rmX2_forgetLatest (my_PcM D vwCl (KT cC cI cJ) sz (wP cI cJ h0 h1 h2 u) [.ref h0]) (va_Qv (fun v => v = res) (my_B D vwCl (KT cC cI cJ) (va_A (wP cI cJ h0 h1 h2 u) sz) (fun v : StP => (wP cI cJ h0 h1 h2 v))) (va_A (wP cI cJ h0 h1 h2 u) sz)) 0 0 (va_A (wP cI cJ h0 h1 h2 u) sz) := by
  refine Met.ofW (cc := cX2_forgetLatest) (maxL := 1) (ret := none) (by decide) rfl ?_
  intro p e s m args below meth c s₁ B hml hv
  obtain ⟨rfl, hsz, hP, hK, hD0⟩ := hv
  have hx := B.exec
  have hb := B.bytes
  have hr := B.returns
  have hts : ∀ w ∈ wsX2_forgetLatest, w.before ([.ref h0] : List Value).toArray s = true := atoms_spec (ws := wsX2_forgetLatest) B.pre
  have hown : s.vm.findClass RX2 = some m.cls := findClass_of_methodNamed B.named
  have hlk : meth.locks = false := B.notSynchronized
  subst hsz
  have hD := hD0.self (sz := s.heap.size)
  generalize hAe : va_A (wP cI cJ h0 h1 h2 u) s.heap.size = A at hD ⊢
  have hA : ∀ q : Nat, s.heap.size ≤ q → A q := fun q h => by rw [← hAe]; exact Or.inr h
  have hS : va_S A s.heap s.heap [] := va_S.rf
  have hP : va_P D vwCl [(h0, .inr (2, [.ref h1, .ref h2, .int u.2.2.1, .int u.2.2.2])), (h1, .inl (cI, 8, .inl u.1)), (h2, .inl (cJ, 8, .inr (.inl u.2.1)))] s.heap := hP
  have hD : va_D A [(h0, .inr (2, [.ref h1, .ref h2, .int u.2.2.1, .int u.2.2.2])), (h1, .inl (cI, 8, .inl u.1)), (h2, .inl (cJ, 8, .inr (.inl u.2.1)))] := hD
  have q1 := hts (.fieldLink RX2 17 "Doubleline$Past" "latest" "I") (by decide +kernel)
  have q2 : ∀ w ∈ u_ws RX2 TX2 4, w ∈ wsX2_forgetLatest := by decide +kernel
  have q3 := hts (.fieldLink RX2 21 "Doubleline$Past" "count" "I") (by decide +kernel)
  have hl := lv_entry ([.ref h0]) (n := 1) (Nat.le_of_ble_eq_true rfl)
  rw [lg_entry_eq]
  generalize (lg_sl ([.ref h0]) ++ List.replicate (1 - (lg_sl ([.ref h0])).length) Slot.unset).toArray = ls at hl ⊢
  have hl : lv_has ls 1 [(0, .ref h0)] := hl
  unfold f_X2_forgetLatest at hf
  refine lv_aload_n hx hb dX2_forgetLatest_0 rfl (lv_at hl 0 rfl) ?_
  refine lv_aload_n hx hb dX2_forgetLatest_1 rfl (lv_at hl 0 rfl) ?_
  refine va_get (D := D) (ci := 2) (v := .int u.2.2.1) (C := RX2) (T := TX2) (N := 4) hx hb hts q2 hown hK hP 0 rfl rfl 2 (by decide) q1 (fun _ h9 => h9) rfl dX2_forgetLatest_2 ?_
  refine lv_bipush (v := 8) hx hb dX2_forgetLatest_5 (by decide) ?_
  refine lv_iadd hx hb dX2_forgetLatest_7 ?_
  refine lv_iconst (v := 1) hx hb dX2_forgetLatest_8 (by decide) ?_
  refine lv_isub hx hb dX2_forgetLatest_9 ?_
  refine lv_bipush (v := 8) hx hb dX2_forgetLatest_10 (by decide) ?_
  refine lv_irem hx hb dX2_forgetLatest_12 (by decide) ?_
  refine va_put (D := D) (ci := 2) (v := .int (((u.2.2.1 + 8) - 1) - ((u.2.2.1 + 8) - 1) / 8 * 8)) (ty := .int) (C := RX2) (T := TX2) (N := 4) hx hb hts q2 tyX2 tyX2_ok nmX2 hown hK hP hD hS 0 rfl rfl 2 (by decide) q1 (fun _ h9 => h9) rfl (by decide +kernel) rfl rfl (Nat.le_of_ble_eq_true rfl) dX2_forgetLatest_13 (fun H locs hP hD hS => ?_)
  have hP : va_P D vwCl [(h0, .inr (2, [.ref h1, .ref h2, .int (((u.2.2.1 + 8) - 1) - ((u.2.2.1 + 8) - 1) / 8 * 8), .int u.2.2.2])), (h1, .inl (cI, 8, .inl u.1)), (h2, .inl (cJ, 8, .inr (.inl u.2.1)))] H := hP
  have hD : va_D A [(h0, .inr (2, [.ref h1, .ref h2, .int (((u.2.2.1 + 8) - 1) - ((u.2.2.1 + 8) - 1) / 8 * 8), .int u.2.2.2])), (h1, .inl (cI, 8, .inl u.1)), (h2, .inl (cJ, 8, .inr (.inl u.2.1)))] := hD
  refine lv_aload_n hx hb dX2_forgetLatest_16 rfl (lv_at hl 0 rfl) ?_
  refine lv_dup hx hb dX2_forgetLatest_17 rfl ?_
  refine va_get (D := D) (ci := 2) (v := .int u.2.2.2) (C := RX2) (T := TX2) (N := 4) hx hb hts q2 hown hK hP 0 rfl rfl 3 (by decide) q3 (fun _ h9 => h9) rfl dX2_forgetLatest_18 ?_
  refine lv_iconst (v := 1) hx hb dX2_forgetLatest_21 (by decide) ?_
  refine lv_isub hx hb dX2_forgetLatest_22 ?_
  refine va_put (D := D) (ci := 2) (v := .int (u.2.2.2 - 1)) (ty := .int) (C := RX2) (T := TX2) (N := 4) hx hb hts q2 tyX2 tyX2_ok nmX2 hown hK hP hD hS 0 rfl rfl 3 (by decide) q3 (fun _ h9 => h9) rfl (by decide +kernel) rfl rfl (Nat.le_of_ble_eq_true rfl) dX2_forgetLatest_23 (fun H locs hP hD hS => ?_)
  have hP : va_P D vwCl [(h0, .inr (2, [.ref h1, .ref h2, .int (((u.2.2.1 + 8) - 1) - ((u.2.2.1 + 8) - 1) / 8 * 8), .int (u.2.2.2 - 1)])), (h1, .inl (cI, 8, .inl u.1)), (h2, .inl (cJ, 8, .inr (.inl u.2.1)))] H := hP
  have hD : va_D A [(h0, .inr (2, [.ref h1, .ref h2, .int (((u.2.2.1 + 8) - 1) - ((u.2.2.1 + 8) - 1) / 8 * 8), .int (u.2.2.2 - 1)])), (h1, .inl (cI, 8, .inl u.1)), (h2, .inl (cJ, 8, .inr (.inl u.2.1)))] := hD
  have hP9 : va_P D vwCl (wP cI cJ h0 h1 h2 (u.1, (u.2.1, ((((u.2.2.1 + 8) - 1) - ((u.2.2.1 + 8) - 1) / 8 * 8), (u.2.2.2 - 1))))) _ := hP
  have hD9 : va_D A (wP cI cJ h0 h1 h2 (u.1, (u.2.1, ((((u.2.2.1 + 8) - 1) - ((u.2.2.1 + 8) - 1) / 8 * 8), (u.2.2.2 - 1))))) := hD
  exact W.vret hx hb hr (fun t ht hW => ⟨⟨(u.1, (u.2.1, ((((u.2.2.1 + 8) - 1) - ((u.2.2.1 + 8) - 1) / 8 * 8), (u.2.2.2 - 1)))), rfl, Option.some.inj hf, by rw [ht]; exact hP9, va_K.moved hW.alike hK, hD9⟩, hS.F ht⟩) hS.2.2 dX2_forgetLatest_26

set_option maxHeartbeats 4000000 in
set_option maxRecDepth 100000 in
theorem m_X3_size (l : Launch) (D : va_G) (cC cI cJ : ClassId) (h0 h1 h2 : Nat) (u : StR) (res : Int32) (hf : f_X3_size u = res) : Met l yX3_size wsX3_size rmX3_size (my_PcR D vwCl (KT cC cI cJ) (wR cC cI h0 h1 h2 u) [.ref h0]) (vp_Si (fun z => z = res)) 0 0 (fun _ => False) := by
  refine Met.ofW (cc := cX3_size) (maxL := 1) (ret := (some .int)) (by decide) rfl ?_
  intro p e s m args below meth c s₁ B hml hv
  obtain ⟨rfl, hP, hK⟩ := hv
  have hx := B.exec
  have hb := B.bytes
  have hr := B.returns
  have hts : ∀ w ∈ wsX3_size, w.before ([.ref h0] : List Value).toArray s = true := atoms_spec (ws := wsX3_size) B.pre
  have hown : s.vm.findClass RX3 = some m.cls := findClass_of_methodNamed B.named
  have hlk : meth.locks = false := B.notSynchronized
  have hP : va_P D vwCl [(h0, .inr (3, [.ref h1, .ref h2, .int u.2.2])), (h1, .inl (cC, 40, .inl u.1)), (h2, .inl (cI, 40, .inl u.2.1))] s.heap := hP
  have q1 := hts (.fieldLink RX3 17 "Doubleline$Row" "size" "I") (by decide +kernel)
  have q2 : ∀ w ∈ u_ws RX3 TX3 3, w ∈ wsX3_size := by decide +kernel
  have hl := lv_entry ([.ref h0]) (n := 1) (Nat.le_of_ble_eq_true rfl)
  rw [lg_entry_eq]
  generalize (lg_sl ([.ref h0]) ++ List.replicate (1 - (lg_sl ([.ref h0])).length) Slot.unset).toArray = ls at hl ⊢
  have hl : lv_has ls 1 [(0, .ref h0)] := hl
  unfold f_X3_size at hf
  refine lv_aload_n hx hb dX3_size_0 rfl (lv_at hl 0 rfl) ?_
  refine va_get (D := D) (ci := 3) (v := .int u.2.2) (C := RX3) (T := TX3) (N := 3) hx hb hts q2 hown hK hP 0 rfl rfl 2 (by decide) q1 (fun _ h9 => h9) rfl dX3_size_1 ?_
  exact W.iret (v := u.2.2) hx hb hr (fun t ht hW => ⟨_, rfl, hf, ht⟩) (fun q hq => absurd hq List.not_mem_nil) dX3_size_4

set_option maxHeartbeats 4000000 in
set_option maxRecDepth 100000 in
theorem m_X3_isFull (l : Launch) (D : va_G) (cC cI cJ : ClassId) (h0 h1 h2 : Nat) (u : StR) (res : Bool) (hf : f_X3_isFull u = res) : Met l yX3_isFull wsX3_isFull rmX3_isFull (my_PcR D vwCl (KT cC cI cJ) (wR cC cI h0 h1 h2 u) [.ref h0]) (vp_Si (fun z => z = b2i res)) 0 0 (fun _ => False) := by
  refine Met.ofW (cc := cX3_isFull) (maxL := 1) (ret := (some .boolean)) (by decide) rfl ?_
  intro p e s m args below meth c s₁ B hml hv
  obtain ⟨rfl, hP, hK⟩ := hv
  have hx := B.exec
  have hb := B.bytes
  have hr := B.returns
  have hts : ∀ w ∈ wsX3_isFull, w.before ([.ref h0] : List Value).toArray s = true := atoms_spec (ws := wsX3_isFull) B.pre
  have hown : s.vm.findClass RX3 = some m.cls := findClass_of_methodNamed B.named
  have hlk : meth.locks = false := B.notSynchronized
  have hP : va_P D vwCl [(h0, .inr (3, [.ref h1, .ref h2, .int u.2.2])), (h1, .inl (cC, 40, .inl u.1)), (h2, .inl (cI, 40, .inl u.2.1))] s.heap := hP
  have q1 := hts (.fieldLink RX3 17 "Doubleline$Row" "size" "I") (by decide +kernel)
  have q2 : ∀ w ∈ u_ws RX3 TX3 3, w ∈ wsX3_isFull := by decide +kernel
  have hl := lv_entry ([.ref h0]) (n := 1) (Nat.le_of_ble_eq_true rfl)
  rw [lg_entry_eq]
  generalize (lg_sl ([.ref h0]) ++ List.replicate (1 - (lg_sl ([.ref h0])).length) Slot.unset).toArray = ls at hl ⊢
  have hl : lv_has ls 1 [(0, .ref h0)] := hl
  unfold f_X3_isFull at hf
  refine lv_aload_n hx hb dX3_isFull_0 rfl (lv_at hl 0 rfl) ?_
  refine va_get (D := D) (ci := 3) (v := .int u.2.2) (C := RX3) (T := TX3) (N := 3) hx hb hts q2 hown hK hP 0 rfl rfl 2 (by decide) q1 (fun _ h9 => h9) rfl dX3_isFull_1 ?_
  refine lv_bipush (v := 40) hx hb dX3_isFull_4 (by decide) ?_
  refine my_ic_lt (tgt := 13) hx hb dX3_isFull_6 (by decide) (fun c1 => ?_) (fun c1 => ?_)
  · rw [if_pos c1] at hf
    refine lv_iconst (v := 0) hx hb dX3_isFull_13 (by decide) ?_
    exact W.zret (v := b2i false) (ty := .boolean) hx hb hr (b2i_nar _) (fun t ht hW => ⟨_, rfl, congrArg b2i (hf), ht⟩) (fun q hq => absurd hq List.not_mem_nil) dX3_isFull_14
  · rw [if_neg c1] at hf
    refine lv_iconst (v := 1) hx hb dX3_isFull_9 (by decide) ?_
    refine lv_goto (tgt := 14) hx hb dX3_isFull_10 (by decide) ?_
    exact W.zret (v := b2i true) (ty := .boolean) hx hb hr (b2i_nar _) (fun t ht hW => ⟨_, rfl, congrArg b2i (hf), ht⟩) (fun q hq => absurd hq List.not_mem_nil) dX3_isFull_14

set_option maxHeartbeats 4000000 in
set_option maxRecDepth 100000 in
theorem m_X3_add (l : Launch) (D : va_G) (cC cI cJ : ClassId) (h0 h1 h2 : Nat) (u : StR) (sz : Nat) (a0 : Int32) (a1 : Int32) (res : StR) (hf : f_X3_add u a0 a1 = some res) : Met l yX3_add wsX3_add rmX3_add (my_PcM D vwCl (KT cC cI cJ) sz (wR cC cI h0 h1 h2 u) [.ref h0, .int a0, .int a1]) (va_Qv (fun v => v = res) (my_B D vwCl (KT cC cI cJ) (va_A (wR cC cI h0 h1 h2 u) sz) (fun v : StR => (wR cC cI h0 h1 h2 v))) (va_A (wR cC cI h0 h1 h2 u) sz)) 0 0 (va_A (wR cC cI h0 h1 h2 u) sz) := by
  refine Met.ofW (cc := cX3_add) (maxL := 3) (ret := none) (by decide) rfl ?_
  intro p e s m args below meth c s₁ B hml hv
  obtain ⟨rfl, hsz, hP, hK, hD0⟩ := hv
  have hx := B.exec
  have hb := B.bytes
  have hr := B.returns
  have hts : ∀ w ∈ wsX3_add, w.before ([.ref h0, .int a0, .int a1] : List Value).toArray s = true := atoms_spec (ws := wsX3_add) B.pre
  have hown : s.vm.findClass RX3 = some m.cls := findClass_of_methodNamed B.named
  have hlk : meth.locks = false := B.notSynchronized
  subst hsz
  have hD := hD0.self (sz := s.heap.size)
  generalize hAe : va_A (wR cC cI h0 h1 h2 u) s.heap.size = A at hD ⊢
  have hA : ∀ q : Nat, s.heap.size ≤ q → A q := fun q h => by rw [← hAe]; exact Or.inr h
  have hS : va_S A s.heap s.heap [] := va_S.rf
  have hP : va_P D vwCl [(h0, .inr (3, [.ref h1, .ref h2, .int u.2.2])), (h1, .inl (cC, 40, .inl u.1)), (h2, .inl (cI, 40, .inl u.2.1))] s.heap := hP
  have hD : va_D A [(h0, .inr (3, [.ref h1, .ref h2, .int u.2.2])), (h1, .inl (cC, 40, .inl u.1)), (h2, .inl (cI, 40, .inl u.2.1))] := hD
  have q1 := hts (.fieldLink RX3 9 "Doubleline$Row" "kinds" "[C") (by decide +kernel)
  have q2 : ∀ w ∈ u_ws RX3 TX3 3, w ∈ wsX3_add := by decide +kernel
  have q3 := hts (.fieldLink RX3 17 "Doubleline$Row" "size" "I") (by decide +kernel)
  have q4 := hts (.fieldLink RX3 13 "Doubleline$Row" "counts" "[I") (by decide +kernel)
  have hl := lv_entry ([.ref h0, .int a0, .int a1]) (n := 3) (Nat.le_of_ble_eq_true rfl)
  rw [lg_entry_eq]
  generalize (lg_sl ([.ref h0, .int a0, .int a1]) ++ List.replicate (3 - (lg_sl ([.ref h0, .int a0, .int a1])).length) Slot.unset).toArray = ls at hl ⊢
  have hl : lv_has ls 3 [(0, .ref h0), (1, .int a0), (2, .int a1)] := hl
  unfold f_X3_add at hf
  refine lv_aload_n hx hb dX3_add_0 rfl (lv_at hl 0 rfl) ?_
  refine my_callRi (As := []) (n := 0) (rest := []) ⟨hx, hb, hml, hown, hts⟩ hK (hP.sub (ws' := (wR cC cI h0 h1 h2 u)) [0, 1, 2] rfl) (m_X3_isFull l D cC cI cJ h0 h1 h2 u _ rfl) gX3_add_X3_isFull rfl ⟨rfl, rfl⟩ (ci := 3) rfl rfl (by decide +kernel) ⟨Nat.le_of_ble_eq_true rfl, Nat.le_of_ble_eq_true rfl⟩ ⟨Nat.le_of_ble_eq_true rfl, Nat.le_of_ble_eq_true rfl⟩ hl.1 rfl rfl (Nat.le_of_ble_eq_true rfl) dX3_add_1 ?_
  refine my_bz_ne (x := (f_X3_isFull u)) (tgt := 37) hx hb dX3_add_4 (by decide) (fun c1 => ?_) (fun c1 => ?_)
  · rw [if_neg c1] at hf
    have hP9 : va_P D vwCl (wR cC cI h0 h1 h2 u) _ := hP
    have hD9 : va_D A (wR cC cI h0 h1 h2 u) := hD
    exact W.vret hx hb hr (fun t ht hW => ⟨⟨u, rfl, Option.some.inj hf, by rw [ht]; exact hP9, va_K.moved hW.alike hK, hD9⟩, hS.F ht⟩) hS.2.2 dX3_add_37
  · rw [if_pos c1] at hf
    refine lv_aload_n hx hb dX3_add_7 rfl (lv_at hl 0 rfl) ?_
    refine va_get (D := D) (ci := 3) (v := .ref h1) (C := RX3) (T := TX3) (N := 3) hx hb hts q2 hown hK hP 0 rfl rfl 0 (by decide) q1 (fun _ h9 => h9) rfl dX3_add_8 ?_
    refine lv_aload_n hx hb dX3_add_11 rfl (lv_at hl 0 rfl) ?_
    refine va_get (D := D) (ci := 3) (v := .int u.2.2) (C := RX3) (T := TX3) (N := 3) hx hb hts q2 hown hK hP 0 rfl rfl 2 (by decide) q3 (fun _ h9 => h9) rfl dX3_add_12 ?_
    refine lv_iload_n hx hb dX3_add_15 rfl (lv_at hl 1 rfl) ?_
    obtain ⟨g2, hf⟩ := og_e hf
    refine va_cast hx hb hK hP hD hS 1 0 rfl rfl g2 dX3_add_16 (fun H locs hP hD hS => ?_)
    have hP : va_P D vwCl [(h0, .inr (3, [.ref h1, .ref h2, .int u.2.2])), (h1, .inl (cC, 40, .inl (upd u.1 u.2.2.toNatClampNeg (vp_nar .char a0)))), (h2, .inl (cI, 40, .inl u.2.1))] H := hP
    have hD : va_D A [(h0, .inr (3, [.ref h1, .ref h2, .int u.2.2])), (h1, .inl (cC, 40, .inl (upd u.1 u.2.2.toNatClampNeg (vp_nar .char a0)))), (h2, .inl (cI, 40, .inl u.2.1))] := hD
    refine lv_aload_n hx hb dX3_add_17 rfl (lv_at hl 0 rfl) ?_
    refine va_get (D := D) (ci := 3) (v := .ref h2) (C := RX3) (T := TX3) (N := 3) hx hb hts q2 hown hK hP 0 rfl rfl 1 (by decide) q4 (fun _ h9 => h9) rfl dX3_add_18 ?_
    refine lv_aload_n hx hb dX3_add_21 rfl (lv_at hl 0 rfl) ?_
    refine va_get (D := D) (ci := 3) (v := .int u.2.2) (C := RX3) (T := TX3) (N := 3) hx hb hts q2 hown hK hP 0 rfl rfl 2 (by decide) q3 (fun _ h9 => h9) rfl dX3_add_22 ?_
    refine lv_iload_n hx hb dX3_add_25 rfl (lv_at hl 2 rfl) ?_
    obtain ⟨g3, hf⟩ := og_e hf
    refine va_iast hx hb hK hP hD hS 2 1 rfl rfl g3 dX3_add_26 (fun H locs hP hD hS => ?_)
    have hP : va_P D vwCl [(h0, .inr (3, [.ref h1, .ref h2, .int u.2.2])), (h1, .inl (cC, 40, .inl (upd u.1 u.2.2.toNatClampNeg (vp_nar .char a0)))), (h2, .inl (cI, 40, .inl (upd u.2.1 u.2.2.toNatClampNeg a1)))] H := hP
    have hD : va_D A [(h0, .inr (3, [.ref h1, .ref h2, .int u.2.2])), (h1, .inl (cC, 40, .inl (upd u.1 u.2.2.toNatClampNeg (vp_nar .char a0)))), (h2, .inl (cI, 40, .inl (upd u.2.1 u.2.2.toNatClampNeg a1)))] := hD
    refine lv_aload_n hx hb dX3_add_27 rfl (lv_at hl 0 rfl) ?_
    refine lv_dup hx hb dX3_add_28 rfl ?_
    refine va_get (D := D) (ci := 3) (v := .int u.2.2) (C := RX3) (T := TX3) (N := 3) hx hb hts q2 hown hK hP 0 rfl rfl 2 (by decide) q3 (fun _ h9 => h9) rfl dX3_add_29 ?_
    refine lv_iconst (v := 1) hx hb dX3_add_32 (by decide) ?_
    refine lv_iadd hx hb dX3_add_33 ?_
    refine va_put (D := D) (ci := 3) (v := .int (u.2.2 + 1)) (ty := .int) (C := RX3) (T := TX3) (N := 3) hx hb hts q2 tyX3 tyX3_ok nmX3 hown hK hP hD hS 0 rfl rfl 2 (by decide) q3 (fun _ h9 => h9) rfl (by decide +kernel) rfl rfl (Nat.le_of_ble_eq_true rfl) dX3_add_34 (fun H locs hP hD hS => ?_)
    have hP : va_P D vwCl [(h0, .inr (3, [.ref h1, .ref h2, .int (u.2.2 + 1)])), (h1, .inl (cC, 40, .inl (upd u.1 u.2.2.toNatClampNeg (vp_nar .char a0)))), (h2, .inl (cI, 40, .inl (upd u.2.1 u.2.2.toNatClampNeg a1)))] H := hP
    have hD : va_D A [(h0, .inr (3, [.ref h1, .ref h2, .int (u.2.2 + 1)])), (h1, .inl (cC, 40, .inl (upd u.1 u.2.2.toNatClampNeg (vp_nar .char a0)))), (h2, .inl (cI, 40, .inl (upd u.2.1 u.2.2.toNatClampNeg a1)))] := hD
    have hP9 : va_P D vwCl (wR cC cI h0 h1 h2 ((upd u.1 u.2.2.toNatClampNeg (vp_nar .char a0)), ((upd u.2.1 u.2.2.toNatClampNeg a1), (u.2.2 + 1)))) _ := hP
    have hD9 : va_D A (wR cC cI h0 h1 h2 ((upd u.1 u.2.2.toNatClampNeg (vp_nar .char a0)), ((upd u.2.1 u.2.2.toNatClampNeg a1), (u.2.2 + 1)))) := hD
    exact W.vret hx hb hr (fun t ht hW => ⟨⟨((upd u.1 u.2.2.toNatClampNeg (vp_nar .char a0)), ((upd u.2.1 u.2.2.toNatClampNeg a1), (u.2.2 + 1))), rfl, Option.some.inj hf, by rw [ht]; exact hP9, va_K.moved hW.alike hK, hD9⟩, hS.F ht⟩) hS.2.2 dX3_add_37

set_option maxHeartbeats 4000000 in
set_option maxRecDepth 100000 in
theorem m_X3_clear (l : Launch) (D : va_G) (cC cI cJ : ClassId) (h0 h1 h2 : Nat) (u : StR) (sz : Nat)  (res : StR) (hf : f_X3_clear u = some res) : Met l yX3_clear wsX3_clear rmX3_clear (my_PcM D vwCl (KT cC cI cJ) sz (wR cC cI h0 h1 h2 u) [.ref h0]) (va_Qv (fun v => v = res) (my_B D vwCl (KT cC cI cJ) (va_A (wR cC cI h0 h1 h2 u) sz) (fun v : StR => (wR cC cI h0 h1 h2 v))) (va_A (wR cC cI h0 h1 h2 u) sz)) 0 0 (va_A (wR cC cI h0 h1 h2 u) sz) := by
  refine Met.ofW (cc := cX3_clear) (maxL := 1) (ret := none) (by decide) rfl ?_
  intro p e s m args below meth c s₁ B hml hv
  obtain ⟨rfl, hsz, hP, hK, hD0⟩ := hv
  have hx := B.exec
  have hb := B.bytes
  have hr := B.returns
  have hts : ∀ w ∈ wsX3_clear, w.before ([.ref h0] : List Value).toArray s = true := atoms_spec (ws := wsX3_clear) B.pre
  have hown : s.vm.findClass RX3 = some m.cls := findClass_of_methodNamed B.named
  have hlk : meth.locks = false := B.notSynchronized
  subst hsz
  have hD := hD0.self (sz := s.heap.size)
  generalize hAe : va_A (wR cC cI h0 h1 h2 u) s.heap.size = A at hD ⊢
  have hA : ∀ q : Nat, s.heap.size ≤ q → A q := fun q h => by rw [← hAe]; exact Or.inr h
  have hS : va_S A s.heap s.heap [] := va_S.rf
  have hP : va_P D vwCl [(h0, .inr (3, [.ref h1, .ref h2, .int u.2.2])), (h1, .inl (cC, 40, .inl u.1)), (h2, .inl (cI, 40, .inl u.2.1))] s.heap := hP
  have hD : va_D A [(h0, .inr (3, [.ref h1, .ref h2, .int u.2.2])), (h1, .inl (cC, 40, .inl u.1)), (h2, .inl (cI, 40, .inl u.2.1))] := hD
  have q1 := hts (.fieldLink RX3 17 "Doubleline$Row" "size" "I") (by decide +kernel)
  have q2 : ∀ w ∈ u_ws RX3 TX3 3, w ∈ wsX3_clear := by decide +kernel
  have hl := lv_entry ([.ref h0]) (n := 1) (Nat.le_of_ble_eq_true rfl)
  rw [lg_entry_eq]
  generalize (lg_sl ([.ref h0]) ++ List.replicate (1 - (lg_sl ([.ref h0])).length) Slot.unset).toArray = ls at hl ⊢
  have hl : lv_has ls 1 [(0, .ref h0)] := hl
  unfold f_X3_clear at hf
  refine lv_aload_n hx hb dX3_clear_0 rfl (lv_at hl 0 rfl) ?_
  refine lv_iconst (v := 0) hx hb dX3_clear_1 (by decide) ?_
  refine va_put (D := D) (ci := 3) (v := .int 0) (ty := .int) (C := RX3) (T := TX3) (N := 3) hx hb hts q2 tyX3 tyX3_ok nmX3 hown hK hP hD hS 0 rfl rfl 2 (by decide) q1 (fun _ h9 => h9) rfl (by decide +kernel) rfl rfl (Nat.le_of_ble_eq_true rfl) dX3_clear_2 (fun H locs hP hD hS => ?_)
  have hP : va_P D vwCl [(h0, .inr (3, [.ref h1, .ref h2, .int 0])), (h1, .inl (cC, 40, .inl u.1)), (h2, .inl (cI, 40, .inl u.2.1))] H := hP
  have hD : va_D A [(h0, .inr (3, [.ref h1, .ref h2, .int 0])), (h1, .inl (cC, 40, .inl u.1)), (h2, .inl (cI, 40, .inl u.2.1))] := hD
  have hP9 : va_P D vwCl (wR cC cI h0 h1 h2 (u.1, (u.2.1, 0))) _ := hP
  have hD9 : va_D A (wR cC cI h0 h1 h2 (u.1, (u.2.1, 0))) := hD
  exact W.vret hx hb hr (fun t ht hW => ⟨⟨(u.1, (u.2.1, 0)), rfl, Option.some.inj hf, by rw [ht]; exact hP9, va_K.moved hW.alike hK, hD9⟩, hS.F ht⟩) hS.2.2 dX3_clear_5

set_option maxHeartbeats 4000000 in
set_option maxRecDepth 100000 in
theorem m_X3_playedOn (l : Launch) (D : va_G) (cC cI cJ : ClassId) (h0 h1 h2 : Nat) (u : StR) (a0 : Int64) (res : Int64) (hf : f_X3_playedOn u a0 = some res) : Met l yX3_playedOn wsX3_playedOn rmX3_playedOn (my_PcR D vwCl (KT cC cI cJ) (wR cC cI h0 h1 h2 u) [.ref h0, .long a0]) (vp_Sl (fun z => z = res)) 0 0 (fun _ => False) := by
  refine Met.ofW (cc := cX3_playedOn) (maxL := 6) (ret := (some .long)) (by decide) rfl ?_
  intro p e s m args below meth c s₁ B hml hv
  obtain ⟨rfl, hP, hK⟩ := hv
  have hx := B.exec
  have hb := B.bytes
  have hr := B.returns
  have hts : ∀ w ∈ wsX3_playedOn, w.before ([.ref h0, .long a0] : List Value).toArray s = true := atoms_spec (ws := wsX3_playedOn) B.pre
  have hown : s.vm.findClass RX3 = some m.cls := findClass_of_methodNamed B.named
  have hlk : meth.locks = false := B.notSynchronized
  have hP : va_P D vwCl [(h0, .inr (3, [.ref h1, .ref h2, .int u.2.2])), (h1, .inl (cC, 40, .inl u.1)), (h2, .inl (cI, 40, .inl u.2.1))] s.heap := hP
  have q1 := hts (.fieldLink RX3 17 "Doubleline$Row" "size" "I") (by decide +kernel)
  have q2 : ∀ w ∈ u_ws RX3 TX3 3, w ∈ wsX3_playedOn := by decide +kernel
  have q3 := hts (.fieldLink RX3 9 "Doubleline$Row" "kinds" "[C") (by decide +kernel)
  have q4 := hts (.fieldLink RX3 13 "Doubleline$Row" "counts" "[I") (by decide +kernel)
  have hl := lv_entry ([.ref h0, .long a0]) (n := 6) (Nat.le_of_ble_eq_true rfl)
  rw [lg_entry_eq]
  generalize (lg_sl ([.ref h0, .long a0]) ++ List.replicate (6 - (lg_sl ([.ref h0, .long a0])).length) Slot.unset).toArray = ls at hl ⊢
  have hl : lv_has ls 6 [(0, .ref h0), (1, .long a0)] := hl
  unfold f_X3_playedOn at hf
  refine lv_lload_n hx hb dX3_playedOn_0 rfl (lv_at hl 1 rfl) ?_
  refine lv_lstore_n (lv' := [(3, .long a0), (0, .ref h0), (1, .long a0)]) hx hb dX3_playedOn_1 rfl hl (by decide) rfl (fun ls hl => ?_)
  refine lv_iconst (v := 0) hx hb dX3_playedOn_2 (by decide) ?_
  refine lv_istore (lv' := [(5, .int 0), (3, .long a0), (0, .ref h0), (1, .long a0)]) hx hb dX3_playedOn_3 hl (by decide) rfl (fun ls hl => ?_)
  have loop5 : ∀ (n5 : Nat) (v5_5 : Int32) (v5_3 : Int64) (ls : Array Slot), lv_has ls 6 [(5, .int v5_5), (3, .long v5_3), (0, .ref h0)] → f_X3_playedOn_L5 u a0 n5 v5_5 v5_3 = some res → W p l e (rmX3_playedOn) s m ([.ref h0, .long a0] : List Value).toArray below meth c s.heap [] 0 0 (MQ below (vp_Sl (fun z => z = res)) ([.ref h0, .long a0] : List Value).toArray s 0 0 (fun _ => False)) (F0 m 5 ls []) := by
    intro n5
    induction n5 with
    | zero => intro v5_5 v5_3 ls hl hf; rw [f_X3_playedOn_L5] at hf; cases hf
    | succ n5 ih5 =>
      intro v5_5 v5_3 ls hl hf
      rw [f_X3_playedOn_L5] at hf
      refine lv_iload hx hb dX3_playedOn_5 (lv_at hl 0 rfl) ?_
      refine lv_aload_n hx hb dX3_playedOn_7 rfl (lv_at hl 2 rfl) ?_
      refine va_get (D := D) (ci := 3) (v := .int u.2.2) (C := RX3) (T := TX3) (N := 3) hx hb hts q2 hown hK hP 0 rfl rfl 2 (by decide) q1 (fun _ h9 => h9) rfl dX3_playedOn_8 ?_
      refine my_ic_ge (tgt := 39) hx hb dX3_playedOn_11 (by decide) (fun c1 => ?_) (fun c1 => ?_)
      · rw [if_neg c1] at hf
        refine lv_lload_n hx hb dX3_playedOn_39 rfl (lv_at hl 1 rfl) ?_
        exact W.lret (v := v5_3) hx hb hr (fun t ht hW => ⟨_, rfl, Option.some.inj hf, ht⟩) (fun q hq => absurd hq List.not_mem_nil) dX3_playedOn_40
      · rw [if_pos c1] at hf
        refine lv_aload_n hx hb dX3_playedOn_14 rfl (lv_at hl 2 rfl) ?_
        refine va_get (D := D) (ci := 3) (v := .ref h1) (C := RX3) (T := TX3) (N := 3) hx hb hts q2 hown hK hP 0 rfl rfl 0 (by decide) q3 (fun _ h9 => h9) rfl dX3_playedOn_15 ?_
        refine lv_iload hx hb dX3_playedOn_18 (lv_at hl 0 rfl) ?_
        obtain ⟨g2, hf⟩ := og_e hf
        refine va_cald hx hb hK hP 1 0 rfl rfl g2 dX3_playedOn_20 ?_
        refine lv_aload_n hx hb dX3_playedOn_21 rfl (lv_at hl 2 rfl) ?_
        refine va_get (D := D) (ci := 3) (v := .ref h2) (C := RX3) (T := TX3) (N := 3) hx hb hts q2 hown hK hP 0 rfl rfl 1 (by decide) q4 (fun _ h9 => h9) rfl dX3_playedOn_22 ?_
        refine lv_iload hx hb dX3_playedOn_25 (lv_at hl 0 rfl) ?_
        obtain ⟨g3, hf⟩ := og_e hf
        refine va_iald hx hb hK hP 2 1 rfl rfl g3 dX3_playedOn_27 ?_
        refine lv_lload_n hx hb dX3_playedOn_28 rfl (lv_at hl 1 rfl) ?_
        refine my_callPl (As := [.int (u.1 v5_5.toNatClampNeg), .int (u.2.1 v5_5.toNatClampNeg), .long v5_3]) (n := 3) (rest := []) ⟨hx, hb, hml, hown, hts⟩ (m_X3_done l (u.1 v5_5.toNatClampNeg) (u.2.1 v5_5.toNatClampNeg) v5_3 _ rfl) gX3_playedOn_X3_done rfl ⟨rfl, rfl⟩ (by decide +kernel) ⟨Nat.le_of_ble_eq_true rfl, Nat.le_of_ble_eq_true rfl⟩ ⟨Nat.le_of_ble_eq_true rfl, Nat.le_of_ble_eq_true rfl⟩ hl.1 rfl rfl (Nat.le_of_ble_eq_true rfl) dX3_playedOn_29 ?_
        refine lv_lstore_n (lv' := [(3, .long (f_X3_done (u.1 v5_5.toNatClampNeg) (u.2.1 v5_5.toNatClampNeg) v5_3)), (5, .int v5_5), (0, .ref h0)]) hx hb dX3_playedOn_32 rfl hl (by decide) rfl (fun ls hl => ?_)
        refine lv_iinc (v := (v5_5 + 1)) (lv' := [(5, .int (v5_5 + 1)), (3, .long (f_X3_done (u.1 v5_5.toNatClampNeg) (u.2.1 v5_5.toNatClampNeg) v5_3)), (0, .ref h0)]) hx hb dX3_playedOn_33 hl (k := 1) rfl rfl (by decide) rfl (fun ls hl => ?_)
        refine lv_goto (tgt := 5) hx hb dX3_playedOn_36 (by decide) ?_
        exact ih5 (v5_5 + 1) (f_X3_done (u.1 v5_5.toNatClampNeg) (u.2.1 v5_5.toNatClampNeg) v5_3) _ (lv_sub hl [0, 1, 2] rfl) hf
  exact loop5 100 0 a0 _ (lv_sub hl [0, 1, 2] rfl) hf

set_option maxHeartbeats 4000000 in
set_option maxRecDepth 100000 in
theorem m_X3_playedBackOn (l : Launch) (D : va_G) (cC cI cJ : ClassId) (h0 h1 h2 : Nat) (u : StR) (a0 : Int64) (res : Int64) (hf : f_X3_playedBackOn u a0 = some res) : Met l yX3_playedBackOn wsX3_playedBackOn rmX3_playedBackOn (my_PcR D vwCl (KT cC cI cJ) (wR cC cI h0 h1 h2 u) [.ref h0, .long a0]) (vp_Sl (fun z => z = res)) 0 0 (fun _ => False) := by
  refine Met.ofW (cc := cX3_playedBackOn) (maxL := 6) (ret := (some .long)) (by decide) rfl ?_
  intro p e s m args below meth c s₁ B hml hv
  obtain ⟨rfl, hP, hK⟩ := hv
  have hx := B.exec
  have hb := B.bytes
  have hr := B.returns
  have hts : ∀ w ∈ wsX3_playedBackOn, w.before ([.ref h0, .long a0] : List Value).toArray s = true := atoms_spec (ws := wsX3_playedBackOn) B.pre
  have hown : s.vm.findClass RX3 = some m.cls := findClass_of_methodNamed B.named
  have hlk : meth.locks = false := B.notSynchronized
  have hP : va_P D vwCl [(h0, .inr (3, [.ref h1, .ref h2, .int u.2.2])), (h1, .inl (cC, 40, .inl u.1)), (h2, .inl (cI, 40, .inl u.2.1))] s.heap := hP
  have q1 := hts (.fieldLink RX3 17 "Doubleline$Row" "size" "I") (by decide +kernel)
  have q2 : ∀ w ∈ u_ws RX3 TX3 3, w ∈ wsX3_playedBackOn := by decide +kernel
  have q3 := hts (.fieldLink RX3 9 "Doubleline$Row" "kinds" "[C") (by decide +kernel)
  have q4 := hts (.fieldLink RX3 13 "Doubleline$Row" "counts" "[I") (by decide +kernel)
  have hl := lv_entry ([.ref h0, .long a0]) (n := 6) (Nat.le_of_ble_eq_true rfl)
  rw [lg_entry_eq]
  generalize (lg_sl ([.ref h0, .long a0]) ++ List.replicate (6 - (lg_sl ([.ref h0, .long a0])).length) Slot.unset).toArray = ls at hl ⊢
  have hl : lv_has ls 6 [(0, .ref h0), (1, .long a0)] := hl
  unfold f_X3_playedBackOn at hf
  refine lv_lload_n hx hb dX3_playedBackOn_0 rfl (lv_at hl 1 rfl) ?_
  refine lv_lstore_n (lv' := [(3, .long a0), (0, .ref h0), (1, .long a0)]) hx hb dX3_playedBackOn_1 rfl hl (by decide) rfl (fun ls hl => ?_)
  refine lv_aload_n hx hb dX3_playedBackOn_2 rfl (lv_at hl 1 rfl) ?_
  refine va_get (D := D) (ci := 3) (v := .int u.2.2) (C := RX3) (T := TX3) (N := 3) hx hb hts q2 hown hK hP 0 rfl rfl 2 (by decide) q1 (fun _ h9 => h9) rfl dX3_playedBackOn_3 ?_
  refine lv_iconst (v := 1) hx hb dX3_playedBackOn_6 (by decide) ?_
  refine lv_isub hx hb dX3_playedBackOn_7 ?_
  refine lv_istore (lv' := [(5, .int (u.2.2 - 1)), (3, .long a0), (0, .ref h0), (1, .long a0)]) hx hb dX3_playedBackOn_8 hl (by decide) rfl (fun ls hl => ?_)
  have loop10 : ∀ (n10 : Nat) (v10_5 : Int32) (v10_3 : Int64) (ls : Array Slot), lv_has ls 6 [(5, .int v10_5), (3, .long v10_3), (0, .ref h0)] → f_X3_playedBackOn_L10 u a0 n10 v10_5 v10_3 = some res → W p l e (rmX3_playedBackOn) s m ([.ref h0, .long a0] : List Value).toArray below meth c s.heap [] 0 0 (MQ below (vp_Sl (fun z => z = res)) ([.ref h0, .long a0] : List Value).toArray s 0 0 (fun _ => False)) (F0 m 10 ls []) := by
    intro n10
    induction n10 with
    | zero => intro v10_5 v10_3 ls hl hf; rw [f_X3_playedBackOn_L10] at hf; cases hf
    | succ n10 ih10 =>
      intro v10_5 v10_3 ls hl hf
      rw [f_X3_playedBackOn_L10] at hf
      refine lv_iload hx hb dX3_playedBackOn_10 (lv_at hl 0 rfl) ?_
      refine my_if_lt (tgt := 41) hx hb dX3_playedBackOn_12 (by decide) (fun c1 => ?_) (fun c1 => ?_)
      · rw [if_pos c1] at hf
        refine lv_lload_n hx hb dX3_playedBackOn_41 rfl (lv_at hl 1 rfl) ?_
        exact W.lret (v := v10_3) hx hb hr (fun t ht hW => ⟨_, rfl, Option.some.inj hf, ht⟩) (fun q hq => absurd hq List.not_mem_nil) dX3_playedBackOn_42
      · rw [if_neg c1] at hf
        refine lv_aload_n hx hb dX3_playedBackOn_15 rfl (lv_at hl 2 rfl) ?_
        refine va_get (D := D) (ci := 3) (v := .ref h1) (C := RX3) (T := TX3) (N := 3) hx hb hts q2 hown hK hP 0 rfl rfl 0 (by decide) q3 (fun _ h9 => h9) rfl dX3_playedBackOn_16 ?_
        refine lv_iload hx hb dX3_playedBackOn_19 (lv_at hl 0 rfl) ?_
        obtain ⟨g2, hf⟩ := og_e hf
        refine va_cald hx hb hK hP 1 0 rfl rfl g2 dX3_playedBackOn_21 ?_
        refine lv_aload_n hx hb dX3_playedBackOn_22 rfl (lv_at hl 2 rfl) ?_
        refine va_get (D := D) (ci := 3) (v := .ref h2) (C := RX3) (T := TX3) (N := 3) hx hb hts q2 hown hK hP 0 rfl rfl 1 (by decide) q4 (fun _ h9 => h9) rfl dX3_playedBackOn_23 ?_
        refine lv_iload hx hb dX3_playedBackOn_26 (lv_at hl 0 rfl) ?_
        obtain ⟨g3, hf⟩ := og_e hf
        refine va_iald hx hb hK hP 2 1 rfl rfl g3 dX3_playedBackOn_28 ?_
        refine lv_ineg hx hb dX3_playedBackOn_29 ?_
        refine lv_lload_n hx hb dX3_playedBackOn_30 rfl (lv_at hl 1 rfl) ?_
        refine my_callPl (As := [.int (u.1 v10_5.toNatClampNeg), .int (-(u.2.1 v10_5.toNatClampNeg)), .long v10_3]) (n := 3) (rest := []) ⟨hx, hb, hml, hown, hts⟩ (m_X3_done l (u.1 v10_5.toNatClampNeg) (-(u.2.1 v10_5.toNatClampNeg)) v10_3 _ rfl) gX3_playedBackOn_X3_done rfl ⟨rfl, rfl⟩ (by decide +kernel) ⟨Nat.le_of_ble_eq_true rfl, Nat.le_of_ble_eq_true rfl⟩ ⟨Nat.le_of_ble_eq_true rfl, Nat.le_of_ble_eq_true rfl⟩ hl.1 rfl rfl (Nat.le_of_ble_eq_true rfl) dX3_playedBackOn_31 ?_
        refine lv_lstore_n (lv' := [(3, .long (f_X3_done (u.1 v10_5.toNatClampNeg) (-(u.2.1 v10_5.toNatClampNeg)) v10_3)), (5, .int v10_5), (0, .ref h0)]) hx hb dX3_playedBackOn_34 rfl hl (by decide) rfl (fun ls hl => ?_)
        refine lv_iinc (v := (v10_5 + (-1))) (lv' := [(5, .int (v10_5 + (-1))), (3, .long (f_X3_done (u.1 v10_5.toNatClampNeg) (-(u.2.1 v10_5.toNatClampNeg)) v10_3)), (0, .ref h0)]) hx hb dX3_playedBackOn_35 hl (k := 1) rfl rfl (by decide) rfl (fun ls hl => ?_)
        refine lv_goto (tgt := 10) hx hb dX3_playedBackOn_38 (by decide) ?_
        exact ih10 (v10_5 + (-1)) (f_X3_done (u.1 v10_5.toNatClampNeg) (-(u.2.1 v10_5.toNatClampNeg)) v10_3) _ (lv_sub hl [0, 1, 2] rfl) hf
  exact loop10 100 (u.2.2 - 1) a0 _ (lv_sub hl [0, 1, 2] rfl) hf

set_option maxHeartbeats 4000000 in
set_option maxRecDepth 100000 in
theorem m_X3_leadsHome (l : Launch) (D : va_G) (cC cI cJ : ClassId) (h0 h1 h2 : Nat) (u : StR) (a0 : Int64) (res : Bool) (hf : f_X3_leadsHome u a0 = some res) : Met l yX3_leadsHome wsX3_leadsHome rmX3_leadsHome (my_PcR D vwCl (KT cC cI cJ) (wR cC cI h0 h1 h2 u) [.ref h0, .long a0]) (vp_Si (fun z => z = b2i res)) 0 0 (fun _ => False) := by
  refine Met.ofW (cc := cX3_leadsHome) (maxL := 3) (ret := (some .boolean)) (by decide) rfl ?_
  intro p e s m args below meth c s₁ B hml hv
  obtain ⟨rfl, hP, hK⟩ := hv
  have hx := B.exec
  have hb := B.bytes
  have hr := B.returns
  have hts : ∀ w ∈ wsX3_leadsHome, w.before ([.ref h0, .long a0] : List Value).toArray s = true := atoms_spec (ws := wsX3_leadsHome) B.pre
  have hown : s.vm.findClass RX3 = some m.cls := findClass_of_methodNamed B.named
  have hlk : meth.locks = false := B.notSynchronized
  have hP : va_P D vwCl [(h0, .inr (3, [.ref h1, .ref h2, .int u.2.2])), (h1, .inl (cC, 40, .inl u.1)), (h2, .inl (cI, 40, .inl u.2.1))] s.heap := hP
  have hl := lv_entry ([.ref h0, .long a0]) (n := 3) (Nat.le_of_ble_eq_true rfl)
  rw [lg_entry_eq]
  generalize (lg_sl ([.ref h0, .long a0]) ++ List.replicate (3 - (lg_sl ([.ref h0, .long a0])).length) Slot.unset).toArray = ls at hl ⊢
  have hl : lv_has ls 3 [(0, .ref h0), (1, .long a0)] := hl
  unfold f_X3_leadsHome at hf
  refine lv_aload_n hx hb dX3_leadsHome_0 rfl (lv_at hl 0 rfl) ?_
  refine lv_aload_n hx hb dX3_leadsHome_1 rfl (lv_at hl 0 rfl) ?_
  refine lv_lload_n hx hb dX3_leadsHome_2 rfl (lv_at hl 1 rfl) ?_
  obtain ⟨r1, er1, hf⟩ := ob_e hf
  refine my_callRl (As := [.long a0]) (n := 1) (rest := [.ref h0]) ⟨hx, hb, hml, hown, hts⟩ hK (hP.sub (ws' := (wR cC cI h0 h1 h2 u)) [0, 1, 2] rfl) (m_X3_playedOn l D cC cI cJ h0 h1 h2 u a0 _ er1) gX3_leadsHome_X3_playedOn rfl ⟨rfl, rfl⟩ (ci := 3) rfl rfl (by decide +kernel) ⟨Nat.le_of_ble_eq_true rfl, Nat.le_of_ble_eq_true rfl⟩ ⟨Nat.le_of_ble_eq_true rfl, Nat.le_of_ble_eq_true rfl⟩ hl.1 rfl rfl (Nat.le_of_ble_eq_true rfl) dX3_leadsHome_3 ?_
  obtain ⟨r2, er2, hf⟩ := ob_e hf
  refine my_callRl (As := [.long r1]) (n := 1) (rest := []) ⟨hx, hb, hml, hown, hts⟩ hK (hP.sub (ws' := (wR cC cI h0 h1 h2 u)) [0, 1, 2] rfl) (m_X3_playedBackOn l D cC cI cJ h0 h1 h2 u r1 _ er2) gX3_leadsHome_X3_playedBackOn rfl ⟨rfl, rfl⟩ (ci := 3) rfl rfl (by decide +kernel) ⟨Nat.le_of_ble_eq_true rfl, Nat.le_of_ble_eq_true rfl⟩ ⟨Nat.le_of_ble_eq_true rfl, Nat.le_of_ble_eq_true rfl⟩ hl.1 rfl rfl (Nat.le_of_ble_eq_true rfl) dX3_leadsHome_6 ?_
  refine lv_lload_n hx hb dX3_leadsHome_9 rfl (lv_at hl 1 rfl) ?_
  refine my_lc_ne (tgt := 18) hx hb dX3_leadsHome_10 dX3_leadsHome_11 (by decide) (fun c3 => ?_) (fun c3 => ?_)
  · rw [if_neg c3] at hf
    refine lv_iconst (v := 0) hx hb dX3_leadsHome_18 (by decide) ?_
    exact W.zret (v := b2i false) (ty := .boolean) hx hb hr (b2i_nar _) (fun t ht hW => ⟨_, rfl, congrArg b2i (Option.some.inj hf), ht⟩) (fun q hq => absurd hq List.not_mem_nil) dX3_leadsHome_19
  · rw [if_pos c3] at hf
    refine lv_iconst (v := 1) hx hb dX3_leadsHome_14 (by decide) ?_
    refine lv_goto (tgt := 19) hx hb dX3_leadsHome_15 (by decide) ?_
    exact W.zret (v := b2i true) (ty := .boolean) hx hb hr (b2i_nar _) (fun t ht hW => ⟨_, rfl, congrArg b2i (Option.some.inj hf), ht⟩) (fun q hq => absurd hq List.not_mem_nil) dX3_leadsHome_19

set_option maxHeartbeats 4000000 in
set_option maxRecDepth 100000 in
theorem m_X3_lossesFrom (l : Launch) (D : va_G) (cC cI cJ : ClassId) (h0 h1 h2 : Nat) (u : StR) (a0 : Int64) (res : Int32) (hf : f_X3_lossesFrom u a0 = some res) : Met l yX3_lossesFrom wsX3_lossesFrom rmX3_lossesFrom (my_PcR D vwCl (KT cC cI cJ) (wR cC cI h0 h1 h2 u) [.ref h0, .long a0]) (vp_Si (fun z => z = res)) 0 0 (fun _ => False) := by
  refine Met.ofW (cc := cX3_lossesFrom) (maxL := 9) (ret := (some .int)) (by decide) rfl ?_
  intro p e s m args below meth c s₁ B hml hv
  obtain ⟨rfl, hP, hK⟩ := hv
  have hx := B.exec
  have hb := B.bytes
  have hr := B.returns
  have hts : ∀ w ∈ wsX3_lossesFrom, w.before ([.ref h0, .long a0] : List Value).toArray s = true := atoms_spec (ws := wsX3_lossesFrom) B.pre
  have hown : s.vm.findClass RX3 = some m.cls := findClass_of_methodNamed B.named
  have hlk : meth.locks = false := B.notSynchronized
  have hP : va_P D vwCl [(h0, .inr (3, [.ref h1, .ref h2, .int u.2.2])), (h1, .inl (cC, 40, .inl u.1)), (h2, .inl (cI, 40, .inl u.2.1))] s.heap := hP
  have q1 := hts (.fieldLink RX3 17 "Doubleline$Row" "size" "I") (by decide +kernel)
  have q2 : ∀ w ∈ u_ws RX3 TX3 3, w ∈ wsX3_lossesFrom := by decide +kernel
  have q3 := hts (.fieldLink RX3 9 "Doubleline$Row" "kinds" "[C") (by decide +kernel)
  have q4 := hts (.fieldLink RX3 13 "Doubleline$Row" "counts" "[I") (by decide +kernel)
  have hl := lv_entry ([.ref h0, .long a0]) (n := 9) (Nat.le_of_ble_eq_true rfl)
  rw [lg_entry_eq]
  generalize (lg_sl ([.ref h0, .long a0]) ++ List.replicate (9 - (lg_sl ([.ref h0, .long a0])).length) Slot.unset).toArray = ls at hl ⊢
  have hl : lv_has ls 9 [(0, .ref h0), (1, .long a0)] := hl
  unfold f_X3_lossesFrom at hf
  refine lv_iconst (v := 0) hx hb dX3_lossesFrom_0 (by decide) ?_
  refine lv_istore_n (lv' := [(3, .int 0), (0, .ref h0), (1, .long a0)]) hx hb dX3_lossesFrom_1 rfl hl (by decide) rfl (fun ls hl => ?_)
  refine lv_lload_n hx hb dX3_lossesFrom_2 rfl (lv_at hl 2 rfl) ?_
  refine lv_lstore (lv' := [(4, .long a0), (3, .int 0), (0, .ref h0), (1, .long a0)]) hx hb dX3_lossesFrom_3 hl (by decide) rfl (fun ls hl => ?_)
  refine lv_iconst (v := 0) hx hb dX3_lossesFrom_5 (by decide) ?_
  refine lv_istore (lv' := [(6, .int 0), (4, .long a0), (3, .int 0), (0, .ref h0), (1, .long a0)]) hx hb dX3_lossesFrom_6 hl (by decide) rfl (fun ls hl => ?_)
  have loop8 : ∀ (n8 : Nat) (v8_6 : Int32) (v8_4 : Int64) (v8_3 : Int32) (ls : Array Slot), lv_has ls 9 [(6, .int v8_6), (4, .long v8_4), (3, .int v8_3), (0, .ref h0)] → f_X3_lossesFrom_L8 u a0 n8 v8_6 v8_4 v8_3 = some res → W p l e (rmX3_lossesFrom) s m ([.ref h0, .long a0] : List Value).toArray below meth c s.heap [] 0 0 (MQ below (vp_Si (fun z => z = res)) ([.ref h0, .long a0] : List Value).toArray s 0 0 (fun _ => False)) (F0 m 8 ls []) := by
    intro n8
    induction n8 with
    | zero => intro v8_6 v8_4 v8_3 ls hl hf; rw [f_X3_lossesFrom_L8] at hf; cases hf
    | succ n8 ih8 =>
      intro v8_6 v8_4 v8_3 ls hl hf
      rw [f_X3_lossesFrom_L8] at hf
      refine lv_iload hx hb dX3_lossesFrom_8 (lv_at hl 0 rfl) ?_
      refine lv_aload_n hx hb dX3_lossesFrom_10 rfl (lv_at hl 3 rfl) ?_
      refine va_get (D := D) (ci := 3) (v := .int u.2.2) (C := RX3) (T := TX3) (N := 3) hx hb hts q2 hown hK hP 0 rfl rfl 2 (by decide) q1 (fun _ h9 => h9) rfl dX3_lossesFrom_11 ?_
      refine my_ic_ge (tgt := 77) hx hb dX3_lossesFrom_14 (by decide) (fun c1 => ?_) (fun c1 => ?_)
      · rw [if_neg c1] at hf
        refine lv_iload_n hx hb dX3_lossesFrom_77 rfl (lv_at hl 2 rfl) ?_
        exact W.iret (v := v8_3) hx hb hr (fun t ht hW => ⟨_, rfl, Option.some.inj hf, ht⟩) (fun q hq => absurd hq List.not_mem_nil) dX3_lossesFrom_78
      · rw [if_pos c1] at hf
        refine lv_aload_n hx hb dX3_lossesFrom_17 rfl (lv_at hl 3 rfl) ?_
        refine va_get (D := D) (ci := 3) (v := .ref h1) (C := RX3) (T := TX3) (N := 3) hx hb hts q2 hown hK hP 0 rfl rfl 0 (by decide) q3 (fun _ h9 => h9) rfl dX3_lossesFrom_18 ?_
        refine lv_iload hx hb dX3_lossesFrom_21 (lv_at hl 0 rfl) ?_
        obtain ⟨g2, hf⟩ := og_e hf
        refine va_cald hx hb hK hP 1 0 rfl rfl g2 dX3_lossesFrom_23 ?_
        refine lv_aload_n hx hb dX3_lossesFrom_24 rfl (lv_at hl 3 rfl) ?_
        refine va_get (D := D) (ci := 3) (v := .ref h2) (C := RX3) (T := TX3) (N := 3) hx hb hts q2 hown hK hP 0 rfl rfl 1 (by decide) q4 (fun _ h9 => h9) rfl dX3_lossesFrom_25 ?_
        refine lv_iload hx hb dX3_lossesFrom_28 (lv_at hl 0 rfl) ?_
        obtain ⟨g3, hf⟩ := og_e hf
        refine va_iald hx hb hK hP 2 1 rfl rfl g3 dX3_lossesFrom_30 ?_
        refine lv_lload hx hb dX3_lossesFrom_31 (lv_at hl 1 rfl) ?_
        refine my_callPl (As := [.int (u.1 v8_6.toNatClampNeg), .int (u.2.1 v8_6.toNatClampNeg), .long v8_4]) (n := 3) (rest := []) ⟨hx, hb, hml, hown, hts⟩ (m_X3_done l (u.1 v8_6.toNatClampNeg) (u.2.1 v8_6.toNatClampNeg) v8_4 _ rfl) gX3_lossesFrom_X3_done rfl ⟨rfl, rfl⟩ (by decide +kernel) ⟨Nat.le_of_ble_eq_true rfl, Nat.le_of_ble_eq_true rfl⟩ ⟨Nat.le_of_ble_eq_true rfl, Nat.le_of_ble_eq_true rfl⟩ hl.1 rfl rfl (Nat.le_of_ble_eq_true rfl) dX3_lossesFrom_33 ?_
        refine lv_lstore (lv' := [(7, .long (f_X3_done (u.1 v8_6.toNatClampNeg) (u.2.1 v8_6.toNatClampNeg) v8_4)), (6, .int v8_6), (4, .long v8_4), (3, .int v8_3), (0, .ref h0)]) hx hb dX3_lossesFrom_36 hl (by decide) rfl (fun ls hl => ?_)
        refine lv_aload_n hx hb dX3_lossesFrom_38 rfl (lv_at hl 4 rfl) ?_
        refine va_get (D := D) (ci := 3) (v := .ref h1) (C := RX3) (T := TX3) (N := 3) hx hb hts q2 hown hK hP 0 rfl rfl 0 (by decide) q3 (fun _ h9 => h9) rfl dX3_lossesFrom_39 ?_
        refine lv_iload hx hb dX3_lossesFrom_42 (lv_at hl 1 rfl) ?_
        obtain ⟨g4, hf⟩ := og_e hf
        refine va_cald hx hb hK hP 1 0 rfl rfl g4 dX3_lossesFrom_44 ?_
        refine lv_aload_n hx hb dX3_lossesFrom_45 rfl (lv_at hl 4 rfl) ?_
        refine va_get (D := D) (ci := 3) (v := .ref h2) (C := RX3) (T := TX3) (N := 3) hx hb hts q2 hown hK hP 0 rfl rfl 1 (by decide) q4 (fun _ h9 => h9) rfl dX3_lossesFrom_46 ?_
        refine lv_iload hx hb dX3_lossesFrom_49 (lv_at hl 1 rfl) ?_
        obtain ⟨g5, hf⟩ := og_e hf
        refine va_iald hx hb hK hP 2 1 rfl rfl g5 dX3_lossesFrom_51 ?_
        refine lv_ineg hx hb dX3_lossesFrom_52 ?_
        refine lv_lload hx hb dX3_lossesFrom_53 (lv_at hl 0 rfl) ?_
        refine my_callPl (As := [.int (u.1 v8_6.toNatClampNeg), .int (-(u.2.1 v8_6.toNatClampNeg)), .long (f_X3_done (u.1 v8_6.toNatClampNeg) (u.2.1 v8_6.toNatClampNeg) v8_4)]) (n := 3) (rest := []) ⟨hx, hb, hml, hown, hts⟩ (m_X3_done l (u.1 v8_6.toNatClampNeg) (-(u.2.1 v8_6.toNatClampNeg)) (f_X3_done (u.1 v8_6.toNatClampNeg) (u.2.1 v8_6.toNatClampNeg) v8_4) _ rfl) gX3_lossesFrom_X3_done rfl ⟨rfl, rfl⟩ (by decide +kernel) ⟨Nat.le_of_ble_eq_true rfl, Nat.le_of_ble_eq_true rfl⟩ ⟨Nat.le_of_ble_eq_true rfl, Nat.le_of_ble_eq_true rfl⟩ hl.1 rfl rfl (Nat.le_of_ble_eq_true rfl) dX3_lossesFrom_55 ?_
        refine lv_lload hx hb dX3_lossesFrom_58 (lv_at hl 2 rfl) ?_
        refine my_lc_eq (tgt := 67) hx hb dX3_lossesFrom_60 dX3_lossesFrom_61 (by decide) (fun c6 => ?_) (fun c6 => ?_)
        · rw [if_pos c6] at hf
          refine lv_lload hx hb dX3_lossesFrom_67 (lv_at hl 0 rfl) ?_
          refine lv_lstore (lv' := [(4, .long (f_X3_done (u.1 v8_6.toNatClampNeg) (u.2.1 v8_6.toNatClampNeg) v8_4)), (7, .long (f_X3_done (u.1 v8_6.toNatClampNeg) (u.2.1 v8_6.toNatClampNeg) v8_4)), (6, .int v8_6), (3, .int v8_3), (0, .ref h0)]) hx hb dX3_lossesFrom_69 hl (by decide) rfl (fun ls hl => ?_)
          refine lv_iinc (v := (v8_6 + 1)) (lv' := [(6, .int (v8_6 + 1)), (4, .long (f_X3_done (u.1 v8_6.toNatClampNeg) (u.2.1 v8_6.toNatClampNeg) v8_4)), (7, .long (f_X3_done (u.1 v8_6.toNatClampNeg) (u.2.1 v8_6.toNatClampNeg) v8_4)), (3, .int v8_3), (0, .ref h0)]) hx hb dX3_lossesFrom_71 hl (k := 2) rfl rfl (by decide) rfl (fun ls hl => ?_)
          refine lv_goto (tgt := 8) hx hb dX3_lossesFrom_74 (by decide) ?_
          exact ih8 (v8_6 + 1) (f_X3_done (u.1 v8_6.toNatClampNeg) (u.2.1 v8_6.toNatClampNeg) v8_4) v8_3 _ (lv_sub hl [0, 1, 3, 4] rfl) hf
        · rw [if_neg c6] at hf
          refine lv_iinc (v := (v8_3 + 1)) (lv' := [(3, .int (v8_3 + 1)), (7, .long (f_X3_done (u.1 v8_6.toNatClampNeg) (u.2.1 v8_6.toNatClampNeg) v8_4)), (6, .int v8_6), (4, .long v8_4), (0, .ref h0)]) hx hb dX3_lossesFrom_64 hl (k := 3) rfl rfl (by decide) rfl (fun ls hl => ?_)
          refine lv_lload hx hb dX3_lossesFrom_67 (lv_at hl 1 rfl) ?_
          refine lv_lstore (lv' := [(4, .long (f_X3_done (u.1 v8_6.toNatClampNeg) (u.2.1 v8_6.toNatClampNeg) v8_4)), (3, .int (v8_3 + 1)), (7, .long (f_X3_done (u.1 v8_6.toNatClampNeg) (u.2.1 v8_6.toNatClampNeg) v8_4)), (6, .int v8_6), (0, .ref h0)]) hx hb dX3_lossesFrom_69 hl (by decide) rfl (fun ls hl => ?_)
          refine lv_iinc (v := (v8_6 + 1)) (lv' := [(6, .int (v8_6 + 1)), (4, .long (f_X3_done (u.1 v8_6.toNatClampNeg) (u.2.1 v8_6.toNatClampNeg) v8_4)), (3, .int (v8_3 + 1)), (7, .long (f_X3_done (u.1 v8_6.toNatClampNeg) (u.2.1 v8_6.toNatClampNeg) v8_4)), (0, .ref h0)]) hx hb dX3_lossesFrom_71 hl (k := 3) rfl rfl (by decide) rfl (fun ls hl => ?_)
          refine lv_goto (tgt := 8) hx hb dX3_lossesFrom_74 (by decide) ?_
          exact ih8 (v8_6 + 1) (f_X3_done (u.1 v8_6.toNatClampNeg) (u.2.1 v8_6.toNatClampNeg) v8_4) (v8_3 + 1) _ (lv_sub hl [0, 1, 2, 4] rfl) hf
  exact loop8 100 0 a0 0 _ (lv_sub hl [0, 1, 2, 3] rfl) hf

set_option maxHeartbeats 4000000 in
set_option maxRecDepth 100000 in
theorem m_X3_addedTo (l : Launch) (D : va_G) (cC cI cJ : ClassId) (h0 h1 h2 : Nat) (u : StR) (a0 : Int64) (res : Int64) (hf : f_X3_addedTo u a0 = some res) : Met l yX3_addedTo wsX3_addedTo rmX3_addedTo (my_PcR D vwCl (KT cC cI cJ) (wR cC cI h0 h1 h2 u) [.ref h0, .long a0]) (vp_Sl (fun z => z = res)) 0 0 (fun _ => False) := by
  refine Met.ofW (cc := cX3_addedTo) (maxL := 6) (ret := (some .long)) (by decide) rfl ?_
  intro p e s m args below meth c s₁ B hml hv
  obtain ⟨rfl, hP, hK⟩ := hv
  have hx := B.exec
  have hb := B.bytes
  have hr := B.returns
  have hts : ∀ w ∈ wsX3_addedTo, w.before ([.ref h0, .long a0] : List Value).toArray s = true := atoms_spec (ws := wsX3_addedTo) B.pre
  have hown : s.vm.findClass RX3 = some m.cls := findClass_of_methodNamed B.named
  have hlk : meth.locks = false := B.notSynchronized
  have hP : va_P D vwCl [(h0, .inr (3, [.ref h1, .ref h2, .int u.2.2])), (h1, .inl (cC, 40, .inl u.1)), (h2, .inl (cI, 40, .inl u.2.1))] s.heap := hP
  have q1 := hts (.constantLong RX3 36 (31)) (by decide +kernel)
  have q2 := hts (.fieldLink RX3 17 "Doubleline$Row" "size" "I") (by decide +kernel)
  have q3 : ∀ w ∈ u_ws RX3 TX3 3, w ∈ wsX3_addedTo := by decide +kernel
  have q4 := hts (.fieldLink RX3 9 "Doubleline$Row" "kinds" "[C") (by decide +kernel)
  have q5 := hts (.fieldLink RX3 13 "Doubleline$Row" "counts" "[I") (by decide +kernel)
  have hl := lv_entry ([.ref h0, .long a0]) (n := 6) (Nat.le_of_ble_eq_true rfl)
  rw [lg_entry_eq]
  generalize (lg_sl ([.ref h0, .long a0]) ++ List.replicate (6 - (lg_sl ([.ref h0, .long a0])).length) Slot.unset).toArray = ls at hl ⊢
  have hl : lv_has ls 6 [(0, .ref h0), (1, .long a0)] := hl
  unfold f_X3_addedTo at hf
  refine lv_ldc2 (v := 31) hx hb hown q1 dX3_addedTo_0 ?_
  refine lv_lload_n hx hb dX3_addedTo_3 rfl (lv_at hl 1 rfl) ?_
  refine lv_lmul hx hb dX3_addedTo_4 ?_
  refine lv_aload_n hx hb dX3_addedTo_5 rfl (lv_at hl 0 rfl) ?_
  refine va_get (D := D) (ci := 3) (v := .int u.2.2) (C := RX3) (T := TX3) (N := 3) hx hb hts q3 hown hK hP 0 rfl rfl 2 (by decide) q2 (fun _ h9 => h9) rfl dX3_addedTo_6 ?_
  refine lv_i2l (v := (u.2.2.toInt64)) hx hb dX3_addedTo_9 rfl ?_
  refine lv_ladd hx hb dX3_addedTo_10 ?_
  refine lv_lstore_n (lv' := [(3, .long ((31 * a0) + (u.2.2.toInt64))), (0, .ref h0), (1, .long a0)]) hx hb dX3_addedTo_11 rfl hl (by decide) rfl (fun ls hl => ?_)
  refine lv_iconst (v := 0) hx hb dX3_addedTo_12 (by decide) ?_
  refine lv_istore (lv' := [(5, .int 0), (3, .long ((31 * a0) + (u.2.2.toInt64))), (0, .ref h0), (1, .long a0)]) hx hb dX3_addedTo_13 hl (by decide) rfl (fun ls hl => ?_)
  have loop15 : ∀ (n15 : Nat) (v15_5 : Int32) (v15_3 : Int64) (ls : Array Slot), lv_has ls 6 [(5, .int v15_5), (3, .long v15_3), (0, .ref h0)] → f_X3_addedTo_L15 u a0 n15 v15_5 v15_3 = some res → W p l e (rmX3_addedTo) s m ([.ref h0, .long a0] : List Value).toArray below meth c s.heap [] 0 0 (MQ below (vp_Sl (fun z => z = res)) ([.ref h0, .long a0] : List Value).toArray s 0 0 (fun _ => False)) (F0 m 15 ls []) := by
    intro n15
    induction n15 with
    | zero => intro v15_5 v15_3 ls hl hf; rw [f_X3_addedTo_L15] at hf; cases hf
    | succ n15 ih15 =>
      intro v15_5 v15_3 ls hl hf
      rw [f_X3_addedTo_L15] at hf
      refine lv_iload hx hb dX3_addedTo_15 (lv_at hl 0 rfl) ?_
      refine lv_aload_n hx hb dX3_addedTo_17 rfl (lv_at hl 2 rfl) ?_
      refine va_get (D := D) (ci := 3) (v := .int u.2.2) (C := RX3) (T := TX3) (N := 3) hx hb hts q3 hown hK hP 0 rfl rfl 2 (by decide) q2 (fun _ h9 => h9) rfl dX3_addedTo_18 ?_
      refine my_ic_ge (tgt := 60) hx hb dX3_addedTo_21 (by decide) (fun c1 => ?_) (fun c1 => ?_)
      · rw [if_neg c1] at hf
        refine lv_lload_n hx hb dX3_addedTo_60 rfl (lv_at hl 1 rfl) ?_
        exact W.lret (v := v15_3) hx hb hr (fun t ht hW => ⟨_, rfl, Option.some.inj hf, ht⟩) (fun q hq => absurd hq List.not_mem_nil) dX3_addedTo_61
      · rw [if_pos c1] at hf
        refine lv_ldc2 (v := 31) hx hb hown q1 dX3_addedTo_24 ?_
        refine lv_lload_n hx hb dX3_addedTo_27 rfl (lv_at hl 1 rfl) ?_
        refine lv_lmul hx hb dX3_addedTo_28 ?_
        refine lv_aload_n hx hb dX3_addedTo_29 rfl (lv_at hl 2 rfl) ?_
        refine va_get (D := D) (ci := 3) (v := .ref h1) (C := RX3) (T := TX3) (N := 3) hx hb hts q3 hown hK hP 0 rfl rfl 0 (by decide) q4 (fun _ h9 => h9) rfl dX3_addedTo_30 ?_
        refine lv_iload hx hb dX3_addedTo_33 (lv_at hl 0 rfl) ?_
        obtain ⟨g2, hf⟩ := og_e hf
        refine va_cald hx hb hK hP 1 0 rfl rfl g2 dX3_addedTo_35 ?_
        refine lv_i2l (v := ((u.1 v15_5.toNatClampNeg).toInt64)) hx hb dX3_addedTo_36 rfl ?_
        refine lv_ladd hx hb dX3_addedTo_37 ?_
        refine lv_lstore_n (lv' := [(3, .long ((31 * v15_3) + ((u.1 v15_5.toNatClampNeg).toInt64))), (5, .int v15_5), (0, .ref h0)]) hx hb dX3_addedTo_38 rfl hl (by decide) rfl (fun ls hl => ?_)
        refine lv_ldc2 (v := 31) hx hb hown q1 dX3_addedTo_39 ?_
        refine lv_lload_n hx hb dX3_addedTo_42 rfl (lv_at hl 0 rfl) ?_
        refine lv_lmul hx hb dX3_addedTo_43 ?_
        refine lv_aload_n hx hb dX3_addedTo_44 rfl (lv_at hl 2 rfl) ?_
        refine va_get (D := D) (ci := 3) (v := .ref h2) (C := RX3) (T := TX3) (N := 3) hx hb hts q3 hown hK hP 0 rfl rfl 1 (by decide) q5 (fun _ h9 => h9) rfl dX3_addedTo_45 ?_
        refine lv_iload hx hb dX3_addedTo_48 (lv_at hl 1 rfl) ?_
        obtain ⟨g3, hf⟩ := og_e hf
        refine va_iald hx hb hK hP 2 1 rfl rfl g3 dX3_addedTo_50 ?_
        refine lv_i2l (v := ((u.2.1 v15_5.toNatClampNeg).toInt64)) hx hb dX3_addedTo_51 rfl ?_
        refine lv_ladd hx hb dX3_addedTo_52 ?_
        refine lv_lstore_n (lv' := [(3, .long ((31 * ((31 * v15_3) + ((u.1 v15_5.toNatClampNeg).toInt64))) + ((u.2.1 v15_5.toNatClampNeg).toInt64))), (5, .int v15_5), (0, .ref h0)]) hx hb dX3_addedTo_53 rfl hl (by decide) rfl (fun ls hl => ?_)
        refine lv_iinc (v := (v15_5 + 1)) (lv' := [(5, .int (v15_5 + 1)), (3, .long ((31 * ((31 * v15_3) + ((u.1 v15_5.toNatClampNeg).toInt64))) + ((u.2.1 v15_5.toNatClampNeg).toInt64))), (0, .ref h0)]) hx hb dX3_addedTo_54 hl (k := 1) rfl rfl (by decide) rfl (fun ls hl => ?_)
        refine lv_goto (tgt := 15) hx hb dX3_addedTo_57 (by decide) ?_
        exact ih15 (v15_5 + 1) ((31 * ((31 * v15_3) + ((u.1 v15_5.toNatClampNeg).toInt64))) + ((u.2.1 v15_5.toNatClampNeg).toInt64)) _ (lv_sub hl [0, 1, 2] rfl) hf
  exact loop15 100 0 ((31 * a0) + (u.2.2.toInt64)) _ (lv_sub hl [0, 1, 2] rfl) hf
