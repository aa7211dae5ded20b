set_option maxHeartbeats 4000000 in
set_option maxRecDepth 100000 in
theorem m_X0_placeOf (l : Launch) (a0 : Int64) (res : Int64) (hf : f_X0_placeOf a0 = res) : Met l yX0_placeOf wsX0_placeOf rmX0_placeOf (my_PcP [.long a0]) (vp_Sl (fun z => z = res)) 0 0 (fun _ => False) := by
  refine Met.ofW (cc := cX0_placeOf) (maxL := 2) (ret := (some .long)) (by decide) rfl ?_
  intro p e s m args below meth c s₁ B hml hv
  obtain ⟨rfl, -⟩ := hv
  have hx := B.exec
  have hb := B.bytes
  have hr := B.returns
  have hts : ∀ w ∈ wsX0_placeOf, w.before ([.long a0] : List Value).toArray s = true := atoms_spec (ws := wsX0_placeOf) B.pre
  have hown : s.vm.findClass RX0 = some m.cls := findClass_of_methodNamed B.named
  have hlk : meth.locks = false := B.notSynchronized
  have q1 := hts (.constantLong RX0 9 (-9223372036854775808)) (by decide +kernel)
  have hl := lv_entry ([.long a0]) (n := 2) (Nat.le_of_ble_eq_true rfl)
  rw [lg_entry_eq]
  generalize (lg_sl ([.long a0]) ++ List.replicate (2 - (lg_sl ([.long a0])).length) Slot.unset).toArray = ls at hl ⊢
  have hl : lv_has ls 2 [(0, .long a0)] := hl
  unfold f_X0_placeOf at hf
  refine lv_lload_n hx hb dX0_placeOf_0 rfl (lv_at hl 0 rfl) ?_
  refine lv_lconst (v := 0) hx hb dX0_placeOf_1 (by decide) ?_
  refine my_lc_lt (tgt := 10) hx hb dX0_placeOf_2 dX0_placeOf_3 (by decide) (fun c1 => ?_) (fun c1 => ?_)
  · rw [if_pos c1] at hf
    refine lv_ldc2 (v := (-9223372036854775808)) hx hb hown q1 dX0_placeOf_10 ?_
    refine lv_lload_n hx hb dX0_placeOf_13 rfl (lv_at hl 0 rfl) ?_
    refine lv_lsub hx hb dX0_placeOf_14 ?_
    exact W.lret (v := ((-9223372036854775808) - a0)) hx hb hr (fun t ht hW => ⟨_, rfl, hf, ht⟩) (fun q hq => absurd hq List.not_mem_nil) dX0_placeOf_15
  · rw [if_neg c1] at hf
    refine lv_lload_n hx hb dX0_placeOf_6 rfl (lv_at hl 0 rfl) ?_
    refine lv_goto (tgt := 15) hx hb dX0_placeOf_7 (by decide) ?_
    exact W.lret (v := a0) hx hb hr (fun t ht hW => ⟨_, rfl, hf, ht⟩) (fun q hq => absurd hq List.not_mem_nil) dX0_placeOf_15

set_option maxHeartbeats 4000000 in
set_option maxRecDepth 100000 in
theorem m_X0_atPlace (l : Launch) (a0 : Int64) (res : Int64) (hf : f_X0_atPlace a0 = res) : Met l yX0_atPlace wsX0_atPlace rmX0_atPlace (my_PcP [.long a0]) (vp_Sl (fun z => z = res)) 0 0 (fun _ => False) := by
  refine Met.ofW (cc := cX0_atPlace) (maxL := 2) (ret := (some .long)) (by decide) rfl ?_
  intro p e s m args below meth c s₁ B hml hv
  obtain ⟨rfl, -⟩ := hv
  have hx := B.exec
  have hb := B.bytes
  have hr := B.returns
  have hts : ∀ w ∈ wsX0_atPlace, w.before ([.long a0] : List Value).toArray s = true := atoms_spec (ws := wsX0_atPlace) B.pre
  have hown : s.vm.findClass RX0 = some m.cls := findClass_of_methodNamed B.named
  have hlk : meth.locks = false := B.notSynchronized
  have q1 := hts (.constantLong RX0 9 (-9223372036854775808)) (by decide +kernel)
  have hl := lv_entry ([.long a0]) (n := 2) (Nat.le_of_ble_eq_true rfl)
  rw [lg_entry_eq]
  generalize (lg_sl ([.long a0]) ++ List.replicate (2 - (lg_sl ([.long a0])).length) Slot.unset).toArray = ls at hl ⊢
  have hl : lv_has ls 2 [(0, .long a0)] := hl
  unfold f_X0_atPlace at hf
  refine lv_lload_n hx hb dX0_atPlace_0 rfl (lv_at hl 0 rfl) ?_
  refine lv_lconst (v := 0) hx hb dX0_atPlace_1 (by decide) ?_
  refine my_lc_lt (tgt := 10) hx hb dX0_atPlace_2 dX0_atPlace_3 (by decide) (fun c1 => ?_) (fun c1 => ?_)
  · rw [if_pos c1] at hf
    refine lv_ldc2 (v := (-9223372036854775808)) hx hb hown q1 dX0_atPlace_10 ?_
    refine lv_lload_n hx hb dX0_atPlace_13 rfl (lv_at hl 0 rfl) ?_
    refine lv_lsub hx hb dX0_atPlace_14 ?_
    exact W.lret (v := ((-9223372036854775808) - a0)) hx hb hr (fun t ht hW => ⟨_, rfl, hf, ht⟩) (fun q hq => absurd hq List.not_mem_nil) dX0_atPlace_15
  · rw [if_neg c1] at hf
    refine lv_lload_n hx hb dX0_atPlace_6 rfl (lv_at hl 0 rfl) ?_
    refine lv_goto (tgt := 15) hx hb dX0_atPlace_7 (by decide) ?_
    exact W.lret (v := a0) hx hb hr (fun t ht hW => ⟨_, rfl, hf, ht⟩) (fun q hq => absurd hq List.not_mem_nil) dX0_atPlace_15

set_option maxHeartbeats 4000000 in
set_option maxRecDepth 100000 in
theorem m_X0_opposite (l : Launch) (a0 : Int64) (res : Int64) (hf : f_X0_opposite a0 = res) : Met l yX0_opposite wsX0_opposite rmX0_opposite (my_PcP [.long a0]) (vp_Sl (fun z => z = res)) 0 0 (fun _ => False) := by
  refine Met.ofW (cc := cX0_opposite) (maxL := 2) (ret := (some .long)) (by decide) rfl ?_
  intro p e s m args below meth c s₁ B hml hv
  obtain ⟨rfl, -⟩ := hv
  have hx := B.exec
  have hb := B.bytes
  have hr := B.returns
  have hts : ∀ w ∈ wsX0_opposite, w.before ([.long a0] : List Value).toArray s = true := atoms_spec (ws := wsX0_opposite) B.pre
  have hown : s.vm.findClass RX0 = some m.cls := findClass_of_methodNamed B.named
  have hlk : meth.locks = false := B.notSynchronized
  have q1 := hts (.constantLong RX0 9 (-9223372036854775808)) (by decide +kernel)
  have hl := lv_entry ([.long a0]) (n := 2) (Nat.le_of_ble_eq_true rfl)
  rw [lg_entry_eq]
  generalize (lg_sl ([.long a0]) ++ List.replicate (2 - (lg_sl ([.long a0])).length) Slot.unset).toArray = ls at hl ⊢
  have hl : lv_has ls 2 [(0, .long a0)] := hl
  unfold f_X0_opposite at hf
  refine lv_lload_n hx hb dX0_opposite_0 rfl (lv_at hl 0 rfl) ?_
  refine lv_ldc2 (v := (-9223372036854775808)) hx hb hown q1 dX0_opposite_1 ?_
  refine lv_lxor hx hb dX0_opposite_4 ?_
  exact W.lret (v := (a0 ^^^ (-9223372036854775808))) hx hb hr (fun t ht hW => ⟨_, rfl, hf, ht⟩) (fun q hq => absurd hq List.not_mem_nil) dX0_opposite_5

set_option maxHeartbeats 4000000 in
set_option maxRecDepth 100000 in
theorem m_X0_sizeOf (l : Launch) (a0 : Int64) (res : Int64) (hf : f_X0_sizeOf a0 = res) : Met l yX0_sizeOf wsX0_sizeOf rmX0_sizeOf (my_PcP [.long a0]) (vp_Sl (fun z => z = res)) 0 0 (fun _ => False) := by
  refine Met.ofW (cc := cX0_sizeOf) (maxL := 2) (ret := (some .long)) (by decide) rfl ?_
  intro p e s m args below meth c s₁ B hml hv
  obtain ⟨rfl, -⟩ := hv
  have hx := B.exec
  have hb := B.bytes
  have hr := B.returns
  have hts : ∀ w ∈ wsX0_sizeOf, w.before ([.long a0] : List Value).toArray s = true := atoms_spec (ws := wsX0_sizeOf) B.pre
  have hown : s.vm.findClass RX0 = some m.cls := findClass_of_methodNamed B.named
  have hlk : meth.locks = false := B.notSynchronized
  have q1 := hts (.constantLong RX0 11 (9223372036854775807)) (by decide +kernel)
  have hl := lv_entry ([.long a0]) (n := 2) (Nat.le_of_ble_eq_true rfl)
  rw [lg_entry_eq]
  generalize (lg_sl ([.long a0]) ++ List.replicate (2 - (lg_sl ([.long a0])).length) Slot.unset).toArray = ls at hl ⊢
  have hl : lv_has ls 2 [(0, .long a0)] := hl
  unfold f_X0_sizeOf at hf
  refine lv_lload_n hx hb dX0_sizeOf_0 rfl (lv_at hl 0 rfl) ?_
  refine lv_ldc2 (v := 9223372036854775807) hx hb hown q1 dX0_sizeOf_1 ?_
  refine lv_land hx hb dX0_sizeOf_4 ?_
  exact W.lret (v := (a0 &&& 9223372036854775807)) hx hb hr (fun t ht hW => ⟨_, rfl, hf, ht⟩) (fun q hq => absurd hq List.not_mem_nil) dX0_sizeOf_5

set_option maxHeartbeats 4000000 in
set_option maxRecDepth 100000 in
theorem m_X0_isZero (l : Launch) (a0 : Int64) (res : Bool) (hf : f_X0_isZero a0 = res) : Met l yX0_isZero wsX0_isZero rmX0_isZero (my_PcP [.long a0]) (vp_Si (fun z => z = b2i res)) 0 0 (fun _ => False) := by
  refine Met.ofW (cc := cX0_isZero) (maxL := 2) (ret := (some .boolean)) (by decide) rfl ?_
  intro p e s m args below meth c s₁ B hml hv
  obtain ⟨rfl, -⟩ := hv
  have hx := B.exec
  have hb := B.bytes
  have hr := B.returns
  have hts : ∀ w ∈ wsX0_isZero, w.before ([.long a0] : List Value).toArray s = true := atoms_spec (ws := wsX0_isZero) B.pre
  have hown : s.vm.findClass RX0 = some m.cls := findClass_of_methodNamed B.named
  have hlk : meth.locks = false := B.notSynchronized
  have hl := lv_entry ([.long a0]) (n := 2) (Nat.le_of_ble_eq_true rfl)
  rw [lg_entry_eq]
  generalize (lg_sl ([.long a0]) ++ List.replicate (2 - (lg_sl ([.long a0])).length) Slot.unset).toArray = ls at hl ⊢
  have hl : lv_has ls 2 [(0, .long a0)] := hl
  unfold f_X0_isZero at hf
  refine lv_lload_n hx hb dX0_isZero_0 rfl (lv_at hl 0 rfl) ?_
  refine my_callPl (As := [.long a0]) (n := 1) (rest := []) ⟨hx, hb, hml, hown, hts⟩ (m_X0_sizeOf l a0 _ rfl) gX0_isZero_X0_sizeOf rfl ⟨rfl, rfl⟩ (by decide +kernel) ⟨Nat.le_of_ble_eq_true rfl, Nat.le_of_ble_eq_true rfl⟩ ⟨Nat.le_of_ble_eq_true rfl, Nat.le_of_ble_eq_true rfl⟩ hl.1 rfl rfl (Nat.le_of_ble_eq_true rfl) dX0_isZero_1 ?_
  refine lv_lconst (v := 0) hx hb dX0_isZero_4 (by decide) ?_
  refine my_lc_ne (tgt := 13) hx hb dX0_isZero_5 dX0_isZero_6 (by decide) (fun c1 => ?_) (fun c1 => ?_)
  · rw [if_neg c1] at hf
    refine lv_iconst (v := 0) hx hb dX0_isZero_13 (by decide) ?_
    exact W.zret (v := b2i false) (ty := .boolean) hx hb hr (b2i_nar _) (fun t ht hW => ⟨_, rfl, congrArg b2i (hf), ht⟩) (fun q hq => absurd hq List.not_mem_nil) dX0_isZero_14
  · rw [if_pos c1] at hf
    refine lv_iconst (v := 1) hx hb dX0_isZero_9 (by decide) ?_
    refine lv_goto (tgt := 14) hx hb dX0_isZero_10 (by decide) ?_
    exact W.zret (v := b2i true) (ty := .boolean) hx hb hr (b2i_nar _) (fun t ht hW => ⟨_, rfl, congrArg b2i (hf), ht⟩) (fun q hq => absurd hq List.not_mem_nil) dX0_isZero_14

set_option maxHeartbeats 4000000 in
set_option maxRecDepth 100000 in
theorem m_X0_hasNoEnd (l : Launch) (a0 : Int64) (res : Bool) (hf : f_X0_hasNoEnd a0 = res) : Met l yX0_hasNoEnd wsX0_hasNoEnd rmX0_hasNoEnd (my_PcP [.long a0]) (vp_Si (fun z => z = b2i res)) 0 0 (fun _ => False) := by
  refine Met.ofW (cc := cX0_hasNoEnd) (maxL := 2) (ret := (some .boolean)) (by decide) rfl ?_
  intro p e s m args below meth c s₁ B hml hv
  obtain ⟨rfl, -⟩ := hv
  have hx := B.exec
  have hb := B.bytes
  have hr := B.returns
  have hts : ∀ w ∈ wsX0_hasNoEnd, w.before ([.long a0] : List Value).toArray s = true := atoms_spec (ws := wsX0_hasNoEnd) B.pre
  have hown : s.vm.findClass RX0 = some m.cls := findClass_of_methodNamed B.named
  have hlk : meth.locks = false := B.notSynchronized
  have q1 := hts (.constantLong RX0 17 (9218868437227405312)) (by decide +kernel)
  have hl := lv_entry ([.long a0]) (n := 2) (Nat.le_of_ble_eq_true rfl)
  rw [lg_entry_eq]
  generalize (lg_sl ([.long a0]) ++ List.replicate (2 - (lg_sl ([.long a0])).length) Slot.unset).toArray = ls at hl ⊢
  have hl : lv_has ls 2 [(0, .long a0)] := hl
  unfold f_X0_hasNoEnd at hf
  refine lv_lload_n hx hb dX0_hasNoEnd_0 rfl (lv_at hl 0 rfl) ?_
  refine my_callPl (As := [.long a0]) (n := 1) (rest := []) ⟨hx, hb, hml, hown, hts⟩ (m_X0_sizeOf l a0 _ rfl) gX0_hasNoEnd_X0_sizeOf rfl ⟨rfl, rfl⟩ (by decide +kernel) ⟨Nat.le_of_ble_eq_true rfl, Nat.le_of_ble_eq_true rfl⟩ ⟨Nat.le_of_ble_eq_true rfl, Nat.le_of_ble_eq_true rfl⟩ hl.1 rfl rfl (Nat.le_of_ble_eq_true rfl) dX0_hasNoEnd_1 ?_
  refine lv_ldc2 (v := 9218868437227405312) hx hb hown q1 dX0_hasNoEnd_4 ?_
  refine my_lc_ne (tgt := 15) hx hb dX0_hasNoEnd_7 dX0_hasNoEnd_8 (by decide) (fun c1 => ?_) (fun c1 => ?_)
  · rw [if_neg c1] at hf
    refine lv_iconst (v := 0) hx hb dX0_hasNoEnd_15 (by decide) ?_
    exact W.zret (v := b2i false) (ty := .boolean) hx hb hr (b2i_nar _) (fun t ht hW => ⟨_, rfl, congrArg b2i (hf), ht⟩) (fun q hq => absurd hq List.not_mem_nil) dX0_hasNoEnd_16
  · rw [if_pos c1] at hf
    refine lv_iconst (v := 1) hx hb dX0_hasNoEnd_11 (by decide) ?_
    refine lv_goto (tgt := 16) hx hb dX0_hasNoEnd_12 (by decide) ?_
    exact W.zret (v := b2i true) (ty := .boolean) hx hb hr (b2i_nar _) (fun t ht hW => ⟨_, rfl, congrArg b2i (hf), ht⟩) (fun q hq => absurd hq List.not_mem_nil) dX0_hasNoEnd_16

set_option maxHeartbeats 4000000 in
set_option maxRecDepth 100000 in
theorem m_X0_exponentBits (l : Launch) (a0 : Int64) (res : Int32) (hf : f_X0_exponentBits a0 = res) : Met l yX0_exponentBits wsX0_exponentBits rmX0_exponentBits (my_PcP [.long a0]) (vp_Si (fun z => z = res)) 0 0 (fun _ => False) := by
  refine Met.ofW (cc := cX0_exponentBits) (maxL := 2) (ret := (some .int)) (by decide) rfl ?_
  intro p e s m args below meth c s₁ B hml hv
  obtain ⟨rfl, -⟩ := hv
  have hx := B.exec
  have hb := B.bytes
  have hr := B.returns
  have hts : ∀ w ∈ wsX0_exponentBits, w.before ([.long a0] : List Value).toArray s = true := atoms_spec (ws := wsX0_exponentBits) B.pre
  have hown : s.vm.findClass RX0 = some m.cls := findClass_of_methodNamed B.named
  have hlk : meth.locks = false := B.notSynchronized
  have hl := lv_entry ([.long a0]) (n := 2) (Nat.le_of_ble_eq_true rfl)
  rw [lg_entry_eq]
  generalize (lg_sl ([.long a0]) ++ List.replicate (2 - (lg_sl ([.long a0])).length) Slot.unset).toArray = ls at hl ⊢
  have hl : lv_has ls 2 [(0, .long a0)] := hl
  unfold f_X0_exponentBits at hf
  refine lv_lload_n hx hb dX0_exponentBits_0 rfl (lv_at hl 0 rfl) ?_
  refine lv_bipush (v := 52) hx hb dX0_exponentBits_1 (by decide) ?_
  refine lv_lshr (v := (jshr a0 52)) hx hb dX0_exponentBits_3 rfl ?_
  refine lv_l2i (v := ((jshr a0 52).toInt32)) hx hb dX0_exponentBits_4 rfl ?_
  refine lv_sipush (v := 2047) hx hb dX0_exponentBits_5 (by decide) ?_
  refine lv_iand hx hb dX0_exponentBits_8 ?_
  exact W.iret (v := (((jshr a0 52).toInt32) &&& 2047)) hx hb hr (fun t ht hW => ⟨_, rfl, hf, ht⟩) (fun q hq => absurd hq List.not_mem_nil) dX0_exponentBits_9

set_option maxHeartbeats 4000000 in
set_option maxRecDepth 100000 in
theorem m_X0_whole (l : Launch) (a0 : Int64) (res : Int64) (hf : f_X0_whole a0 = res) : Met l yX0_whole wsX0_whole rmX0_whole (my_PcP [.long a0]) (vp_Sl (fun z => z = res)) 0 0 (fun _ => False) := by
  refine Met.ofW (cc := cX0_whole) (maxL := 4) (ret := (some .long)) (by decide) rfl ?_
  intro p e s m args below meth c s₁ B hml hv
  obtain ⟨rfl, -⟩ := hv
  have hx := B.exec
  have hb := B.bytes
  have hr := B.returns
  have hts : ∀ w ∈ wsX0_whole, w.before ([.long a0] : List Value).toArray s = true := atoms_spec (ws := wsX0_whole) B.pre
  have hown : s.vm.findClass RX0 = some m.cls := findClass_of_methodNamed B.named
  have hlk : meth.locks = false := B.notSynchronized
  have q1 := hts (.constantLong RX0 86 (4503599627370495)) (by decide +kernel)
  have q2 := hts (.constantLong RX0 88 (4503599627370496)) (by decide +kernel)
  have hl := lv_entry ([.long a0]) (n := 4) (Nat.le_of_ble_eq_true rfl)
  rw [lg_entry_eq]
  generalize (lg_sl ([.long a0]) ++ List.replicate (4 - (lg_sl ([.long a0])).length) Slot.unset).toArray = ls at hl ⊢
  have hl : lv_has ls 4 [(0, .long a0)] := hl
  unfold f_X0_whole at hf
  refine lv_lload_n hx hb dX0_whole_0 rfl (lv_at hl 0 rfl) ?_
  refine lv_ldc2 (v := 4503599627370495) hx hb hown q1 dX0_whole_1 ?_
  refine lv_land hx hb dX0_whole_4 ?_
  refine lv_lstore_n (lv' := [(2, .long (a0 &&& 4503599627370495)), (0, .long a0)]) hx hb dX0_whole_5 rfl hl (by decide) rfl (fun ls hl => ?_)
  refine lv_lload_n hx hb dX0_whole_6 rfl (lv_at hl 1 rfl) ?_
  refine my_callPi (As := [.long a0]) (n := 1) (rest := []) ⟨hx, hb, hml, hown, hts⟩ (m_X0_exponentBits l a0 _ rfl) gX0_whole_X0_exponentBits rfl ⟨rfl, rfl⟩ (by decide +kernel) ⟨Nat.le_of_ble_eq_true rfl, Nat.le_of_ble_eq_true rfl⟩ ⟨Nat.le_of_ble_eq_true rfl, Nat.le_of_ble_eq_true rfl⟩ hl.1 rfl rfl (Nat.le_of_ble_eq_true rfl) dX0_whole_7 ?_
  refine my_if_ne (tgt := 17) hx hb dX0_whole_10 (by decide) (fun c1 => ?_) (fun c1 => ?_)
  · rw [if_neg c1] at hf
    refine lv_lload_n hx hb dX0_whole_17 rfl (lv_at hl 0 rfl) ?_
    refine lv_ldc2 (v := 4503599627370496) hx hb hown q2 dX0_whole_18 ?_
    refine lv_lor hx hb dX0_whole_21 ?_
    exact W.lret (v := ((a0 &&& 4503599627370495) ||| 4503599627370496)) hx hb hr (fun t ht hW => ⟨_, rfl, hf, ht⟩) (fun q hq => absurd hq List.not_mem_nil) dX0_whole_22
  · rw [if_pos c1] at hf
    refine lv_lload_n hx hb dX0_whole_13 rfl (lv_at hl 0 rfl) ?_
    refine lv_goto (tgt := 22) hx hb dX0_whole_14 (by decide) ?_
    exact W.lret (v := (a0 &&& 4503599627370495)) hx hb hr (fun t ht hW => ⟨_, rfl, hf, ht⟩) (fun q hq => absurd hq List.not_mem_nil) dX0_whole_22

set_option maxHeartbeats 4000000 in
set_option maxRecDepth 100000 in
theorem m_J6_numberOfTrailingZeros_0f7a4 (l : Launch) (a0 : Int32) (res : Int32) (hf : f_J6_numberOfTrailingZeros_0f7a4 a0 = res) : Met l yJ6_numberOfTrailingZeros_0f7a4 wsJ6_numberOfTrailingZeros_0f7a4 rmJ6_numberOfTrailingZeros_0f7a4 (my_PcP [.int a0]) (vp_Si (fun z => z = res)) 0 0 (fun _ => False) := by
  refine Met.ofW (cc := cJ6_numberOfTrailingZeros_0f7a4) (maxL := 2) (ret := (some .int)) (by decide) rfl ?_
  intro p e s m args below meth c s₁ B hml hv
  obtain ⟨rfl, -⟩ := hv
  have hx := B.exec
  have hb := B.bytes
  have hr := B.returns
  have hts : ∀ w ∈ wsJ6_numberOfTrailingZeros_0f7a4, w.before ([.int a0] : List Value).toArray s = true := atoms_spec (ws := wsJ6_numberOfTrailingZeros_0f7a4) B.pre
  have hown : s.vm.findClass RJ6 = some m.cls := findClass_of_methodNamed B.named
  have hlk : meth.locks = false := B.notSynchronized
  have q1 := hts (.constant RJ6 264 (65536)) (by decide +kernel)
  have hl := lv_entry ([.int a0]) (n := 2) (Nat.le_of_ble_eq_true rfl)
  rw [lg_entry_eq]
  generalize (lg_sl ([.int a0]) ++ List.replicate (2 - (lg_sl ([.int a0])).length) Slot.unset).toArray = ls at hl ⊢
  have hl : lv_has ls 2 [(0, .int a0)] := hl
  unfold f_J6_numberOfTrailingZeros_0f7a4 at hf
  refine lv_iload_n hx hb dJ6_numberOfTrailingZeros_0f7a4_0 rfl (lv_at hl 0 rfl) ?_
  refine lv_iconst (v := (-1)) hx hb dJ6_numberOfTrailingZeros_0f7a4_1 (by decide) ?_
  refine lv_ixor hx hb dJ6_numberOfTrailingZeros_0f7a4_2 ?_
  refine lv_iload_n hx hb dJ6_numberOfTrailingZeros_0f7a4_3 rfl (lv_at hl 0 rfl) ?_
  refine lv_iconst (v := 1) hx hb dJ6_numberOfTrailingZeros_0f7a4_4 (by decide) ?_
  refine lv_isub hx hb dJ6_numberOfTrailingZeros_0f7a4_5 ?_
  refine lv_iand hx hb dJ6_numberOfTrailingZeros_0f7a4_6 ?_
  refine lv_istore_n (lv' := [(0, .int ((a0 ^^^ (-1)) &&& (a0 - 1)))]) hx hb dJ6_numberOfTrailingZeros_0f7a4_7 rfl hl (by decide) rfl (fun ls hl => ?_)
  refine lv_iload_n hx hb dJ6_numberOfTrailingZeros_0f7a4_8 rfl (lv_at hl 0 rfl) ?_
  refine my_if_gt (tgt := 17) hx hb dJ6_numberOfTrailingZeros_0f7a4_9 (by decide) (fun c1 => ?_) (fun c1 => ?_)
  · rw [if_pos c1] at hf
    refine lv_iconst (v := 1) hx hb dJ6_numberOfTrailingZeros_0f7a4_17 (by decide) ?_
    refine lv_istore_n (lv' := [(1, .int 1), (0, .int ((a0 ^^^ (-1)) &&& (a0 - 1)))]) hx hb dJ6_numberOfTrailingZeros_0f7a4_18 rfl hl (by decide) rfl (fun ls hl => ?_)
    refine lv_iload_n hx hb dJ6_numberOfTrailingZeros_0f7a4_19 rfl (lv_at hl 1 rfl) ?_
    refine lv_ldcw (v := 65536) hx hb hown q1 dJ6_numberOfTrailingZeros_0f7a4_20 ?_
    refine my_ic_le (tgt := 34) hx hb dJ6_numberOfTrailingZeros_0f7a4_23 (by decide) (fun c2 => ?_) (fun c2 => ?_)
    · rw [if_neg c2] at hf
      refine lv_iload_n hx hb dJ6_numberOfTrailingZeros_0f7a4_34 rfl (lv_at hl 1 rfl) ?_
      refine lv_sipush (v := 256) hx hb dJ6_numberOfTrailingZeros_0f7a4_35 (by decide) ?_
      refine my_ic_le (tgt := 49) hx hb dJ6_numberOfTrailingZeros_0f7a4_38 (by decide) (fun c3 => ?_) (fun c3 => ?_)
      · rw [if_neg c3] at hf
        refine lv_iload_n hx hb dJ6_numberOfTrailingZeros_0f7a4_49 rfl (lv_at hl 1 rfl) ?_
        refine lv_bipush (v := 16) hx hb dJ6_numberOfTrailingZeros_0f7a4_50 (by decide) ?_
        refine my_ic_le (tgt := 62) hx hb dJ6_numberOfTrailingZeros_0f7a4_52 (by decide) (fun c4 => ?_) (fun c4 => ?_)
        · rw [if_neg c4] at hf
          refine lv_iload_n hx hb dJ6_numberOfTrailingZeros_0f7a4_62 rfl (lv_at hl 1 rfl) ?_
          refine lv_iconst (v := 4) hx hb dJ6_numberOfTrailingZeros_0f7a4_63 (by decide) ?_
          refine my_ic_le (tgt := 74) hx hb dJ6_numberOfTrailingZeros_0f7a4_64 (by decide) (fun c5 => ?_) (fun c5 => ?_)
          · rw [if_neg c5] at hf
            refine lv_iload_n hx hb dJ6_numberOfTrailingZeros_0f7a4_74 rfl (lv_at hl 0 rfl) ?_
            refine lv_iload_n hx hb dJ6_numberOfTrailingZeros_0f7a4_75 rfl (lv_at hl 1 rfl) ?_
            refine lv_iconst (v := 1) hx hb dJ6_numberOfTrailingZeros_0f7a4_76 (by decide) ?_
            refine lv_iushr (v := (jiushr ((a0 ^^^ (-1)) &&& (a0 - 1)) 1)) hx hb dJ6_numberOfTrailingZeros_0f7a4_77 rfl ?_
            refine lv_iadd hx hb dJ6_numberOfTrailingZeros_0f7a4_78 ?_
            exact W.iret (v := (1 + (jiushr ((a0 ^^^ (-1)) &&& (a0 - 1)) 1))) hx hb hr (fun t ht hW => ⟨_, rfl, hf, ht⟩) (fun q hq => absurd hq List.not_mem_nil) dJ6_numberOfTrailingZeros_0f7a4_79
          · rw [if_pos c5] at hf
            refine lv_iinc (v := (1 + 2)) (lv' := [(1, .int (1 + 2)), (0, .int ((a0 ^^^ (-1)) &&& (a0 - 1)))]) hx hb dJ6_numberOfTrailingZeros_0f7a4_67 hl (k := 0) rfl rfl (by decide) rfl (fun ls hl => ?_)
            refine lv_iload_n hx hb dJ6_numberOfTrailingZeros_0f7a4_70 rfl (lv_at hl 1 rfl) ?_
            refine lv_iconst (v := 2) hx hb dJ6_numberOfTrailingZeros_0f7a4_71 (by decide) ?_
            refine lv_iushr (v := (jiushr ((a0 ^^^ (-1)) &&& (a0 - 1)) 2)) hx hb dJ6_numberOfTrailingZeros_0f7a4_72 rfl ?_
            refine lv_istore_n (lv' := [(0, .int (jiushr ((a0 ^^^ (-1)) &&& (a0 - 1)) 2)), (1, .int (1 + 2))]) hx hb dJ6_numberOfTrailingZeros_0f7a4_73 rfl hl (by decide) rfl (fun ls hl => ?_)
            refine lv_iload_n hx hb dJ6_numberOfTrailingZeros_0f7a4_74 rfl (lv_at hl 1 rfl) ?_
            refine lv_iload_n hx hb dJ6_numberOfTrailingZeros_0f7a4_75 rfl (lv_at hl 0 rfl) ?_
            refine lv_iconst (v := 1) hx hb dJ6_numberOfTrailingZeros_0f7a4_76 (by decide) ?_
            refine lv_iushr (v := (jiushr (jiushr ((a0 ^^^ (-1)) &&& (a0 - 1)) 2) 1)) hx hb dJ6_numberOfTrailingZeros_0f7a4_77 rfl ?_
            refine lv_iadd hx hb dJ6_numberOfTrailingZeros_0f7a4_78 ?_
            exact W.iret (v := ((1 + 2) + (jiushr (jiushr ((a0 ^^^ (-1)) &&& (a0 - 1)) 2) 1))) hx hb hr (fun t ht hW => ⟨_, rfl, hf, ht⟩) (fun q hq => absurd hq List.not_mem_nil) dJ6_numberOfTrailingZeros_0f7a4_79
        · rw [if_pos c4] at hf
          refine lv_iinc (v := (1 + 4)) (lv' := [(1, .int (1 + 4)), (0, .int ((a0 ^^^ (-1)) &&& (a0 - 1)))]) hx hb dJ6_numberOfTrailingZeros_0f7a4_55 hl (k := 0) rfl rfl (by decide) rfl (fun ls hl => ?_)
          refine lv_iload_n hx hb dJ6_numberOfTrailingZeros_0f7a4_58 rfl (lv_at hl 1 rfl) ?_
          refine lv_iconst (v := 4) hx hb dJ6_numberOfTrailingZeros_0f7a4_59 (by decide) ?_
          refine lv_iushr (v := (jiushr ((a0 ^^^ (-1)) &&& (a0 - 1)) 4)) hx hb dJ6_numberOfTrailingZeros_0f7a4_60 rfl ?_
          refine lv_istore_n (lv' := [(0, .int (jiushr ((a0 ^^^ (-1)) &&& (a0 - 1)) 4)), (1, .int (1 + 4))]) hx hb dJ6_numberOfTrailingZeros_0f7a4_61 rfl hl (by decide) rfl (fun ls hl => ?_)
          refine lv_iload_n hx hb dJ6_numberOfTrailingZeros_0f7a4_62 rfl (lv_at hl 0 rfl) ?_
          refine lv_iconst (v := 4) hx hb dJ6_numberOfTrailingZeros_0f7a4_63 (by decide) ?_
          refine my_ic_le (tgt := 74) hx hb dJ6_numberOfTrailingZeros_0f7a4_64 (by decide) (fun c6 => ?_) (fun c6 => ?_)
          · rw [if_neg c6] at hf
            refine lv_iload_n hx hb dJ6_numberOfTrailingZeros_0f7a4_74 rfl (lv_at hl 1 rfl) ?_
            refine lv_iload_n hx hb dJ6_numberOfTrailingZeros_0f7a4_75 rfl (lv_at hl 0 rfl) ?_
            refine lv_iconst (v := 1) hx hb dJ6_numberOfTrailingZeros_0f7a4_76 (by decide) ?_
            refine lv_iushr (v := (jiushr (jiushr ((a0 ^^^ (-1)) &&& (a0 - 1)) 4) 1)) hx hb dJ6_numberOfTrailingZeros_0f7a4_77 rfl ?_
            refine lv_iadd hx hb dJ6_numberOfTrailingZeros_0f7a4_78 ?_
            exact W.iret (v := ((1 + 4) + (jiushr (jiushr ((a0 ^^^ (-1)) &&& (a0 - 1)) 4) 1))) hx hb hr (fun t ht hW => ⟨_, rfl, hf, ht⟩) (fun q hq => absurd hq List.not_mem_nil) dJ6_numberOfTrailingZeros_0f7a4_79
          · rw [if_pos c6] at hf
            refine lv_iinc (v := ((1 + 4) + 2)) (lv' := [(1, .int ((1 + 4) + 2)), (0, .int (jiushr ((a0 ^^^ (-1)) &&& (a0 - 1)) 4))]) hx hb dJ6_numberOfTrailingZeros_0f7a4_67 hl (k := 1) rfl rfl (by decide) rfl (fun ls hl => ?_)
            refine lv_iload_n hx hb dJ6_numberOfTrailingZeros_0f7a4_70 rfl (lv_at hl 1 rfl) ?_
            refine lv_iconst (v := 2) hx hb dJ6_numberOfTrailingZeros_0f7a4_71 (by decide) ?_
            refine lv_iushr (v := (jiushr (jiushr ((a0 ^^^ (-1)) &&& (a0 - 1)) 4) 2)) hx hb dJ6_numberOfTrailingZeros_0f7a4_72 rfl ?_
            refine lv_istore_n (lv' := [(0, .int (jiushr (jiushr ((a0 ^^^ (-1)) &&& (a0 - 1)) 4) 2)), (1, .int ((1 + 4) + 2))]) hx hb dJ6_numberOfTrailingZeros_0f7a4_73 rfl hl (by decide) rfl (fun ls hl => ?_)
            refine lv_iload_n hx hb dJ6_numberOfTrailingZeros_0f7a4_74 rfl (lv_at hl 1 rfl) ?_
            refine lv_iload_n hx hb dJ6_numberOfTrailingZeros_0f7a4_75 rfl (lv_at hl 0 rfl) ?_
            refine lv_iconst (v := 1) hx hb dJ6_numberOfTrailingZeros_0f7a4_76 (by decide) ?_
            refine lv_iushr (v := (jiushr (jiushr (jiushr ((a0 ^^^ (-1)) &&& (a0 - 1)) 4) 2) 1)) hx hb dJ6_numberOfTrailingZeros_0f7a4_77 rfl ?_
            refine lv_iadd hx hb dJ6_numberOfTrailingZeros_0f7a4_78 ?_
            exact W.iret (v := (((1 + 4) + 2) + (jiushr (jiushr (jiushr ((a0 ^^^ (-1)) &&& (a0 - 1)) 4) 2) 1))) hx hb hr (fun t ht hW => ⟨_, rfl, hf, ht⟩) (fun q hq => absurd hq List.not_mem_nil) dJ6_numberOfTrailingZeros_0f7a4_79
      · rw [if_pos c3] at hf
        refine lv_iinc (v := (1 + 8)) (lv' := [(1, .int (1 + 8)), (0, .int ((a0 ^^^ (-1)) &&& (a0 - 1)))]) hx hb dJ6_numberOfTrailingZeros_0f7a4_41 hl (k := 0) rfl rfl (by decide) rfl (fun ls hl => ?_)
        refine lv_iload_n hx hb dJ6_numberOfTrailingZeros_0f7a4_44 rfl (lv_at hl 1 rfl) ?_
        refine lv_bipush (v := 8) hx hb dJ6_numberOfTrailingZeros_0f7a4_45 (by decide) ?_
        refine lv_iushr (v := (jiushr ((a0 ^^^ (-1)) &&& (a0 - 1)) 8)) hx hb dJ6_numberOfTrailingZeros_0f7a4_47 rfl ?_
        refine lv_istore_n (lv' := [(0, .int (jiushr ((a0 ^^^ (-1)) &&& (a0 - 1)) 8)), (1, .int (1 + 8))]) hx hb dJ6_numberOfTrailingZeros_0f7a4_48 rfl hl (by decide) rfl (fun ls hl => ?_)
        refine lv_iload_n hx hb dJ6_numberOfTrailingZeros_0f7a4_49 rfl (lv_at hl 0 rfl) ?_
        refine lv_bipush (v := 16) hx hb dJ6_numberOfTrailingZeros_0f7a4_50 (by decide) ?_
        refine my_ic_le (tgt := 62) hx hb dJ6_numberOfTrailingZeros_0f7a4_52 (by decide) (fun c7 => ?_) (fun c7 => ?_)
        · rw [if_neg c7] at hf
          refine lv_iload_n hx hb dJ6_numberOfTrailingZeros_0f7a4_62 rfl (lv_at hl 0 rfl) ?_
          refine lv_iconst (v := 4) hx hb dJ6_numberOfTrailingZeros_0f7a4_63 (by decide) ?_
          refine my_ic_le (tgt := 74) hx hb dJ6_numberOfTrailingZeros_0f7a4_64 (by decide) (fun c8 => ?_) (fun c8 => ?_)
          · rw [if_neg c8] at hf
            refine lv_iload_n hx hb dJ6_numberOfTrailingZeros_0f7a4_74 rfl (lv_at hl 1 rfl) ?_
            refine lv_iload_n hx hb dJ6_numberOfTrailingZeros_0f7a4_75 rfl (lv_at hl 0 rfl) ?_
            refine lv_iconst (v := 1) hx hb dJ6_numberOfTrailingZeros_0f7a4_76 (by decide) ?_
            refine lv_iushr (v := (jiushr (jiushr ((a0 ^^^ (-1)) &&& (a0 - 1)) 8) 1)) hx hb dJ6_numberOfTrailingZeros_0f7a4_77 rfl ?_
            refine lv_iadd hx hb dJ6_numberOfTrailingZeros_0f7a4_78 ?_
            exact W.iret (v := ((1 + 8) + (jiushr (jiushr ((a0 ^^^ (-1)) &&& (a0 - 1)) 8) 1))) hx hb hr (fun t ht hW => ⟨_, rfl, hf, ht⟩) (fun q hq => absurd hq List.not_mem_nil) dJ6_numberOfTrailingZeros_0f7a4_79
          · rw [if_pos c8] at hf
            refine lv_iinc (v := ((1 + 8) + 2)) (lv' := [(1, .int ((1 + 8) + 2)), (0, .int (jiushr ((a0 ^^^ (-1)) &&& (a0 - 1)) 8))]) hx hb dJ6_numberOfTrailingZeros_0f7a4_67 hl (k := 1) rfl rfl (by decide) rfl (fun ls hl => ?_)
            refine lv_iload_n hx hb dJ6_numberOfTrailingZeros_0f7a4_70 rfl (lv_at hl 1 rfl) ?_
            refine lv_iconst (v := 2) hx hb dJ6_numberOfTrailingZeros_0f7a4_71 (by decide) ?_
            refine lv_iushr (v := (jiushr (jiushr ((a0 ^^^ (-1)) &&& (a0 - 1)) 8) 2)) hx hb dJ6_numberOfTrailingZeros_0f7a4_72 rfl ?_
            refine lv_istore_n (lv' := [(0, .int (jiushr (jiushr ((a0 ^^^ (-1)) &&& (a0 - 1)) 8) 2)), (1, .int ((1 + 8) + 2))]) hx hb dJ6_numberOfTrailingZeros_0f7a4_73 rfl hl (by decide) rfl (fun ls hl => ?_)
            refine lv_iload_n hx hb dJ6_numberOfTrailingZeros_0f7a4_74 rfl (lv_at hl 1 rfl) ?_
            refine lv_iload_n hx hb dJ6_numberOfTrailingZeros_0f7a4_75 rfl (lv_at hl 0 rfl) ?_
            refine lv_iconst (v := 1) hx hb dJ6_numberOfTrailingZeros_0f7a4_76 (by decide) ?_
            refine lv_iushr (v := (jiushr (jiushr (jiushr ((a0 ^^^ (-1)) &&& (a0 - 1)) 8) 2) 1)) hx hb dJ6_numberOfTrailingZeros_0f7a4_77 rfl ?_
            refine lv_iadd hx hb dJ6_numberOfTrailingZeros_0f7a4_78 ?_
            exact W.iret (v := (((1 + 8) + 2) + (jiushr (jiushr (jiushr ((a0 ^^^ (-1)) &&& (a0 - 1)) 8) 2) 1))) hx hb hr (fun t ht hW => ⟨_, rfl, hf, ht⟩) (fun q hq => absurd hq List.not_mem_nil) dJ6_numberOfTrailingZeros_0f7a4_79
        · rw [if_pos c7] at hf
          refine lv_iinc (v := ((1 + 8) + 4)) (lv' := [(1, .int ((1 + 8) + 4)), (0, .int (jiushr ((a0 ^^^ (-1)) &&& (a0 - 1)) 8))]) hx hb dJ6_numberOfTrailingZeros_0f7a4_55 hl (k := 1) rfl rfl (by decide) rfl (fun ls hl => ?_)
          refine lv_iload_n hx hb dJ6_numberOfTrailingZeros_0f7a4_58 rfl (lv_at hl 1 rfl) ?_
          refine lv_iconst (v := 4) hx hb dJ6_numberOfTrailingZeros_0f7a4_59 (by decide) ?_
          refine lv_iushr (v := (jiushr (jiushr ((a0 ^^^ (-1)) &&& (a0 - 1)) 8) 4)) hx hb dJ6_numberOfTrailingZeros_0f7a4_60 rfl ?_
          refine lv_istore_n (lv' := [(0, .int (jiushr (jiushr ((a0 ^^^ (-1)) &&& (a0 - 1)) 8) 4)), (1, .int ((1 + 8) + 4))]) hx hb dJ6_numberOfTrailingZeros_0f7a4_61 rfl hl (by decide) rfl (fun ls hl => ?_)
          refine lv_iload_n hx hb dJ6_numberOfTrailingZeros_0f7a4_62 rfl (lv_at hl 0 rfl) ?_
          refine lv_iconst (v := 4) hx hb dJ6_numberOfTrailingZeros_0f7a4_63 (by decide) ?_
          refine my_ic_le (tgt := 74) hx hb dJ6_numberOfTrailingZeros_0f7a4_64 (by decide) (fun c9 => ?_) (fun c9 => ?_)
          · rw [if_neg c9] at hf
            refine lv_iload_n hx hb dJ6_numberOfTrailingZeros_0f7a4_74 rfl (lv_at hl 1 rfl) ?_
            refine lv_iload_n hx hb dJ6_numberOfTrailingZeros_0f7a4_75 rfl (lv_at hl 0 rfl) ?_
            refine lv_iconst (v := 1) hx hb dJ6_numberOfTrailingZeros_0f7a4_76 (by decide) ?_
            refine lv_iushr (v := (jiushr (jiushr (jiushr ((a0 ^^^ (-1)) &&& (a0 - 1)) 8) 4) 1)) hx hb dJ6_numberOfTrailingZeros_0f7a4_77 rfl ?_
            refine lv_iadd hx hb dJ6_numberOfTrailingZeros_0f7a4_78 ?_
            exact W.iret (v := (((1 + 8) + 4) + (jiushr (jiushr (jiushr ((a0 ^^^ (-1)) &&& (a0 - 1)) 8) 4) 1))) hx hb hr (fun t ht hW => ⟨_, rfl, hf, ht⟩) (fun q hq => absurd hq List.not_mem_nil) dJ6_numberOfTrailingZeros_0f7a4_79
          · rw [if_pos c9] at hf
            refine lv_iinc (v := (((1 + 8) + 4) + 2)) (lv' := [(1, .int (((1 + 8) + 4) + 2)), (0, .int (jiushr (jiushr ((a0 ^^^ (-1)) &&& (a0 - 1)) 8) 4))]) hx hb dJ6_numberOfTrailingZeros_0f7a4_67 hl (k := 1) rfl rfl (by decide) rfl (fun ls hl => ?_)
            refine lv_iload_n hx hb dJ6_numberOfTrailingZeros_0f7a4_70 rfl (lv_at hl 1 rfl) ?_
            refine lv_iconst (v := 2) hx hb dJ6_numberOfTrailingZeros_0f7a4_71 (by decide) ?_
            refine lv_iushr (v := (jiushr (jiushr (jiushr ((a0 ^^^ (-1)) &&& (a0 - 1)) 8) 4) 2)) hx hb dJ6_numberOfTrailingZeros_0f7a4_72 rfl ?_
            refine lv_istore_n (lv' := [(0, .int (jiushr (jiushr (jiushr ((a0 ^^^ (-1)) &&& (a0 - 1)) 8) 4) 2)), (1, .int (((1 + 8) + 4) + 2))]) hx hb dJ6_numberOfTrailingZeros_0f7a4_73 rfl hl (by decide) rfl (fun ls hl => ?_)
            refine lv_iload_n hx hb dJ6_numberOfTrailingZeros_0f7a4_74 rfl (lv_at hl 1 rfl) ?_
            refine lv_iload_n hx hb dJ6_numberOfTrailingZeros_0f7a4_75 rfl (lv_at hl 0 rfl) ?_
            refine lv_iconst (v := 1) hx hb dJ6_numberOfTrailingZeros_0f7a4_76 (by decide) ?_
            refine lv_iushr (v := (jiushr (jiushr (jiushr (jiushr ((a0 ^^^ (-1)) &&& (a0 - 1)) 8) 4) 2) 1)) hx hb dJ6_numberOfTrailingZeros_0f7a4_77 rfl ?_
            refine lv_iadd hx hb dJ6_numberOfTrailingZeros_0f7a4_78 ?_
            exact W.iret (v := ((((1 + 8) + 4) + 2) + (jiushr (jiushr (jiushr (jiushr ((a0 ^^^ (-1)) &&& (a0 - 1)) 8) 4) 2) 1))) hx hb hr (fun t ht hW => ⟨_, rfl, hf, ht⟩) (fun q hq => absurd hq List.not_mem_nil) dJ6_numberOfTrailingZeros_0f7a4_79
    · rw [if_pos c2] at hf
      refine lv_iinc (v := (1 + 16)) (lv' := [(1, .int (1 + 16)), (0, .int ((a0 ^^^ (-1)) &&& (a0 - 1)))]) hx hb dJ6_numberOfTrailingZeros_0f7a4_26 hl (k := 0) rfl rfl (by decide) rfl (fun ls hl => ?_)
      refine lv_iload_n hx hb dJ6_numberOfTrailingZeros_0f7a4_29 rfl (lv_at hl 1 rfl) ?_
      refine lv_bipush (v := 16) hx hb dJ6_numberOfTrailingZeros_0f7a4_30 (by decide) ?_
      refine lv_iushr (v := (jiushr ((a0 ^^^ (-1)) &&& (a0 - 1)) 16)) hx hb dJ6_numberOfTrailingZeros_0f7a4_32 rfl ?_
      refine lv_istore_n (lv' := [(0, .int (jiushr ((a0 ^^^ (-1)) &&& (a0 - 1)) 16)), (1, .int (1 + 16))]) hx hb dJ6_numberOfTrailingZeros_0f7a4_33 rfl hl (by decide) rfl (fun ls hl => ?_)
      refine lv_iload_n hx hb dJ6_numberOfTrailingZeros_0f7a4_34 rfl (lv_at hl 0 rfl) ?_
      refine lv_sipush (v := 256) hx hb dJ6_numberOfTrailingZeros_0f7a4_35 (by decide) ?_
      refine my_ic_le (tgt := 49) hx hb dJ6_numberOfTrailingZeros_0f7a4_38 (by decide) (fun c10 => ?_) (fun c10 => ?_)
      · rw [if_neg c10] at hf
        refine lv_iload_n hx hb dJ6_numberOfTrailingZeros_0f7a4_49 rfl (lv_at hl 0 rfl) ?_
        refine lv_bipush (v := 16) hx hb dJ6_numberOfTrailingZeros_0f7a4_50 (by decide) ?_
        refine my_ic_le (tgt := 62) hx hb dJ6_numberOfTrailingZeros_0f7a4_52 (by decide) (fun c11 => ?_) (fun c11 => ?_)
        · rw [if_neg c11] at hf
          refine lv_iload_n hx hb dJ6_numberOfTrailingZeros_0f7a4_62 rfl (lv_at hl 0 rfl) ?_
          refine lv_iconst (v := 4) hx hb dJ6_numberOfTrailingZeros_0f7a4_63 (by decide) ?_
          refine my_ic_le (tgt := 74) hx hb dJ6_numberOfTrailingZeros_0f7a4_64 (by decide) (fun c12 => ?_) (fun c12 => ?_)
          · rw [if_neg c12] at hf
            refine lv_iload_n hx hb dJ6_numberOfTrailingZeros_0f7a4_74 rfl (lv_at hl 1 rfl) ?_
            refine lv_iload_n hx hb dJ6_numberOfTrailingZeros_0f7a4_75 rfl (lv_at hl 0 rfl) ?_
            refine lv_iconst (v := 1) hx hb dJ6_numberOfTrailingZeros_0f7a4_76 (by decide) ?_
            refine lv_iushr (v := (jiushr (jiushr ((a0 ^^^ (-1)) &&& (a0 - 1)) 16) 1)) hx hb dJ6_numberOfTrailingZeros_0f7a4_77 rfl ?_
            refine lv_iadd hx hb dJ6_numberOfTrailingZeros_0f7a4_78 ?_
            exact W.iret (v := ((1 + 16) + (jiushr (jiushr ((a0 ^^^ (-1)) &&& (a0 - 1)) 16) 1))) hx hb hr (fun t ht hW => ⟨_, rfl, hf, ht⟩) (fun q hq => absurd hq List.not_mem_nil) dJ6_numberOfTrailingZeros_0f7a4_79
          · rw [if_pos c12] at hf
            refine lv_iinc (v := ((1 + 16) + 2)) (lv' := [(1, .int ((1 + 16) + 2)), (0, .int (jiushr ((a0 ^^^ (-1)) &&& (a0 - 1)) 16))]) hx hb dJ6_numberOfTrailingZeros_0f7a4_67 hl (k := 1) rfl rfl (by decide) rfl (fun ls hl => ?_)
            refine lv_iload_n hx hb dJ6_numberOfTrailingZeros_0f7a4_70 rfl (lv_at hl 1 rfl) ?_
            refine lv_iconst (v := 2) hx hb dJ6_numberOfTrailingZeros_0f7a4_71 (by decide) ?_
            refine lv_iushr (v := (jiushr (jiushr ((a0 ^^^ (-1)) &&& (a0 - 1)) 16) 2)) hx hb dJ6_numberOfTrailingZeros_0f7a4_72 rfl ?_
            refine lv_istore_n (lv' := [(0, .int (jiushr (jiushr ((a0 ^^^ (-1)) &&& (a0 - 1)) 16) 2)), (1, .int ((1 + 16) + 2))]) hx hb dJ6_numberOfTrailingZeros_0f7a4_73 rfl hl (by decide) rfl (fun ls hl => ?_)
            refine lv_iload_n hx hb dJ6_numberOfTrailingZeros_0f7a4_74 rfl (lv_at hl 1 rfl) ?_
            refine lv_iload_n hx hb dJ6_numberOfTrailingZeros_0f7a4_75 rfl (lv_at hl 0 rfl) ?_
            refine lv_iconst (v := 1) hx hb dJ6_numberOfTrailingZeros_0f7a4_76 (by decide) ?_
            refine lv_iushr (v := (jiushr (jiushr (jiushr ((a0 ^^^ (-1)) &&& (a0 - 1)) 16) 2) 1)) hx hb dJ6_numberOfTrailingZeros_0f7a4_77 rfl ?_
            refine lv_iadd hx hb dJ6_numberOfTrailingZeros_0f7a4_78 ?_
            exact W.iret (v := (((1 + 16) + 2) + (jiushr (jiushr (jiushr ((a0 ^^^ (-1)) &&& (a0 - 1)) 16) 2) 1))) hx hb hr (fun t ht hW => ⟨_, rfl, hf, ht⟩) (fun q hq => absurd hq List.not_mem_nil) dJ6_numberOfTrailingZeros_0f7a4_79
        · rw [if_pos c11] at hf
          refine lv_iinc (v := ((1 + 16) + 4)) (lv' := [(1, .int ((1 + 16) + 4)), (0, .int (jiushr ((a0 ^^^ (-1)) &&& (a0 - 1)) 16))]) hx hb dJ6_numberOfTrailingZeros_0f7a4_55 hl (k := 1) rfl rfl (by decide) rfl (fun ls hl => ?_)
          refine lv_iload_n hx hb dJ6_numberOfTrailingZeros_0f7a4_58 rfl (lv_at hl 1 rfl) ?_
          refine lv_iconst (v := 4) hx hb dJ6_numberOfTrailingZeros_0f7a4_59 (by decide) ?_
          refine lv_iushr (v := (jiushr (jiushr ((a0 ^^^ (-1)) &&& (a0 - 1)) 16) 4)) hx hb dJ6_numberOfTrailingZeros_0f7a4_60 rfl ?_
          refine lv_istore_n (lv' := [(0, .int (jiushr (jiushr ((a0 ^^^ (-1)) &&& (a0 - 1)) 16) 4)), (1, .int ((1 + 16) + 4))]) hx hb dJ6_numberOfTrailingZeros_0f7a4_61 rfl hl (by decide) rfl (fun ls hl => ?_)
          refine lv_iload_n hx hb dJ6_numberOfTrailingZeros_0f7a4_62 rfl (lv_at hl 0 rfl) ?_
          refine lv_iconst (v := 4) hx hb dJ6_numberOfTrailingZeros_0f7a4_63 (by decide) ?_
          refine my_ic_le (tgt := 74) hx hb dJ6_numberOfTrailingZeros_0f7a4_64 (by decide) (fun c13 => ?_) (fun c13 => ?_)
          · rw [if_neg c13] at hf
            refine lv_iload_n hx hb dJ6_numberOfTrailingZeros_0f7a4_74 rfl (lv_at hl 1 rfl) ?_
            refine lv_iload_n hx hb dJ6_numberOfTrailingZeros_0f7a4_75 rfl (lv_at hl 0 rfl) ?_
            refine lv_iconst (v := 1) hx hb dJ6_numberOfTrailingZeros_0f7a4_76 (by decide) ?_
            refine lv_iushr (v := (jiushr (jiushr (jiushr ((a0 ^^^ (-1)) &&& (a0 - 1)) 16) 4) 1)) hx hb dJ6_numberOfTrailingZeros_0f7a4_77 rfl ?_
            refine lv_iadd hx hb dJ6_numberOfTrailingZeros_0f7a4_78 ?_
            exact W.iret (v := (((1 + 16) + 4) + (jiushr (jiushr (jiushr ((a0 ^^^ (-1)) &&& (a0 - 1)) 16) 4) 1))) hx hb hr (fun t ht hW => ⟨_, rfl, hf, ht⟩) (fun q hq => absurd hq List.not_mem_nil) dJ6_numberOfTrailingZeros_0f7a4_79
          · rw [if_pos c13] at hf
            refine lv_iinc (v := (((1 + 16) + 4) + 2)) (lv' := [(1, .int (((1 + 16) + 4) + 2)), (0, .int (jiushr (jiushr ((a0 ^^^ (-1)) &&& (a0 - 1)) 16) 4))]) hx hb dJ6_numberOfTrailingZeros_0f7a4_67 hl (k := 1) rfl rfl (by decide) rfl (fun ls hl => ?_)
            refine lv_iload_n hx hb dJ6_numberOfTrailingZeros_0f7a4_70 rfl (lv_at hl 1 rfl) ?_
            refine lv_iconst (v := 2) hx hb dJ6_numberOfTrailingZeros_0f7a4_71 (by decide) ?_
            refine lv_iushr (v := (jiushr (jiushr (jiushr ((a0 ^^^ (-1)) &&& (a0 - 1)) 16) 4) 2)) hx hb dJ6_numberOfTrailingZeros_0f7a4_72 rfl ?_
            refine lv_istore_n (lv' := [(0, .int (jiushr (jiushr (jiushr ((a0 ^^^ (-1)) &&& (a0 - 1)) 16) 4) 2)), (1, .int (((1 + 16) + 4) + 2))]) hx hb dJ6_numberOfTrailingZeros_0f7a4_73 rfl hl (by decide) rfl (fun ls hl => ?_)
            refine lv_iload_n hx hb dJ6_numberOfTrailingZeros_0f7a4_74 rfl (lv_at hl 1 rfl) ?_
            refine lv_iload_n hx hb dJ6_numberOfTrailingZeros_0f7a4_75 rfl (lv_at hl 0 rfl) ?_
            refine lv_iconst (v := 1) hx hb dJ6_numberOfTrailingZeros_0f7a4_76 (by decide) ?_
            refine lv_iushr (v := (jiushr (jiushr (jiushr (jiushr ((a0 ^^^ (-1)) &&& (a0 - 1)) 16) 4) 2) 1)) hx hb dJ6_numberOfTrailingZeros_0f7a4_77 rfl ?_
            refine lv_iadd hx hb dJ6_numberOfTrailingZeros_0f7a4_78 ?_
            exact W.iret (v := ((((1 + 16) + 4) + 2) + (jiushr (jiushr (jiushr (jiushr ((a0 ^^^ (-1)) &&& (a0 - 1)) 16) 4) 2) 1))) hx hb hr (fun t ht hW => ⟨_, rfl, hf, ht⟩) (fun q hq => absurd hq List.not_mem_nil) dJ6_numberOfTrailingZeros_0f7a4_79
      · rw [if_pos c10] at hf
        refine lv_iinc (v := ((1 + 16) + 8)) (lv' := [(1, .int ((1 + 16) + 8)), (0, .int (jiushr ((a0 ^^^ (-1)) &&& (a0 - 1)) 16))]) hx hb dJ6_numberOfTrailingZeros_0f7a4_41 hl (k := 1) rfl rfl (by decide) rfl (fun ls hl => ?_)
        refine lv_iload_n hx hb dJ6_numberOfTrailingZeros_0f7a4_44 rfl (lv_at hl 1 rfl) ?_
        refine lv_bipush (v := 8) hx hb dJ6_numberOfTrailingZeros_0f7a4_45 (by decide) ?_
        refine lv_iushr (v := (jiushr (jiushr ((a0 ^^^ (-1)) &&& (a0 - 1)) 16) 8)) hx hb dJ6_numberOfTrailingZeros_0f7a4_47 rfl ?_
        refine lv_istore_n (lv' := [(0, .int (jiushr (jiushr ((a0 ^^^ (-1)) &&& (a0 - 1)) 16) 8)), (1, .int ((1 + 16) + 8))]) hx hb dJ6_numberOfTrailingZeros_0f7a4_48 rfl hl (by decide) rfl (fun ls hl => ?_)
        refine lv_iload_n hx hb dJ6_numberOfTrailingZeros_0f7a4_49 rfl (lv_at hl 0 rfl) ?_
        refine lv_bipush (v := 16) hx hb dJ6_numberOfTrailingZeros_0f7a4_50 (by decide) ?_
        refine my_ic_le (tgt := 62) hx hb dJ6_numberOfTrailingZeros_0f7a4_52 (by decide) (fun c14 => ?_) (fun c14 => ?_)
        · rw [if_neg c14] at hf
          refine lv_iload_n hx hb dJ6_numberOfTrailingZeros_0f7a4_62 rfl (lv_at hl 0 rfl) ?_
          refine lv_iconst (v := 4) hx hb dJ6_numberOfTrailingZeros_0f7a4_63 (by decide) ?_
          refine my_ic_le (tgt := 74) hx hb dJ6_numberOfTrailingZeros_0f7a4_64 (by decide) (fun c15 => ?_) (fun c15 => ?_)
          · rw [if_neg c15] at hf
            refine lv_iload_n hx hb dJ6_numberOfTrailingZeros_0f7a4_74 rfl (lv_at hl 1 rfl) ?_
            refine lv_iload_n hx hb dJ6_numberOfTrailingZeros_0f7a4_75 rfl (lv_at hl 0 rfl) ?_
            refine lv_iconst (v := 1) hx hb dJ6_numberOfTrailingZeros_0f7a4_76 (by decide) ?_
            refine lv_iushr (v := (jiushr (jiushr (jiushr ((a0 ^^^ (-1)) &&& (a0 - 1)) 16) 8) 1)) hx hb dJ6_numberOfTrailingZeros_0f7a4_77 rfl ?_
            refine lv_iadd hx hb dJ6_numberOfTrailingZeros_0f7a4_78 ?_
            exact W.iret (v := (((1 + 16) + 8) + (jiushr (jiushr (jiushr ((a0 ^^^ (-1)) &&& (a0 - 1)) 16) 8) 1))) hx hb hr (fun t ht hW => ⟨_, rfl, hf, ht⟩) (fun q hq => absurd hq List.not_mem_nil) dJ6_numberOfTrailingZeros_0f7a4_79
          · rw [if_pos c15] at hf
            refine lv_iinc (v := (((1 + 16) + 8) + 2)) (lv' := [(1, .int (((1 + 16) + 8) + 2)), (0, .int (jiushr (jiushr ((a0 ^^^ (-1)) &&& (a0 - 1)) 16) 8))]) hx hb dJ6_numberOfTrailingZeros_0f7a4_67 hl (k := 1) rfl rfl (by decide) rfl (fun ls hl => ?_)
            refine lv_iload_n hx hb dJ6_numberOfTrailingZeros_0f7a4_70 rfl (lv_at hl 1 rfl) ?_
            refine lv_iconst (v := 2) hx hb dJ6_numberOfTrailingZeros_0f7a4_71 (by decide) ?_
            refine lv_iushr (v := (jiushr (jiushr (jiushr ((a0 ^^^ (-1)) &&& (a0 - 1)) 16) 8) 2)) hx hb dJ6_numberOfTrailingZeros_0f7a4_72 rfl ?_
            refine lv_istore_n (lv' := [(0, .int (jiushr (jiushr (jiushr ((a0 ^^^ (-1)) &&& (a0 - 1)) 16) 8) 2)), (1, .int (((1 + 16) + 8) + 2))]) hx hb dJ6_numberOfTrailingZeros_0f7a4_73 rfl hl (by decide) rfl (fun ls hl => ?_)
            refine lv_iload_n hx hb dJ6_numberOfTrailingZeros_0f7a4_74 rfl (lv_at hl 1 rfl) ?_
            refine lv_iload_n hx hb dJ6_numberOfTrailingZeros_0f7a4_75 rfl (lv_at hl 0 rfl) ?_
            refine lv_iconst (v := 1) hx hb dJ6_numberOfTrailingZeros_0f7a4_76 (by decide) ?_
            refine lv_iushr (v := (jiushr (jiushr (jiushr (jiushr ((a0 ^^^ (-1)) &&& (a0 - 1)) 16) 8) 2) 1)) hx hb dJ6_numberOfTrailingZeros_0f7a4_77 rfl ?_
            refine lv_iadd hx hb dJ6_numberOfTrailingZeros_0f7a4_78 ?_
            exact W.iret (v := ((((1 + 16) + 8) + 2) + (jiushr (jiushr (jiushr (jiushr ((a0 ^^^ (-1)) &&& (a0 - 1)) 16) 8) 2) 1))) hx hb hr (fun t ht hW => ⟨_, rfl, hf, ht⟩) (fun q hq => absurd hq List.not_mem_nil) dJ6_numberOfTrailingZeros_0f7a4_79
        · rw [if_pos c14] at hf
          refine lv_iinc (v := (((1 + 16) + 8) + 4)) (lv' := [(1, .int (((1 + 16) + 8) + 4)), (0, .int (jiushr (jiushr ((a0 ^^^ (-1)) &&& (a0 - 1)) 16) 8))]) hx hb dJ6_numberOfTrailingZeros_0f7a4_55 hl (k := 1) rfl rfl (by decide) rfl (fun ls hl => ?_)
          refine lv_iload_n hx hb dJ6_numberOfTrailingZeros_0f7a4_58 rfl (lv_at hl 1 rfl) ?_
          refine lv_iconst (v := 4) hx hb dJ6_numberOfTrailingZeros_0f7a4_59 (by decide) ?_
          refine lv_iushr (v := (jiushr (jiushr (jiushr ((a0 ^^^ (-1)) &&& (a0 - 1)) 16) 8) 4)) hx hb dJ6_numberOfTrailingZeros_0f7a4_60 rfl ?_
          refine lv_istore_n (lv' := [(0, .int (jiushr (jiushr (jiushr ((a0 ^^^ (-1)) &&& (a0 - 1)) 16) 8) 4)), (1, .int (((1 + 16) + 8) + 4))]) hx hb dJ6_numberOfTrailingZeros_0f7a4_61 rfl hl (by decide) rfl (fun ls hl => ?_)
          refine lv_iload_n hx hb dJ6_numberOfTrailingZeros_0f7a4_62 rfl (lv_at hl 0 rfl) ?_
          refine lv_iconst (v := 4) hx hb dJ6_numberOfTrailingZeros_0f7a4_63 (by decide) ?_
          refine my_ic_le (tgt := 74) hx hb dJ6_numberOfTrailingZeros_0f7a4_64 (by decide) (fun c16 => ?_) (fun c16 => ?_)
          · rw [if_neg c16] at hf
            refine lv_iload_n hx hb dJ6_numberOfTrailingZeros_0f7a4_74 rfl (lv_at hl 1 rfl) ?_
            refine lv_iload_n hx hb dJ6_numberOfTrailingZeros_0f7a4_75 rfl (lv_at hl 0 rfl) ?_
            refine lv_iconst (v := 1) hx hb dJ6_numberOfTrailingZeros_0f7a4_76 (by decide) ?_
            refine lv_iushr (v := (jiushr (jiushr (jiushr (jiushr ((a0 ^^^ (-1)) &&& (a0 - 1)) 16) 8) 4) 1)) hx hb dJ6_numberOfTrailingZeros_0f7a4_77 rfl ?_
            refine lv_iadd hx hb dJ6_numberOfTrailingZeros_0f7a4_78 ?_
            exact W.iret (v := ((((1 + 16) + 8) + 4) + (jiushr (jiushr (jiushr (jiushr ((a0 ^^^ (-1)) &&& (a0 - 1)) 16) 8) 4) 1))) hx hb hr (fun t ht hW => ⟨_, rfl, hf, ht⟩) (fun q hq => absurd hq List.not_mem_nil) dJ6_numberOfTrailingZeros_0f7a4_79
          · rw [if_pos c16] at hf
            refine lv_iinc (v := ((((1 + 16) + 8) + 4) + 2)) (lv' := [(1, .int ((((1 + 16) + 8) + 4) + 2)), (0, .int (jiushr (jiushr (jiushr ((a0 ^^^ (-1)) &&& (a0 - 1)) 16) 8) 4))]) hx hb dJ6_numberOfTrailingZeros_0f7a4_67 hl (k := 1) rfl rfl (by decide) rfl (fun ls hl => ?_)
            refine lv_iload_n hx hb dJ6_numberOfTrailingZeros_0f7a4_70 rfl (lv_at hl 1 rfl) ?_
            refine lv_iconst (v := 2) hx hb dJ6_numberOfTrailingZeros_0f7a4_71 (by decide) ?_
            refine lv_iushr (v := (jiushr (jiushr (jiushr (jiushr ((a0 ^^^ (-1)) &&& (a0 - 1)) 16) 8) 4) 2)) hx hb dJ6_numberOfTrailingZeros_0f7a4_72 rfl ?_
            refine lv_istore_n (lv' := [(0, .int (jiushr (jiushr (jiushr (jiushr ((a0 ^^^ (-1)) &&& (a0 - 1)) 16) 8) 4) 2)), (1, .int ((((1 + 16) + 8) + 4) + 2))]) hx hb dJ6_numberOfTrailingZeros_0f7a4_73 rfl hl (by decide) rfl (fun ls hl => ?_)
            refine lv_iload_n hx hb dJ6_numberOfTrailingZeros_0f7a4_74 rfl (lv_at hl 1 rfl) ?_
            refine lv_iload_n hx hb dJ6_numberOfTrailingZeros_0f7a4_75 rfl (lv_at hl 0 rfl) ?_
            refine lv_iconst (v := 1) hx hb dJ6_numberOfTrailingZeros_0f7a4_76 (by decide) ?_
            refine lv_iushr (v := (jiushr (jiushr (jiushr (jiushr (jiushr ((a0 ^^^ (-1)) &&& (a0 - 1)) 16) 8) 4) 2) 1)) hx hb dJ6_numberOfTrailingZeros_0f7a4_77 rfl ?_
            refine lv_iadd hx hb dJ6_numberOfTrailingZeros_0f7a4_78 ?_
            exact W.iret (v := (((((1 + 16) + 8) + 4) + 2) + (jiushr (jiushr (jiushr (jiushr (jiushr ((a0 ^^^ (-1)) &&& (a0 - 1)) 16) 8) 4) 2) 1))) hx hb hr (fun t ht hW => ⟨_, rfl, hf, ht⟩) (fun q hq => absurd hq List.not_mem_nil) dJ6_numberOfTrailingZeros_0f7a4_79
  · rw [if_neg c1] at hf
    refine lv_iload_n hx hb dJ6_numberOfTrailingZeros_0f7a4_12 rfl (lv_at hl 0 rfl) ?_
    refine lv_bipush (v := 32) hx hb dJ6_numberOfTrailingZeros_0f7a4_13 (by decide) ?_
    refine lv_iand hx hb dJ6_numberOfTrailingZeros_0f7a4_15 ?_
    exact W.iret (v := (((a0 ^^^ (-1)) &&& (a0 - 1)) &&& 32)) hx hb hr (fun t ht hW => ⟨_, rfl, hf, ht⟩) (fun q hq => absurd hq List.not_mem_nil) dJ6_numberOfTrailingZeros_0f7a4_16

set_option maxHeartbeats 4000000 in
set_option maxRecDepth 100000 in
theorem m_J13_numberOfTrailingZeros_95d88 (l : Launch) (a0 : Int64) (res : Int32) (hf : f_J13_numberOfTrailingZeros_95d88 a0 = res) : Met l yJ13_numberOfTrailingZeros_95d88 wsJ13_numberOfTrailingZeros_95d88 rmJ13_numberOfTrailingZeros_95d88 (my_PcP [.long a0]) (vp_Si (fun z => z = res)) 0 0 (fun _ => False) := by
  refine Met.ofW (cc := cJ13_numberOfTrailingZeros_95d88) (maxL := 3) (ret := (some .int)) (by decide) rfl ?_
  intro p e s m args below meth c s₁ B hml hv
  obtain ⟨rfl, -⟩ := hv
  have hx := B.exec
  have hb := B.bytes
  have hr := B.returns
  have hts : ∀ w ∈ wsJ13_numberOfTrailingZeros_95d88, w.before ([.long a0] : List Value).toArray s = true := atoms_spec (ws := wsJ13_numberOfTrailingZeros_95d88) B.pre
  have hown : s.vm.findClass RJ13 = some m.cls := findClass_of_methodNamed B.named
  have hlk : meth.locks = false := B.notSynchronized
  have hl := lv_entry ([.long a0]) (n := 3) (Nat.le_of_ble_eq_true rfl)
  rw [lg_entry_eq]
  generalize (lg_sl ([.long a0]) ++ List.replicate (3 - (lg_sl ([.long a0])).length) Slot.unset).toArray = ls at hl ⊢
  have hl : lv_has ls 3 [(0, .long a0)] := hl
  unfold f_J13_numberOfTrailingZeros_95d88 at hf
  refine lv_lload_n hx hb dJ13_numberOfTrailingZeros_95d88_0 rfl (lv_at hl 0 rfl) ?_
  refine lv_l2i (v := (a0.toInt32)) hx hb dJ13_numberOfTrailingZeros_95d88_1 rfl ?_
  refine lv_istore_n (lv' := [(2, .int (a0.toInt32)), (0, .long a0)]) hx hb dJ13_numberOfTrailingZeros_95d88_2 rfl hl (by decide) rfl (fun ls hl => ?_)
  refine lv_iload_n hx hb dJ13_numberOfTrailingZeros_95d88_3 rfl (lv_at hl 0 rfl) ?_
  refine my_if_ne (tgt := 21) hx hb dJ13_numberOfTrailingZeros_95d88_4 (by decide) (fun c1 => ?_) (fun c1 => ?_)
  · rw [if_neg c1] at hf
    refine lv_iload_n hx hb dJ13_numberOfTrailingZeros_95d88_21 rfl (lv_at hl 0 rfl) ?_
    refine my_callPi (As := [.int (a0.toInt32)]) (n := 1) (rest := []) ⟨hx, hb, hml, hown, hts⟩ (m_J6_numberOfTrailingZeros_0f7a4 l (a0.toInt32) _ rfl) gJ13_numberOfTrailingZeros_95d88_J6_numberOfTrailingZeros_0f7a4 rfl ⟨rfl, rfl⟩ (by decide +kernel) ⟨Nat.le_of_ble_eq_true rfl, Nat.le_of_ble_eq_true rfl⟩ ⟨Nat.le_of_ble_eq_true rfl, Nat.le_of_ble_eq_true rfl⟩ hl.1 rfl rfl (Nat.le_of_ble_eq_true rfl) dJ13_numberOfTrailingZeros_95d88_22 ?_
    exact W.iret (v := (f_J6_numberOfTrailingZeros_0f7a4 (a0.toInt32))) hx hb hr (fun t ht hW => ⟨_, rfl, hf, ht⟩) (fun q hq => absurd hq List.not_mem_nil) dJ13_numberOfTrailingZeros_95d88_25
  · rw [if_pos c1] at hf
    refine lv_bipush (v := 32) hx hb dJ13_numberOfTrailingZeros_95d88_7 (by decide) ?_
    refine lv_lload_n hx hb dJ13_numberOfTrailingZeros_95d88_9 rfl (lv_at hl 1 rfl) ?_
    refine lv_bipush (v := 32) hx hb dJ13_numberOfTrailingZeros_95d88_10 (by decide) ?_
    refine lv_lushr (v := (jushr a0 32)) hx hb dJ13_numberOfTrailingZeros_95d88_12 rfl ?_
    refine lv_l2i (v := ((jushr a0 32).toInt32)) hx hb dJ13_numberOfTrailingZeros_95d88_13 rfl ?_
    refine my_callPi (As := [.int ((jushr a0 32).toInt32)]) (n := 1) (rest := [.int 32]) ⟨hx, hb, hml, hown, hts⟩ (m_J6_numberOfTrailingZeros_0f7a4 l ((jushr a0 32).toInt32) _ rfl) gJ13_numberOfTrailingZeros_95d88_J6_numberOfTrailingZeros_0f7a4 rfl ⟨rfl, rfl⟩ (by decide +kernel) ⟨Nat.le_of_ble_eq_true rfl, Nat.le_of_ble_eq_true rfl⟩ ⟨Nat.le_of_ble_eq_true rfl, Nat.le_of_ble_eq_true rfl⟩ hl.1 rfl rfl (Nat.le_of_ble_eq_true rfl) dJ13_numberOfTrailingZeros_95d88_14 ?_
    refine lv_iadd hx hb dJ13_numberOfTrailingZeros_95d88_17 ?_
    refine lv_goto (tgt := 25) hx hb dJ13_numberOfTrailingZeros_95d88_18 (by decide) ?_
    exact W.iret (v := (32 + (f_J6_numberOfTrailingZeros_0f7a4 ((jushr a0 32).toInt32)))) hx hb hr (fun t ht hW => ⟨_, rfl, hf, ht⟩) (fun q hq => absurd hq List.not_mem_nil) dJ13_numberOfTrailingZeros_95d88_25

set_option maxHeartbeats 4000000 in
set_option maxRecDepth 100000 in
theorem m_X0_shift (l : Launch) (a0 : Int64) (res : Int32) (hf : f_X0_shift a0 = res) : Met l yX0_shift wsX0_shift rmX0_shift (my_PcP [.long a0]) (vp_Si (fun z => z = res)) 0 0 (fun _ => False) := by
  refine Met.ofW (cc := cX0_shift) (maxL := 2) (ret := (some .int)) (by decide) rfl ?_
  intro p e s m args below meth c s₁ B hml hv
  obtain ⟨rfl, -⟩ := hv
  have hx := B.exec
  have hb := B.bytes
  have hr := B.returns
  have hts : ∀ w ∈ wsX0_shift, w.before ([.long a0] : List Value).toArray s = true := atoms_spec (ws := wsX0_shift) B.pre
  have hown : s.vm.findClass RX0 = some m.cls := findClass_of_methodNamed B.named
  have hlk : meth.locks = false := B.notSynchronized
  have q1 := hts (.methodLink RX0 90 Lib.Math.max.name) (by decide +kernel)
  have q2 := hts (.static Lib.Math.max.name) (by decide +kernel)
  have q3 := hts (.initialized "java/lang/Math") (by decide +kernel)
  have q4 := hts (.code Lib.Math.max.name Lib.Math.max.code 2 (some .int)) (by decide +kernel)
  have hl := lv_entry ([.long a0]) (n := 2) (Nat.le_of_ble_eq_true rfl)
  rw [lg_entry_eq]
  generalize (lg_sl ([.long a0]) ++ List.replicate (2 - (lg_sl ([.long a0])).length) Slot.unset).toArray = ls at hl ⊢
  have hl : lv_has ls 2 [(0, .long a0)] := hl
  unfold f_X0_shift at hf
  refine lv_lload_n hx hb dX0_shift_0 rfl (lv_at hl 0 rfl) ?_
  refine my_callPi (As := [.long a0]) (n := 1) (rest := []) ⟨hx, hb, hml, hown, hts⟩ (m_X0_exponentBits l a0 _ rfl) gX0_shift_X0_exponentBits rfl ⟨rfl, rfl⟩ (by decide +kernel) ⟨Nat.le_of_ble_eq_true rfl, Nat.le_of_ble_eq_true rfl⟩ ⟨Nat.le_of_ble_eq_true rfl, Nat.le_of_ble_eq_true rfl⟩ hl.1 rfl rfl (Nat.le_of_ble_eq_true rfl) dX0_shift_1 ?_
  refine lv_iconst (v := 1) hx hb dX0_shift_4 (by decide) ?_
  refine va_mmax hx hb (hml.trans hl.1.symm) hown q1 q2 q3 q4 (Nat.le_of_ble_eq_true rfl) (Nat.le_of_ble_eq_true rfl) (Nat.le_of_ble_eq_true rfl) (Nat.le_of_ble_eq_true rfl) dX0_shift_5 ?_
  refine lv_iconst (v := 1) hx hb dX0_shift_8 (by decide) ?_
  refine lv_isub hx hb dX0_shift_9 ?_
  exact W.iret (v := ((if (f_X0_exponentBits a0) < 1 then 1 else (f_X0_exponentBits a0)) - 1)) hx hb hr (fun t ht hW => ⟨_, rfl, hf, ht⟩) (fun q hq => absurd hq List.not_mem_nil) dX0_shift_10

set_option maxHeartbeats 4000000 in
set_option maxRecDepth 100000 in
theorem m_X0_tailOf (l : Launch) (a0 : Int64) (res : Int32) (hf : f_X0_tailOf a0 = res) : Met l yX0_tailOf wsX0_tailOf rmX0_tailOf (my_PcP [.long a0]) (vp_Si (fun z => z = res)) 0 0 (fun _ => False) := by
  refine Met.ofW (cc := cX0_tailOf) (maxL := 2) (ret := (some .int)) (by decide) rfl ?_
  intro p e s m args below meth c s₁ B hml hv
  obtain ⟨rfl, -⟩ := hv
  have hx := B.exec
  have hb := B.bytes
  have hr := B.returns
  have hts : ∀ w ∈ wsX0_tailOf, w.before ([.long a0] : List Value).toArray s = true := atoms_spec (ws := wsX0_tailOf) B.pre
  have hown : s.vm.findClass RX0 = some m.cls := findClass_of_methodNamed B.named
  have hlk : meth.locks = false := B.notSynchronized
  have hl := lv_entry ([.long a0]) (n := 2) (Nat.le_of_ble_eq_true rfl)
  rw [lg_entry_eq]
  generalize (lg_sl ([.long a0]) ++ List.replicate (2 - (lg_sl ([.long a0])).length) Slot.unset).toArray = ls at hl ⊢
  have hl : lv_has ls 2 [(0, .long a0)] := hl
  unfold f_X0_tailOf at hf
  refine lv_lload_n hx hb dX0_tailOf_0 rfl (lv_at hl 0 rfl) ?_
  refine my_callPl (As := [.long a0]) (n := 1) (rest := []) ⟨hx, hb, hml, hown, hts⟩ (m_X0_whole l a0 _ rfl) gX0_tailOf_X0_whole rfl ⟨rfl, rfl⟩ (by decide +kernel) ⟨Nat.le_of_ble_eq_true rfl, Nat.le_of_ble_eq_true rfl⟩ ⟨Nat.le_of_ble_eq_true rfl, Nat.le_of_ble_eq_true rfl⟩ hl.1 rfl rfl (Nat.le_of_ble_eq_true rfl) dX0_tailOf_1 ?_
  refine my_callPi (As := [.long (f_X0_whole a0)]) (n := 1) (rest := []) ⟨hx, hb, hml, hown, hts⟩ (m_J13_numberOfTrailingZeros_95d88 l (f_X0_whole a0) _ rfl) gX0_tailOf_J13_numberOfTrailingZeros_95d88 rfl ⟨rfl, rfl⟩ (by decide +kernel) ⟨Nat.le_of_ble_eq_true rfl, Nat.le_of_ble_eq_true rfl⟩ ⟨Nat.le_of_ble_eq_true rfl, Nat.le_of_ble_eq_true rfl⟩ hl.1 rfl rfl (Nat.le_of_ble_eq_true rfl) dX0_tailOf_4 ?_
  refine lv_lload_n hx hb dX0_tailOf_7 rfl (lv_at hl 0 rfl) ?_
  refine my_callPi (As := [.long a0]) (n := 1) (rest := [.int (f_J13_numberOfTrailingZeros_95d88 (f_X0_whole a0))]) ⟨hx, hb, hml, hown, hts⟩ (m_X0_shift l a0 _ rfl) gX0_tailOf_X0_shift rfl ⟨rfl, rfl⟩ (by decide +kernel) ⟨Nat.le_of_ble_eq_true rfl, Nat.le_of_ble_eq_true rfl⟩ ⟨Nat.le_of_ble_eq_true rfl, Nat.le_of_ble_eq_true rfl⟩ hl.1 rfl rfl (Nat.le_of_ble_eq_true rfl) dX0_tailOf_8 ?_
  refine lv_iadd hx hb dX0_tailOf_11 ?_
  refine lv_sipush (v := (-1074)) hx hb dX0_tailOf_12 (by decide) ?_
  refine lv_iadd hx hb dX0_tailOf_15 ?_
  exact W.iret (v := (((f_J13_numberOfTrailingZeros_95d88 (f_X0_whole a0)) + (f_X0_shift a0)) + (-1074))) hx hb hr (fun t ht hW => ⟨_, rfl, hf, ht⟩) (fun q hq => absurd hq List.not_mem_nil) dX0_tailOf_16

set_option maxHeartbeats 4000000 in
set_option maxRecDepth 100000 in
theorem m_X0_hasNoFraction (l : Launch) (a0 : Int64) (res : Bool) (hf : f_X0_hasNoFraction a0 = res) : Met l yX0_hasNoFraction wsX0_hasNoFraction rmX0_hasNoFraction (my_PcP [.long a0]) (vp_Si (fun z => z = b2i res)) 0 0 (fun _ => False) := by
  refine Met.ofW (cc := cX0_hasNoFraction) (maxL := 2) (ret := (some .boolean)) (by decide) rfl ?_
  intro p e s m args below meth c s₁ B hml hv
  obtain ⟨rfl, -⟩ := hv
  have hx := B.exec
  have hb := B.bytes
  have hr := B.returns
  have hts : ∀ w ∈ wsX0_hasNoFraction, w.before ([.long a0] : List Value).toArray s = true := atoms_spec (ws := wsX0_hasNoFraction) B.pre
  have hown : s.vm.findClass RX0 = some m.cls := findClass_of_methodNamed B.named
  have hlk : meth.locks = false := B.notSynchronized
  have hl := lv_entry ([.long a0]) (n := 2) (Nat.le_of_ble_eq_true rfl)
  rw [lg_entry_eq]
  generalize (lg_sl ([.long a0]) ++ List.replicate (2 - (lg_sl ([.long a0])).length) Slot.unset).toArray = ls at hl ⊢
  have hl : lv_has ls 2 [(0, .long a0)] := hl
  unfold f_X0_hasNoFraction at hf
  refine lv_lload_n hx hb dX0_hasNoFraction_0 rfl (lv_at hl 0 rfl) ?_
  refine my_callPi (As := [.long a0]) (n := 1) (rest := []) ⟨hx, hb, hml, hown, hts⟩ (m_X0_isZero l a0 _ rfl) gX0_hasNoFraction_X0_isZero rfl ⟨rfl, rfl⟩ (by decide +kernel) ⟨Nat.le_of_ble_eq_true rfl, Nat.le_of_ble_eq_true rfl⟩ ⟨Nat.le_of_ble_eq_true rfl, Nat.le_of_ble_eq_true rfl⟩ hl.1 rfl rfl (Nat.le_of_ble_eq_true rfl) dX0_hasNoFraction_1 ?_
  refine my_bz_ne (x := (f_X0_isZero a0)) (tgt := 21) hx hb dX0_hasNoFraction_4 (by decide) (fun c1 => ?_) (fun c1 => ?_)
  · rw [if_neg c1] at hf
    refine lv_iconst (v := 1) hx hb dX0_hasNoFraction_21 (by decide) ?_
    refine lv_goto (tgt := 26) hx hb dX0_hasNoFraction_22 (by decide) ?_
    exact W.zret (v := b2i true) (ty := .boolean) hx hb hr (b2i_nar _) (fun t ht hW => ⟨_, rfl, congrArg b2i (hf), ht⟩) (fun q hq => absurd hq List.not_mem_nil) dX0_hasNoFraction_26
  · rw [if_pos c1] at hf
    refine lv_lload_n hx hb dX0_hasNoFraction_7 rfl (lv_at hl 0 rfl) ?_
    refine my_callPi (As := [.long a0]) (n := 1) (rest := []) ⟨hx, hb, hml, hown, hts⟩ (m_X0_hasNoEnd l a0 _ rfl) gX0_hasNoFraction_X0_hasNoEnd rfl ⟨rfl, rfl⟩ (by decide +kernel) ⟨Nat.le_of_ble_eq_true rfl, Nat.le_of_ble_eq_true rfl⟩ ⟨Nat.le_of_ble_eq_true rfl, Nat.le_of_ble_eq_true rfl⟩ hl.1 rfl rfl (Nat.le_of_ble_eq_true rfl) dX0_hasNoFraction_8 ?_
    refine my_bz_ne (x := (f_X0_hasNoEnd a0)) (tgt := 25) hx hb dX0_hasNoFraction_11 (by decide) (fun c2 => ?_) (fun c2 => ?_)
    · rw [if_neg c2] at hf
      refine lv_iconst (v := 0) hx hb dX0_hasNoFraction_25 (by decide) ?_
      exact W.zret (v := b2i false) (ty := .boolean) hx hb hr (b2i_nar _) (fun t ht hW => ⟨_, rfl, congrArg b2i (hf), ht⟩) (fun q hq => absurd hq List.not_mem_nil) dX0_hasNoFraction_26
    · rw [if_pos c2] at hf
      refine lv_lload_n hx hb dX0_hasNoFraction_14 rfl (lv_at hl 0 rfl) ?_
      refine my_callPi (As := [.long a0]) (n := 1) (rest := []) ⟨hx, hb, hml, hown, hts⟩ (m_X0_tailOf l a0 _ rfl) gX0_hasNoFraction_X0_tailOf rfl ⟨rfl, rfl⟩ (by decide +kernel) ⟨Nat.le_of_ble_eq_true rfl, Nat.le_of_ble_eq_true rfl⟩ ⟨Nat.le_of_ble_eq_true rfl, Nat.le_of_ble_eq_true rfl⟩ hl.1 rfl rfl (Nat.le_of_ble_eq_true rfl) dX0_hasNoFraction_15 ?_
      refine my_if_lt (tgt := 25) hx hb dX0_hasNoFraction_18 (by decide) (fun c3 => ?_) (fun c3 => ?_)
      · rw [if_pos c3] at hf
        refine lv_iconst (v := 0) hx hb dX0_hasNoFraction_25 (by decide) ?_
        exact W.zret (v := b2i false) (ty := .boolean) hx hb hr (b2i_nar _) (fun t ht hW => ⟨_, rfl, congrArg b2i (hf), ht⟩) (fun q hq => absurd hq List.not_mem_nil) dX0_hasNoFraction_26
      · rw [if_neg c3] at hf
        refine lv_iconst (v := 1) hx hb dX0_hasNoFraction_21 (by decide) ?_
        refine lv_goto (tgt := 26) hx hb dX0_hasNoFraction_22 (by decide) ?_
        exact W.zret (v := b2i true) (ty := .boolean) hx hb hr (b2i_nar _) (fun t ht hW => ⟨_, rfl, congrArg b2i (hf), ht⟩) (fun q hq => absurd hq List.not_mem_nil) dX0_hasNoFraction_26

set_option maxHeartbeats 4000000 in
set_option maxRecDepth 100000 in
theorem m_X0_hasLeastExponent (l : Launch) (a0 : Int64) (res : Bool) (hf : f_X0_hasLeastExponent a0 = res) : Met l yX0_hasLeastExponent wsX0_hasLeastExponent rmX0_hasLeastExponent (my_PcP [.long a0]) (vp_Si (fun z => z = b2i res)) 0 0 (fun _ => False) := by
  refine Met.ofW (cc := cX0_hasLeastExponent) (maxL := 2) (ret := (some .boolean)) (by decide) rfl ?_
  intro p e s m args below meth c s₁ B hml hv
  obtain ⟨rfl, -⟩ := hv
  have hx := B.exec
  have hb := B.bytes
  have hr := B.returns
  have hts : ∀ w ∈ wsX0_hasLeastExponent, w.before ([.long a0] : List Value).toArray s = true := atoms_spec (ws := wsX0_hasLeastExponent) B.pre
  have hown : s.vm.findClass RX0 = some m.cls := findClass_of_methodNamed B.named
  have hlk : meth.locks = false := B.notSynchronized
  have hl := lv_entry ([.long a0]) (n := 2) (Nat.le_of_ble_eq_true rfl)
  rw [lg_entry_eq]
  generalize (lg_sl ([.long a0]) ++ List.replicate (2 - (lg_sl ([.long a0])).length) Slot.unset).toArray = ls at hl ⊢
  have hl : lv_has ls 2 [(0, .long a0)] := hl
  unfold f_X0_hasLeastExponent at hf
  refine lv_lload_n hx hb dX0_hasLeastExponent_0 rfl (lv_at hl 0 rfl) ?_
  refine my_callPi (As := [.long a0]) (n := 1) (rest := []) ⟨hx, hb, hml, hown, hts⟩ (m_X0_exponentBits l a0 _ rfl) gX0_hasLeastExponent_X0_exponentBits rfl ⟨rfl, rfl⟩ (by decide +kernel) ⟨Nat.le_of_ble_eq_true rfl, Nat.le_of_ble_eq_true rfl⟩ ⟨Nat.le_of_ble_eq_true rfl, Nat.le_of_ble_eq_true rfl⟩ hl.1 rfl rfl (Nat.le_of_ble_eq_true rfl) dX0_hasLeastExponent_1 ?_
  refine my_if_ne (tgt := 11) hx hb dX0_hasLeastExponent_4 (by decide) (fun c1 => ?_) (fun c1 => ?_)
  · rw [if_neg c1] at hf
    refine lv_iconst (v := 0) hx hb dX0_hasLeastExponent_11 (by decide) ?_
    exact W.zret (v := b2i false) (ty := .boolean) hx hb hr (b2i_nar _) (fun t ht hW => ⟨_, rfl, congrArg b2i (hf), ht⟩) (fun q hq => absurd hq List.not_mem_nil) dX0_hasLeastExponent_12
  · rw [if_pos c1] at hf
    refine lv_iconst (v := 1) hx hb dX0_hasLeastExponent_7 (by decide) ?_
    refine lv_goto (tgt := 12) hx hb dX0_hasLeastExponent_8 (by decide) ?_
    exact W.zret (v := b2i true) (ty := .boolean) hx hb hr (b2i_nar _) (fun t ht hW => ⟨_, rfl, congrArg b2i (hf), ht⟩) (fun q hq => absurd hq List.not_mem_nil) dX0_hasLeastExponent_12

set_option maxHeartbeats 4000000 in
set_option maxRecDepth 100000 in
theorem m_X0_handedExponent (l : Launch) (a0 : Int32) (res : Int32) (hf : f_X0_handedExponent a0 = res) : Met l yX0_handedExponent wsX0_handedExponent rmX0_handedExponent (my_PcP [.int a0]) (vp_Si (fun z => z = res)) 0 0 (fun _ => False) := by
  refine Met.ofW (cc := cX0_handedExponent) (maxL := 1) (ret := (some .int)) (by decide) rfl ?_
  intro p e s m args below meth c s₁ B hml hv
  obtain ⟨rfl, -⟩ := hv
  have hx := B.exec
  have hb := B.bytes
  have hr := B.returns
  have hts : ∀ w ∈ wsX0_handedExponent, w.before ([.int a0] : List Value).toArray s = true := atoms_spec (ws := wsX0_handedExponent) B.pre
  have hown : s.vm.findClass RX0 = some m.cls := findClass_of_methodNamed B.named
  have hlk : meth.locks = false := B.notSynchronized
  have hl := lv_entry ([.int a0]) (n := 1) (Nat.le_of_ble_eq_true rfl)
  rw [lg_entry_eq]
  generalize (lg_sl ([.int a0]) ++ List.replicate (1 - (lg_sl ([.int a0])).length) Slot.unset).toArray = ls at hl ⊢
  have hl : lv_has ls 1 [(0, .int a0)] := hl
  unfold f_X0_handedExponent at hf
  refine lv_iload_n hx hb dX0_handedExponent_0 rfl (lv_at hl 0 rfl) ?_
  refine lv_bipush (v := 64) hx hb dX0_handedExponent_1 (by decide) ?_
  refine my_ic_ge (tgt := 12) hx hb dX0_handedExponent_3 (by decide) (fun c1 => ?_) (fun c1 => ?_)
  · rw [if_neg c1] at hf
    refine lv_iload_n hx hb dX0_handedExponent_12 rfl (lv_at hl 0 rfl) ?_
    refine lv_sipush (v := 191) hx hb dX0_handedExponent_13 (by decide) ?_
    refine my_ic_gt (tgt := 27) hx hb dX0_handedExponent_16 (by decide) (fun c2 => ?_) (fun c2 => ?_)
    · rw [if_pos c2] at hf
      refine lv_iload_n hx hb dX0_handedExponent_27 rfl (lv_at hl 0 rfl) ?_
      refine lv_sipush (v := 761) hx hb dX0_handedExponent_28 (by decide) ?_
      refine lv_iadd hx hb dX0_handedExponent_31 ?_
      exact W.iret (v := (a0 + 761)) hx hb hr (fun t ht hW => ⟨_, rfl, hf, ht⟩) (fun q hq => absurd hq List.not_mem_nil) dX0_handedExponent_32
    · rw [if_neg c2] at hf
      refine lv_iload_n hx hb dX0_handedExponent_19 rfl (lv_at hl 0 rfl) ?_
      refine lv_sipush (v := 128) hx hb dX0_handedExponent_20 (by decide) ?_
      refine lv_isub hx hb dX0_handedExponent_23 ?_
      refine lv_goto (tgt := 32) hx hb dX0_handedExponent_24 (by decide) ?_
      exact W.iret (v := (a0 - 128)) hx hb hr (fun t ht hW => ⟨_, rfl, hf, ht⟩) (fun q hq => absurd hq List.not_mem_nil) dX0_handedExponent_32
  · rw [if_pos c1] at hf
    refine lv_iload_n hx hb dX0_handedExponent_6 rfl (lv_at hl 0 rfl) ?_
    refine lv_sipush (v := 1074) hx hb dX0_handedExponent_7 (by decide) ?_
    refine lv_isub hx hb dX0_handedExponent_10 ?_
    exact W.iret (v := (a0 - 1074)) hx hb hr (fun t ht hW => ⟨_, rfl, hf, ht⟩) (fun q hq => absurd hq List.not_mem_nil) dX0_handedExponent_11

set_option maxHeartbeats 4000000 in
set_option maxRecDepth 100000 in
theorem m_J6_numberOfLeadingZeros_0f7a4 (l : Launch) (a0 : Int32) (res : Int32) (hf : f_J6_numberOfLeadingZeros_0f7a4 a0 = res) : Met l yJ6_numberOfLeadingZeros_0f7a4 wsJ6_numberOfLeadingZeros_0f7a4 rmJ6_numberOfLeadingZeros_0f7a4 (my_PcP [.int a0]) (vp_Si (fun z => z = res)) 0 0 (fun _ => False) := by
  refine Met.ofW (cc := cJ6_numberOfLeadingZeros_0f7a4) (maxL := 2) (ret := (some .int)) (by decide) rfl ?_
  intro p e s m args below meth c s₁ B hml hv
  obtain ⟨rfl, -⟩ := hv
  have hx := B.exec
  have hb := B.bytes
  have hr := B.returns
  have hts : ∀ w ∈ wsJ6_numberOfLeadingZeros_0f7a4, w.before ([.int a0] : List Value).toArray s = true := atoms_spec (ws := wsJ6_numberOfLeadingZeros_0f7a4) B.pre
  have hown : s.vm.findClass RJ6 = some m.cls := findClass_of_methodNamed B.named
  have hlk : meth.locks = false := B.notSynchronized
  have q1 := hts (.constant RJ6 264 (65536)) (by decide +kernel)
  have hl := lv_entry ([.int a0]) (n := 2) (Nat.le_of_ble_eq_true rfl)
  rw [lg_entry_eq]
  generalize (lg_sl ([.int a0]) ++ List.replicate (2 - (lg_sl ([.int a0])).length) Slot.unset).toArray = ls at hl ⊢
  have hl : lv_has ls 2 [(0, .int a0)] := hl
  unfold f_J6_numberOfLeadingZeros_0f7a4 at hf
  refine lv_iload_n hx hb dJ6_numberOfLeadingZeros_0f7a4_0 rfl (lv_at hl 0 rfl) ?_
  refine my_if_gt (tgt := 15) hx hb dJ6_numberOfLeadingZeros_0f7a4_1 (by decide) (fun c1 => ?_) (fun c1 => ?_)
  · rw [if_pos c1] at hf
    refine lv_bipush (v := 31) hx hb dJ6_numberOfLeadingZeros_0f7a4_15 (by decide) ?_
    refine lv_istore_n (lv' := [(1, .int 31), (0, .int a0)]) hx hb dJ6_numberOfLeadingZeros_0f7a4_17 rfl hl (by decide) rfl (fun ls hl => ?_)
    refine lv_iload_n hx hb dJ6_numberOfLeadingZeros_0f7a4_18 rfl (lv_at hl 1 rfl) ?_
    refine lv_ldcw (v := 65536) hx hb hown q1 dJ6_numberOfLeadingZeros_0f7a4_19 ?_
    refine my_ic_lt (tgt := 33) hx hb dJ6_numberOfLeadingZeros_0f7a4_22 (by decide) (fun c2 => ?_) (fun c2 => ?_)
    · rw [if_pos c2] at hf
      refine lv_iload_n hx hb dJ6_numberOfLeadingZeros_0f7a4_33 rfl (lv_at hl 1 rfl) ?_
      refine lv_sipush (v := 256) hx hb dJ6_numberOfLeadingZeros_0f7a4_34 (by decide) ?_
      refine my_ic_lt (tgt := 48) hx hb dJ6_numberOfLeadingZeros_0f7a4_37 (by decide) (fun c3 => ?_) (fun c3 => ?_)
      · rw [if_pos c3] at hf
        refine lv_iload_n hx hb dJ6_numberOfLeadingZeros_0f7a4_48 rfl (lv_at hl 1 rfl) ?_
        refine lv_bipush (v := 16) hx hb dJ6_numberOfLeadingZeros_0f7a4_49 (by decide) ?_
        refine my_ic_lt (tgt := 61) hx hb dJ6_numberOfLeadingZeros_0f7a4_51 (by decide) (fun c4 => ?_) (fun c4 => ?_)
        · rw [if_pos c4] at hf
          refine lv_iload_n hx hb dJ6_numberOfLeadingZeros_0f7a4_61 rfl (lv_at hl 1 rfl) ?_
          refine lv_iconst (v := 4) hx hb dJ6_numberOfLeadingZeros_0f7a4_62 (by decide) ?_
          refine my_ic_lt (tgt := 73) hx hb dJ6_numberOfLeadingZeros_0f7a4_63 (by decide) (fun c5 => ?_) (fun c5 => ?_)
          · rw [if_pos c5] at hf
            refine lv_iload_n hx hb dJ6_numberOfLeadingZeros_0f7a4_73 rfl (lv_at hl 0 rfl) ?_
            refine lv_iload_n hx hb dJ6_numberOfLeadingZeros_0f7a4_74 rfl (lv_at hl 1 rfl) ?_
            refine lv_iconst (v := 1) hx hb dJ6_numberOfLeadingZeros_0f7a4_75 (by decide) ?_
            refine lv_iushr (v := (jiushr a0 1)) hx hb dJ6_numberOfLeadingZeros_0f7a4_76 rfl ?_
            refine lv_isub hx hb dJ6_numberOfLeadingZeros_0f7a4_77 ?_
            exact W.iret (v := (31 - (jiushr a0 1))) hx hb hr (fun t ht hW => ⟨_, rfl, hf, ht⟩) (fun q hq => absurd hq List.not_mem_nil) dJ6_numberOfLeadingZeros_0f7a4_78
          · rw [if_neg c5] at hf
            refine lv_iinc (v := (31 + (-2))) (lv' := [(1, .int (31 + (-2))), (0, .int a0)]) hx hb dJ6_numberOfLeadingZeros_0f7a4_66 hl (k := 0) rfl rfl (by decide) rfl (fun ls hl => ?_)
            refine lv_iload_n hx hb dJ6_numberOfLeadingZeros_0f7a4_69 rfl (lv_at hl 1 rfl) ?_
            refine lv_iconst (v := 2) hx hb dJ6_numberOfLeadingZeros_0f7a4_70 (by decide) ?_
            refine lv_iushr (v := (jiushr a0 2)) hx hb dJ6_numberOfLeadingZeros_0f7a4_71 rfl ?_
            refine lv_istore_n (lv' := [(0, .int (jiushr a0 2)), (1, .int (31 + (-2)))]) hx hb dJ6_numberOfLeadingZeros_0f7a4_72 rfl hl (by decide) rfl (fun ls hl => ?_)
            refine lv_iload_n hx hb dJ6_numberOfLeadingZeros_0f7a4_73 rfl (lv_at hl 1 rfl) ?_
            refine lv_iload_n hx hb dJ6_numberOfLeadingZeros_0f7a4_74 rfl (lv_at hl 0 rfl) ?_
            refine lv_iconst (v := 1) hx hb dJ6_numberOfLeadingZeros_0f7a4_75 (by decide) ?_
            refine lv_iushr (v := (jiushr (jiushr a0 2) 1)) hx hb dJ6_numberOfLeadingZeros_0f7a4_76 rfl ?_
            refine lv_isub hx hb dJ6_numberOfLeadingZeros_0f7a4_77 ?_
            exact W.iret (v := ((31 + (-2)) - (jiushr (jiushr a0 2) 1))) hx hb hr (fun t ht hW => ⟨_, rfl, hf, ht⟩) (fun q hq => absurd hq List.not_mem_nil) dJ6_numberOfLeadingZeros_0f7a4_78
        · rw [if_neg c4] at hf
          refine lv_iinc (v := (31 + (-4))) (lv' := [(1, .int (31 + (-4))), (0, .int a0)]) hx hb dJ6_numberOfLeadingZeros_0f7a4_54 hl (k := 0) rfl rfl (by decide) rfl (fun ls hl => ?_)
          refine lv_iload_n hx hb dJ6_numberOfLeadingZeros_0f7a4_57 rfl (lv_at hl 1 rfl) ?_
          refine lv_iconst (v := 4) hx hb dJ6_numberOfLeadingZeros_0f7a4_58 (by decide) ?_
          refine lv_iushr (v := (jiushr a0 4)) hx hb dJ6_numberOfLeadingZeros_0f7a4_59 rfl ?_
          refine lv_istore_n (lv' := [(0, .int (jiushr a0 4)), (1, .int (31 + (-4)))]) hx hb dJ6_numberOfLeadingZeros_0f7a4_60 rfl hl (by decide) rfl (fun ls hl => ?_)
          refine lv_iload_n hx hb dJ6_numberOfLeadingZeros_0f7a4_61 rfl (lv_at hl 0 rfl) ?_
          refine lv_iconst (v := 4) hx hb dJ6_numberOfLeadingZeros_0f7a4_62 (by decide) ?_
          refine my_ic_lt (tgt := 73) hx hb dJ6_numberOfLeadingZeros_0f7a4_63 (by decide) (fun c6 => ?_) (fun c6 => ?_)
          · rw [if_pos c6] at hf
            refine lv_iload_n hx hb dJ6_numberOfLeadingZeros_0f7a4_73 rfl (lv_at hl 1 rfl) ?_
            refine lv_iload_n hx hb dJ6_numberOfLeadingZeros_0f7a4_74 rfl (lv_at hl 0 rfl) ?_
            refine lv_iconst (v := 1) hx hb dJ6_numberOfLeadingZeros_0f7a4_75 (by decide) ?_
            refine lv_iushr (v := (jiushr (jiushr a0 4) 1)) hx hb dJ6_numberOfLeadingZeros_0f7a4_76 rfl ?_
            refine lv_isub hx hb dJ6_numberOfLeadingZeros_0f7a4_77 ?_
            exact W.iret (v := ((31 + (-4)) - (jiushr (jiushr a0 4) 1))) hx hb hr (fun t ht hW => ⟨_, rfl, hf, ht⟩) (fun q hq => absurd hq List.not_mem_nil) dJ6_numberOfLeadingZeros_0f7a4_78
          · rw [if_neg c6] at hf
            refine lv_iinc (v := ((31 + (-4)) + (-2))) (lv' := [(1, .int ((31 + (-4)) + (-2))), (0, .int (jiushr a0 4))]) hx hb dJ6_numberOfLeadingZeros_0f7a4_66 hl (k := 1) rfl rfl (by decide) rfl (fun ls hl => ?_)
            refine lv_iload_n hx hb dJ6_numberOfLeadingZeros_0f7a4_69 rfl (lv_at hl 1 rfl) ?_
            refine lv_iconst (v := 2) hx hb dJ6_numberOfLeadingZeros_0f7a4_70 (by decide) ?_
            refine lv_iushr (v := (jiushr (jiushr a0 4) 2)) hx hb dJ6_numberOfLeadingZeros_0f7a4_71 rfl ?_
            refine lv_istore_n (lv' := [(0, .int (jiushr (jiushr a0 4) 2)), (1, .int ((31 + (-4)) + (-2)))]) hx hb dJ6_numberOfLeadingZeros_0f7a4_72 rfl hl (by decide) rfl (fun ls hl => ?_)
            refine lv_iload_n hx hb dJ6_numberOfLeadingZeros_0f7a4_73 rfl (lv_at hl 1 rfl) ?_
            refine lv_iload_n hx hb dJ6_numberOfLeadingZeros_0f7a4_74 rfl (lv_at hl 0 rfl) ?_
            refine lv_iconst (v := 1) hx hb dJ6_numberOfLeadingZeros_0f7a4_75 (by decide) ?_
            refine lv_iushr (v := (jiushr (jiushr (jiushr a0 4) 2) 1)) hx hb dJ6_numberOfLeadingZeros_0f7a4_76 rfl ?_
            refine lv_isub hx hb dJ6_numberOfLeadingZeros_0f7a4_77 ?_
            exact W.iret (v := (((31 + (-4)) + (-2)) - (jiushr (jiushr (jiushr a0 4) 2) 1))) hx hb hr (fun t ht hW => ⟨_, rfl, hf, ht⟩) (fun q hq => absurd hq List.not_mem_nil) dJ6_numberOfLeadingZeros_0f7a4_78
      · rw [if_neg c3] at hf
        refine lv_iinc (v := (31 + (-8))) (lv' := [(1, .int (31 + (-8))), (0, .int a0)]) hx hb dJ6_numberOfLeadingZeros_0f7a4_40 hl (k := 0) rfl rfl (by decide) rfl (fun ls hl => ?_)
        refine lv_iload_n hx hb dJ6_numberOfLeadingZeros_0f7a4_43 rfl (lv_at hl 1 rfl) ?_
        refine lv_bipush (v := 8) hx hb dJ6_numberOfLeadingZeros_0f7a4_44 (by decide) ?_
        refine lv_iushr (v := (jiushr a0 8)) hx hb dJ6_numberOfLeadingZeros_0f7a4_46 rfl ?_
        refine lv_istore_n (lv' := [(0, .int (jiushr a0 8)), (1, .int (31 + (-8)))]) hx hb dJ6_numberOfLeadingZeros_0f7a4_47 rfl hl (by decide) rfl (fun ls hl => ?_)
        refine lv_iload_n hx hb dJ6_numberOfLeadingZeros_0f7a4_48 rfl (lv_at hl 0 rfl) ?_
        refine lv_bipush (v := 16) hx hb dJ6_numberOfLeadingZeros_0f7a4_49 (by decide) ?_
        refine my_ic_lt (tgt := 61) hx hb dJ6_numberOfLeadingZeros_0f7a4_51 (by decide) (fun c7 => ?_) (fun c7 => ?_)
        · rw [if_pos c7] at hf
          refine lv_iload_n hx hb dJ6_numberOfLeadingZeros_0f7a4_61 rfl (lv_at hl 0 rfl) ?_
          refine lv_iconst (v := 4) hx hb dJ6_numberOfLeadingZeros_0f7a4_62 (by decide) ?_
          refine my_ic_lt (tgt := 73) hx hb dJ6_numberOfLeadingZeros_0f7a4_63 (by decide) (fun c8 => ?_) (fun c8 => ?_)
          · rw [if_pos c8] at hf
            refine lv_iload_n hx hb dJ6_numberOfLeadingZeros_0f7a4_73 rfl (lv_at hl 1 rfl) ?_
            refine lv_iload_n hx hb dJ6_numberOfLeadingZeros_0f7a4_74 rfl (lv_at hl 0 rfl) ?_
            refine lv_iconst (v := 1) hx hb dJ6_numberOfLeadingZeros_0f7a4_75 (by decide) ?_
            refine lv_iushr (v := (jiushr (jiushr a0 8) 1)) hx hb dJ6_numberOfLeadingZeros_0f7a4_76 rfl ?_
            refine lv_isub hx hb dJ6_numberOfLeadingZeros_0f7a4_77 ?_
            exact W.iret (v := ((31 + (-8)) - (jiushr (jiushr a0 8) 1))) hx hb hr (fun t ht hW => ⟨_, rfl, hf, ht⟩) (fun q hq => absurd hq List.not_mem_nil) dJ6_numberOfLeadingZeros_0f7a4_78
          · rw [if_neg c8] at hf
            refine lv_iinc (v := ((31 + (-8)) + (-2))) (lv' := [(1, .int ((31 + (-8)) + (-2))), (0, .int (jiushr a0 8))]) hx hb dJ6_numberOfLeadingZeros_0f7a4_66 hl (k := 1) rfl rfl (by decide) rfl (fun ls hl => ?_)
            refine lv_iload_n hx hb dJ6_numberOfLeadingZeros_0f7a4_69 rfl (lv_at hl 1 rfl) ?_
            refine lv_iconst (v := 2) hx hb dJ6_numberOfLeadingZeros_0f7a4_70 (by decide) ?_
            refine lv_iushr (v := (jiushr (jiushr a0 8) 2)) hx hb dJ6_numberOfLeadingZeros_0f7a4_71 rfl ?_
            refine lv_istore_n (lv' := [(0, .int (jiushr (jiushr a0 8) 2)), (1, .int ((31 + (-8)) + (-2)))]) hx hb dJ6_numberOfLeadingZeros_0f7a4_72 rfl hl (by decide) rfl (fun ls hl => ?_)
            refine lv_iload_n hx hb dJ6_numberOfLeadingZeros_0f7a4_73 rfl (lv_at hl 1 rfl) ?_
            refine lv_iload_n hx hb dJ6_numberOfLeadingZeros_0f7a4_74 rfl (lv_at hl 0 rfl) ?_
            refine lv_iconst (v := 1) hx hb dJ6_numberOfLeadingZeros_0f7a4_75 (by decide) ?_
            refine lv_iushr (v := (jiushr (jiushr (jiushr a0 8) 2) 1)) hx hb dJ6_numberOfLeadingZeros_0f7a4_76 rfl ?_
            refine lv_isub hx hb dJ6_numberOfLeadingZeros_0f7a4_77 ?_
            exact W.iret (v := (((31 + (-8)) + (-2)) - (jiushr (jiushr (jiushr a0 8) 2) 1))) hx hb hr (fun t ht hW => ⟨_, rfl, hf, ht⟩) (fun q hq => absurd hq List.not_mem_nil) dJ6_numberOfLeadingZeros_0f7a4_78
        · rw [if_neg c7] at hf
          refine lv_iinc (v := ((31 + (-8)) + (-4))) (lv' := [(1, .int ((31 + (-8)) + (-4))), (0, .int (jiushr a0 8))]) hx hb dJ6_numberOfLeadingZeros_0f7a4_54 hl (k := 1) rfl rfl (by decide) rfl (fun ls hl => ?_)
          refine lv_iload_n hx hb dJ6_numberOfLeadingZeros_0f7a4_57 rfl (lv_at hl 1 rfl) ?_
          refine lv_iconst (v := 4) hx hb dJ6_numberOfLeadingZeros_0f7a4_58 (by decide) ?_
          refine lv_iushr (v := (jiushr (jiushr a0 8) 4)) hx hb dJ6_numberOfLeadingZeros_0f7a4_59 rfl ?_
          refine lv_istore_n (lv' := [(0, .int (jiushr (jiushr a0 8) 4)), (1, .int ((31 + (-8)) + (-4)))]) hx hb dJ6_numberOfLeadingZeros_0f7a4_60 rfl hl (by decide) rfl (fun ls hl => ?_)
          refine lv_iload_n hx hb dJ6_numberOfLeadingZeros_0f7a4_61 rfl (lv_at hl 0 rfl) ?_
          refine lv_iconst (v := 4) hx hb dJ6_numberOfLeadingZeros_0f7a4_62 (by decide) ?_
          refine my_ic_lt (tgt := 73) hx hb dJ6_numberOfLeadingZeros_0f7a4_63 (by decide) (fun c9 => ?_) (fun c9 => ?_)
          · rw [if_pos c9] at hf
            refine lv_iload_n hx hb dJ6_numberOfLeadingZeros_0f7a4_73 rfl (lv_at hl 1 rfl) ?_
            refine lv_iload_n hx hb dJ6_numberOfLeadingZeros_0f7a4_74 rfl (lv_at hl 0 rfl) ?_
            refine lv_iconst (v := 1) hx hb dJ6_numberOfLeadingZeros_0f7a4_75 (by decide) ?_
            refine lv_iushr (v := (jiushr (jiushr (jiushr a0 8) 4) 1)) hx hb dJ6_numberOfLeadingZeros_0f7a4_76 rfl ?_
            refine lv_isub hx hb dJ6_numberOfLeadingZeros_0f7a4_77 ?_
            exact W.iret (v := (((31 + (-8)) + (-4)) - (jiushr (jiushr (jiushr a0 8) 4) 1))) hx hb hr (fun t ht hW => ⟨_, rfl, hf, ht⟩) (fun q hq => absurd hq List.not_mem_nil) dJ6_numberOfLeadingZeros_0f7a4_78
          · rw [if_neg c9] at hf
            refine lv_iinc (v := (((31 + (-8)) + (-4)) + (-2))) (lv' := [(1, .int (((31 + (-8)) + (-4)) + (-2))), (0, .int (jiushr (jiushr a0 8) 4))]) hx hb dJ6_numberOfLeadingZeros_0f7a4_66 hl (k := 1) rfl rfl (by decide) rfl (fun ls hl => ?_)
            refine lv_iload_n hx hb dJ6_numberOfLeadingZeros_0f7a4_69 rfl (lv_at hl 1 rfl) ?_
            refine lv_iconst (v := 2) hx hb dJ6_numberOfLeadingZeros_0f7a4_70 (by decide) ?_
            refine lv_iushr (v := (jiushr (jiushr (jiushr a0 8) 4) 2)) hx hb dJ6_numberOfLeadingZeros_0f7a4_71 rfl ?_
            refine lv_istore_n (lv' := [(0, .int (jiushr (jiushr (jiushr a0 8) 4) 2)), (1, .int (((31 + (-8)) + (-4)) + (-2)))]) hx hb dJ6_numberOfLeadingZeros_0f7a4_72 rfl hl (by decide) rfl (fun ls hl => ?_)
            refine lv_iload_n hx hb dJ6_numberOfLeadingZeros_0f7a4_73 rfl (lv_at hl 1 rfl) ?_
            refine lv_iload_n hx hb dJ6_numberOfLeadingZeros_0f7a4_74 rfl (lv_at hl 0 rfl) ?_
            refine lv_iconst (v := 1) hx hb dJ6_numberOfLeadingZeros_0f7a4_75 (by decide) ?_
            refine lv_iushr (v := (jiushr (jiushr (jiushr (jiushr a0 8) 4) 2) 1)) hx hb dJ6_numberOfLeadingZeros_0f7a4_76 rfl ?_
            refine lv_isub hx hb dJ6_numberOfLeadingZeros_0f7a4_77 ?_
            exact W.iret (v := ((((31 + (-8)) + (-4)) + (-2)) - (jiushr (jiushr (jiushr (jiushr a0 8) 4) 2) 1))) hx hb hr (fun t ht hW => ⟨_, rfl, hf, ht⟩) (fun q hq => absurd hq List.not_mem_nil) dJ6_numberOfLeadingZeros_0f7a4_78
    · rw [if_neg c2] at hf
      refine lv_iinc (v := (31 + (-16))) (lv' := [(1, .int (31 + (-16))), (0, .int a0)]) hx hb dJ6_numberOfLeadingZeros_0f7a4_25 hl (k := 0) rfl rfl (by decide) rfl (fun ls hl => ?_)
      refine lv_iload_n hx hb dJ6_numberOfLeadingZeros_0f7a4_28 rfl (lv_at hl 1 rfl) ?_
      refine lv_bipush (v := 16) hx hb dJ6_numberOfLeadingZeros_0f7a4_29 (by decide) ?_
      refine lv_iushr (v := (jiushr a0 16)) hx hb dJ6_numberOfLeadingZeros_0f7a4_31 rfl ?_
      refine lv_istore_n (lv' := [(0, .int (jiushr a0 16)), (1, .int (31 + (-16)))]) hx hb dJ6_numberOfLeadingZeros_0f7a4_32 rfl hl (by decide) rfl (fun ls hl => ?_)
      refine lv_iload_n hx hb dJ6_numberOfLeadingZeros_0f7a4_33 rfl (lv_at hl 0 rfl) ?_
      refine lv_sipush (v := 256) hx hb dJ6_numberOfLeadingZeros_0f7a4_34 (by decide) ?_
      refine my_ic_lt (tgt := 48) hx hb dJ6_numberOfLeadingZeros_0f7a4_37 (by decide) (fun c10 => ?_) (fun c10 => ?_)
      · rw [if_pos c10] at hf
        refine lv_iload_n hx hb dJ6_numberOfLeadingZeros_0f7a4_48 rfl (lv_at hl 0 rfl) ?_
        refine lv_bipush (v := 16) hx hb dJ6_numberOfLeadingZeros_0f7a4_49 (by decide) ?_
        refine my_ic_lt (tgt := 61) hx hb dJ6_numberOfLeadingZeros_0f7a4_51 (by decide) (fun c11 => ?_) (fun c11 => ?_)
        · rw [if_pos c11] at hf
          refine lv_iload_n hx hb dJ6_numberOfLeadingZeros_0f7a4_61 rfl (lv_at hl 0 rfl) ?_
          refine lv_iconst (v := 4) hx hb dJ6_numberOfLeadingZeros_0f7a4_62 (by decide) ?_
          refine my_ic_lt (tgt := 73) hx hb dJ6_numberOfLeadingZeros_0f7a4_63 (by decide) (fun c12 => ?_) (fun c12 => ?_)
          · rw [if_pos c12] at hf
            refine lv_iload_n hx hb dJ6_numberOfLeadingZeros_0f7a4_73 rfl (lv_at hl 1 rfl) ?_
            refine lv_iload_n hx hb dJ6_numberOfLeadingZeros_0f7a4_74 rfl (lv_at hl 0 rfl) ?_
            refine lv_iconst (v := 1) hx hb dJ6_numberOfLeadingZeros_0f7a4_75 (by decide) ?_
            refine lv_iushr (v := (jiushr (jiushr a0 16) 1)) hx hb dJ6_numberOfLeadingZeros_0f7a4_76 rfl ?_
            refine lv_isub hx hb dJ6_numberOfLeadingZeros_0f7a4_77 ?_
            exact W.iret (v := ((31 + (-16)) - (jiushr (jiushr a0 16) 1))) hx hb hr (fun t ht hW => ⟨_, rfl, hf, ht⟩) (fun q hq => absurd hq List.not_mem_nil) dJ6_numberOfLeadingZeros_0f7a4_78
          · rw [if_neg c12] at hf
            refine lv_iinc (v := ((31 + (-16)) + (-2))) (lv' := [(1, .int ((31 + (-16)) + (-2))), (0, .int (jiushr a0 16))]) hx hb dJ6_numberOfLeadingZeros_0f7a4_66 hl (k := 1) rfl rfl (by decide) rfl (fun ls hl => ?_)
            refine lv_iload_n hx hb dJ6_numberOfLeadingZeros_0f7a4_69 rfl (lv_at hl 1 rfl) ?_
            refine lv_iconst (v := 2) hx hb dJ6_numberOfLeadingZeros_0f7a4_70 (by decide) ?_
            refine lv_iushr (v := (jiushr (jiushr a0 16) 2)) hx hb dJ6_numberOfLeadingZeros_0f7a4_71 rfl ?_
            refine lv_istore_n (lv' := [(0, .int (jiushr (jiushr a0 16) 2)), (1, .int ((31 + (-16)) + (-2)))]) hx hb dJ6_numberOfLeadingZeros_0f7a4_72 rfl hl (by decide) rfl (fun ls hl => ?_)
            refine lv_iload_n hx hb dJ6_numberOfLeadingZeros_0f7a4_73 rfl (lv_at hl 1 rfl) ?_
            refine lv_iload_n hx hb dJ6_numberOfLeadingZeros_0f7a4_74 rfl (lv_at hl 0 rfl) ?_
            refine lv_iconst (v := 1) hx hb dJ6_numberOfLeadingZeros_0f7a4_75 (by decide) ?_
            refine lv_iushr (v := (jiushr (jiushr (jiushr a0 16) 2) 1)) hx hb dJ6_numberOfLeadingZeros_0f7a4_76 rfl ?_
            refine lv_isub hx hb dJ6_numberOfLeadingZeros_0f7a4_77 ?_
            exact W.iret (v := (((31 + (-16)) + (-2)) - (jiushr (jiushr (jiushr a0 16) 2) 1))) hx hb hr (fun t ht hW => ⟨_, rfl, hf, ht⟩) (fun q hq => absurd hq List.not_mem_nil) dJ6_numberOfLeadingZeros_0f7a4_78
        · rw [if_neg c11] at hf
          refine lv_iinc (v := ((31 + (-16)) + (-4))) (lv' := [(1, .int ((31 + (-16)) + (-4))), (0, .int (jiushr a0 16))]) hx hb dJ6_numberOfLeadingZeros_0f7a4_54 hl (k := 1) rfl rfl (by decide) rfl (fun ls hl => ?_)
          refine lv_iload_n hx hb dJ6_numberOfLeadingZeros_0f7a4_57 rfl (lv_at hl 1 rfl) ?_
          refine lv_iconst (v := 4) hx hb dJ6_numberOfLeadingZeros_0f7a4_58 (by decide) ?_
          refine lv_iushr (v := (jiushr (jiushr a0 16) 4)) hx hb dJ6_numberOfLeadingZeros_0f7a4_59 rfl ?_
          refine lv_istore_n (lv' := [(0, .int (jiushr (jiushr a0 16) 4)), (1, .int ((31 + (-16)) + (-4)))]) hx hb dJ6_numberOfLeadingZeros_0f7a4_60 rfl hl (by decide) rfl (fun ls hl => ?_)
          refine lv_iload_n hx hb dJ6_numberOfLeadingZeros_0f7a4_61 rfl (lv_at hl 0 rfl) ?_
          refine lv_iconst (v := 4) hx hb dJ6_numberOfLeadingZeros_0f7a4_62 (by decide) ?_
          refine my_ic_lt (tgt := 73) hx hb dJ6_numberOfLeadingZeros_0f7a4_63 (by decide) (fun c13 => ?_) (fun c13 => ?_)
          · rw [if_pos c13] at hf
            refine lv_iload_n hx hb dJ6_numberOfLeadingZeros_0f7a4_73 rfl (lv_at hl 1 rfl) ?_
            refine lv_iload_n hx hb dJ6_numberOfLeadingZeros_0f7a4_74 rfl (lv_at hl 0 rfl) ?_
            refine lv_iconst (v := 1) hx hb dJ6_numberOfLeadingZeros_0f7a4_75 (by decide) ?_
            refine lv_iushr (v := (jiushr (jiushr (jiushr a0 16) 4) 1)) hx hb dJ6_numberOfLeadingZeros_0f7a4_76 rfl ?_
            refine lv_isub hx hb dJ6_numberOfLeadingZeros_0f7a4_77 ?_
            exact W.iret (v := (((31 + (-16)) + (-4)) - (jiushr (jiushr (jiushr a0 16) 4) 1))) hx hb hr (fun t ht hW => ⟨_, rfl, hf, ht⟩) (fun q hq => absurd hq List.not_mem_nil) dJ6_numberOfLeadingZeros_0f7a4_78
          · rw [if_neg c13] at hf
            refine lv_iinc (v := (((31 + (-16)) + (-4)) + (-2))) (lv' := [(1, .int (((31 + (-16)) + (-4)) + (-2))), (0, .int (jiushr (jiushr a0 16) 4))]) hx hb dJ6_numberOfLeadingZeros_0f7a4_66 hl (k := 1) rfl rfl (by decide) rfl (fun ls hl => ?_)
            refine lv_iload_n hx hb dJ6_numberOfLeadingZeros_0f7a4_69 rfl (lv_at hl 1 rfl) ?_
            refine lv_iconst (v := 2) hx hb dJ6_numberOfLeadingZeros_0f7a4_70 (by decide) ?_
            refine lv_iushr (v := (jiushr (jiushr (jiushr a0 16) 4) 2)) hx hb dJ6_numberOfLeadingZeros_0f7a4_71 rfl ?_
            refine lv_istore_n (lv' := [(0, .int (jiushr (jiushr (jiushr a0 16) 4) 2)), (1, .int (((31 + (-16)) + (-4)) + (-2)))]) hx hb dJ6_numberOfLeadingZeros_0f7a4_72 rfl hl (by decide) rfl (fun ls hl => ?_)
            refine lv_iload_n hx hb dJ6_numberOfLeadingZeros_0f7a4_73 rfl (lv_at hl 1 rfl) ?_
            refine lv_iload_n hx hb dJ6_numberOfLeadingZeros_0f7a4_74 rfl (lv_at hl 0 rfl) ?_
            refine lv_iconst (v := 1) hx hb dJ6_numberOfLeadingZeros_0f7a4_75 (by decide) ?_
            refine lv_iushr (v := (jiushr (jiushr (jiushr (jiushr a0 16) 4) 2) 1)) hx hb dJ6_numberOfLeadingZeros_0f7a4_76 rfl ?_
            refine lv_isub hx hb dJ6_numberOfLeadingZeros_0f7a4_77 ?_
            exact W.iret (v := ((((31 + (-16)) + (-4)) + (-2)) - (jiushr (jiushr (jiushr (jiushr a0 16) 4) 2) 1))) hx hb hr (fun t ht hW => ⟨_, rfl, hf, ht⟩) (fun q hq => absurd hq List.not_mem_nil) dJ6_numberOfLeadingZeros_0f7a4_78
      · rw [if_neg c10] at hf
        refine lv_iinc (v := ((31 + (-16)) + (-8))) (lv' := [(1, .int ((31 + (-16)) + (-8))), (0, .int (jiushr a0 16))]) hx hb dJ6_numberOfLeadingZeros_0f7a4_40 hl (k := 1) rfl rfl (by decide) rfl (fun ls hl => ?_)
        refine lv_iload_n hx hb dJ6_numberOfLeadingZeros_0f7a4_43 rfl (lv_at hl 1 rfl) ?_
        refine lv_bipush (v := 8) hx hb dJ6_numberOfLeadingZeros_0f7a4_44 (by decide) ?_
        refine lv_iushr (v := (jiushr (jiushr a0 16) 8)) hx hb dJ6_numberOfLeadingZeros_0f7a4_46 rfl ?_
        refine lv_istore_n (lv' := [(0, .int (jiushr (jiushr a0 16) 8)), (1, .int ((31 + (-16)) + (-8)))]) hx hb dJ6_numberOfLeadingZeros_0f7a4_47 rfl hl (by decide) rfl (fun ls hl => ?_)
        refine lv_iload_n hx hb dJ6_numberOfLeadingZeros_0f7a4_48 rfl (lv_at hl 0 rfl) ?_
        refine lv_bipush (v := 16) hx hb dJ6_numberOfLeadingZeros_0f7a4_49 (by decide) ?_
        refine my_ic_lt (tgt := 61) hx hb dJ6_numberOfLeadingZeros_0f7a4_51 (by decide) (fun c14 => ?_) (fun c14 => ?_)
        · rw [if_pos c14] at hf
          refine lv_iload_n hx hb dJ6_numberOfLeadingZeros_0f7a4_61 rfl (lv_at hl 0 rfl) ?_
          refine lv_iconst (v := 4) hx hb dJ6_numberOfLeadingZeros_0f7a4_62 (by decide) ?_
          refine my_ic_lt (tgt := 73) hx hb dJ6_numberOfLeadingZeros_0f7a4_63 (by decide) (fun c15 => ?_) (fun c15 => ?_)
          · rw [if_pos c15] at hf
            refine lv_iload_n hx hb dJ6_numberOfLeadingZeros_0f7a4_73 rfl (lv_at hl 1 rfl) ?_
            refine lv_iload_n hx hb dJ6_numberOfLeadingZeros_0f7a4_74 rfl (lv_at hl 0 rfl) ?_
            refine lv_iconst (v := 1) hx hb dJ6_numberOfLeadingZeros_0f7a4_75 (by decide) ?_
            refine lv_iushr (v := (jiushr (jiushr (jiushr a0 16) 8) 1)) hx hb dJ6_numberOfLeadingZeros_0f7a4_76 rfl ?_
            refine lv_isub hx hb dJ6_numberOfLeadingZeros_0f7a4_77 ?_
            exact W.iret (v := (((31 + (-16)) + (-8)) - (jiushr (jiushr (jiushr a0 16) 8) 1))) hx hb hr (fun t ht hW => ⟨_, rfl, hf, ht⟩) (fun q hq => absurd hq List.not_mem_nil) dJ6_numberOfLeadingZeros_0f7a4_78
          · rw [if_neg c15] at hf
            refine lv_iinc (v := (((31 + (-16)) + (-8)) + (-2))) (lv' := [(1, .int (((31 + (-16)) + (-8)) + (-2))), (0, .int (jiushr (jiushr a0 16) 8))]) hx hb dJ6_numberOfLeadingZeros_0f7a4_66 hl (k := 1) rfl rfl (by decide) rfl (fun ls hl => ?_)
            refine lv_iload_n hx hb dJ6_numberOfLeadingZeros_0f7a4_69 rfl (lv_at hl 1 rfl) ?_
            refine lv_iconst (v := 2) hx hb dJ6_numberOfLeadingZeros_0f7a4_70 (by decide) ?_
            refine lv_iushr (v := (jiushr (jiushr (jiushr a0 16) 8) 2)) hx hb dJ6_numberOfLeadingZeros_0f7a4_71 rfl ?_
            refine lv_istore_n (lv' := [(0, .int (jiushr (jiushr (jiushr a0 16) 8) 2)), (1, .int (((31 + (-16)) + (-8)) + (-2)))]) hx hb dJ6_numberOfLeadingZeros_0f7a4_72 rfl hl (by decide) rfl (fun ls hl => ?_)
            refine lv_iload_n hx hb dJ6_numberOfLeadingZeros_0f7a4_73 rfl (lv_at hl 1 rfl) ?_
            refine lv_iload_n hx hb dJ6_numberOfLeadingZeros_0f7a4_74 rfl (lv_at hl 0 rfl) ?_
            refine lv_iconst (v := 1) hx hb dJ6_numberOfLeadingZeros_0f7a4_75 (by decide) ?_
            refine lv_iushr (v := (jiushr (jiushr (jiushr (jiushr a0 16) 8) 2) 1)) hx hb dJ6_numberOfLeadingZeros_0f7a4_76 rfl ?_
            refine lv_isub hx hb dJ6_numberOfLeadingZeros_0f7a4_77 ?_
            exact W.iret (v := ((((31 + (-16)) + (-8)) + (-2)) - (jiushr (jiushr (jiushr (jiushr a0 16) 8) 2) 1))) hx hb hr (fun t ht hW => ⟨_, rfl, hf, ht⟩) (fun q hq => absurd hq List.not_mem_nil) dJ6_numberOfLeadingZeros_0f7a4_78
        · rw [if_neg c14] at hf
          refine lv_iinc (v := (((31 + (-16)) + (-8)) + (-4))) (lv' := [(1, .int (((31 + (-16)) + (-8)) + (-4))), (0, .int (jiushr (jiushr a0 16) 8))]) hx hb dJ6_numberOfLeadingZeros_0f7a4_54 hl (k := 1) rfl rfl (by decide) rfl (fun ls hl => ?_)
          refine lv_iload_n hx hb dJ6_numberOfLeadingZeros_0f7a4_57 rfl (lv_at hl 1 rfl) ?_
          refine lv_iconst (v := 4) hx hb dJ6_numberOfLeadingZeros_0f7a4_58 (by decide) ?_
          refine lv_iushr (v := (jiushr (jiushr (jiushr a0 16) 8) 4)) hx hb dJ6_numberOfLeadingZeros_0f7a4_59 rfl ?_
          refine lv_istore_n (lv' := [(0, .int (jiushr (jiushr (jiushr a0 16) 8) 4)), (1, .int (((31 + (-16)) + (-8)) + (-4)))]) hx hb dJ6_numberOfLeadingZeros_0f7a4_60 rfl hl (by decide) rfl (fun ls hl => ?_)
          refine lv_iload_n hx hb dJ6_numberOfLeadingZeros_0f7a4_61 rfl (lv_at hl 0 rfl) ?_
          refine lv_iconst (v := 4) hx hb dJ6_numberOfLeadingZeros_0f7a4_62 (by decide) ?_
          refine my_ic_lt (tgt := 73) hx hb dJ6_numberOfLeadingZeros_0f7a4_63 (by decide) (fun c16 => ?_) (fun c16 => ?_)
          · rw [if_pos c16] at hf
            refine lv_iload_n hx hb dJ6_numberOfLeadingZeros_0f7a4_73 rfl (lv_at hl 1 rfl) ?_
            refine lv_iload_n hx hb dJ6_numberOfLeadingZeros_0f7a4_74 rfl (lv_at hl 0 rfl) ?_
            refine lv_iconst (v := 1) hx hb dJ6_numberOfLeadingZeros_0f7a4_75 (by decide) ?_
            refine lv_iushr (v := (jiushr (jiushr (jiushr (jiushr a0 16) 8) 4) 1)) hx hb dJ6_numberOfLeadingZeros_0f7a4_76 rfl ?_
            refine lv_isub hx hb dJ6_numberOfLeadingZeros_0f7a4_77 ?_
            exact W.iret (v := ((((31 + (-16)) + (-8)) + (-4)) - (jiushr (jiushr (jiushr (jiushr a0 16) 8) 4) 1))) hx hb hr (fun t ht hW => ⟨_, rfl, hf, ht⟩) (fun q hq => absurd hq List.not_mem_nil) dJ6_numberOfLeadingZeros_0f7a4_78
          · rw [if_neg c16] at hf
            refine lv_iinc (v := ((((31 + (-16)) + (-8)) + (-4)) + (-2))) (lv' := [(1, .int ((((31 + (-16)) + (-8)) + (-4)) + (-2))), (0, .int (jiushr (jiushr (jiushr a0 16) 8) 4))]) hx hb dJ6_numberOfLeadingZeros_0f7a4_66 hl (k := 1) rfl rfl (by decide) rfl (fun ls hl => ?_)
            refine lv_iload_n hx hb dJ6_numberOfLeadingZeros_0f7a4_69 rfl (lv_at hl 1 rfl) ?_
            refine lv_iconst (v := 2) hx hb dJ6_numberOfLeadingZeros_0f7a4_70 (by decide) ?_
            refine lv_iushr (v := (jiushr (jiushr (jiushr (jiushr a0 16) 8) 4) 2)) hx hb dJ6_numberOfLeadingZeros_0f7a4_71 rfl ?_
            refine lv_istore_n (lv' := [(0, .int (jiushr (jiushr (jiushr (jiushr a0 16) 8) 4) 2)), (1, .int ((((31 + (-16)) + (-8)) + (-4)) + (-2)))]) hx hb dJ6_numberOfLeadingZeros_0f7a4_72 rfl hl (by decide) rfl (fun ls hl => ?_)
            refine lv_iload_n hx hb dJ6_numberOfLeadingZeros_0f7a4_73 rfl (lv_at hl 1 rfl) ?_
            refine lv_iload_n hx hb dJ6_numberOfLeadingZeros_0f7a4_74 rfl (lv_at hl 0 rfl) ?_
            refine lv_iconst (v := 1) hx hb dJ6_numberOfLeadingZeros_0f7a4_75 (by decide) ?_
            refine lv_iushr (v := (jiushr (jiushr (jiushr (jiushr (jiushr a0 16) 8) 4) 2) 1)) hx hb dJ6_numberOfLeadingZeros_0f7a4_76 rfl ?_
            refine lv_isub hx hb dJ6_numberOfLeadingZeros_0f7a4_77 ?_
            exact W.iret (v := (((((31 + (-16)) + (-8)) + (-4)) + (-2)) - (jiushr (jiushr (jiushr (jiushr (jiushr a0 16) 8) 4) 2) 1))) hx hb hr (fun t ht hW => ⟨_, rfl, hf, ht⟩) (fun q hq => absurd hq List.not_mem_nil) dJ6_numberOfLeadingZeros_0f7a4_78
  · rw [if_neg c1] at hf
    refine lv_iload_n hx hb dJ6_numberOfLeadingZeros_0f7a4_4 rfl (lv_at hl 0 rfl) ?_
    refine my_if_ne (tgt := 13) hx hb dJ6_numberOfLeadingZeros_0f7a4_5 (by decide) (fun c17 => ?_) (fun c17 => ?_)
    · rw [if_neg c17] at hf
      refine lv_iconst (v := 0) hx hb dJ6_numberOfLeadingZeros_0f7a4_13 (by decide) ?_
      exact W.iret (v := 0) hx hb hr (fun t ht hW => ⟨_, rfl, hf, ht⟩) (fun q hq => absurd hq List.not_mem_nil) dJ6_numberOfLeadingZeros_0f7a4_14
    · rw [if_pos c17] at hf
      refine lv_bipush (v := 32) hx hb dJ6_numberOfLeadingZeros_0f7a4_8 (by decide) ?_
      refine lv_goto (tgt := 14) hx hb dJ6_numberOfLeadingZeros_0f7a4_10 (by decide) ?_
      exact W.iret (v := 32) hx hb hr (fun t ht hW => ⟨_, rfl, hf, ht⟩) (fun q hq => absurd hq List.not_mem_nil) dJ6_numberOfLeadingZeros_0f7a4_14

set_option maxHeartbeats 4000000 in
set_option maxRecDepth 100000 in
theorem m_J13_numberOfLeadingZeros_95d88 (l : Launch) (a0 : Int64) (res : Int32) (hf : f_J13_numberOfLeadingZeros_95d88 a0 = res) : Met l yJ13_numberOfLeadingZeros_95d88 wsJ13_numberOfLeadingZeros_95d88 rmJ13_numberOfLeadingZeros_95d88 (my_PcP [.long a0]) (vp_Si (fun z => z = res)) 0 0 (fun _ => False) := by
  refine Met.ofW (cc := cJ13_numberOfLeadingZeros_95d88) (maxL := 3) (ret := (some .int)) (by decide) rfl ?_
  intro p e s m args below meth c s₁ B hml hv
  obtain ⟨rfl, -⟩ := hv
  have hx := B.exec
  have hb := B.bytes
  have hr := B.returns
  have hts : ∀ w ∈ wsJ13_numberOfLeadingZeros_95d88, w.before ([.long a0] : List Value).toArray s = true := atoms_spec (ws := wsJ13_numberOfLeadingZeros_95d88) B.pre
  have hown : s.vm.findClass RJ13 = some m.cls := findClass_of_methodNamed B.named
  have hlk : meth.locks = false := B.notSynchronized
  have hl := lv_entry ([.long a0]) (n := 3) (Nat.le_of_ble_eq_true rfl)
  rw [lg_entry_eq]
  generalize (lg_sl ([.long a0]) ++ List.replicate (3 - (lg_sl ([.long a0])).length) Slot.unset).toArray = ls at hl ⊢
  have hl : lv_has ls 3 [(0, .long a0)] := hl
  unfold f_J13_numberOfLeadingZeros_95d88 at hf
  refine lv_lload_n hx hb dJ13_numberOfLeadingZeros_95d88_0 rfl (lv_at hl 0 rfl) ?_
  refine lv_bipush (v := 32) hx hb dJ13_numberOfLeadingZeros_95d88_1 (by decide) ?_
  refine lv_lushr (v := (jushr a0 32)) hx hb dJ13_numberOfLeadingZeros_95d88_3 rfl ?_
  refine lv_l2i (v := ((jushr a0 32).toInt32)) hx hb dJ13_numberOfLeadingZeros_95d88_4 rfl ?_
  refine lv_istore_n (lv' := [(2, .int ((jushr a0 32).toInt32)), (0, .long a0)]) hx hb dJ13_numberOfLeadingZeros_95d88_5 rfl hl (by decide) rfl (fun ls hl => ?_)
  refine lv_iload_n hx hb dJ13_numberOfLeadingZeros_95d88_6 rfl (lv_at hl 0 rfl) ?_
  refine my_if_ne (tgt := 21) hx hb dJ13_numberOfLeadingZeros_95d88_7 (by decide) (fun c1 => ?_) (fun c1 => ?_)
  · rw [if_neg c1] at hf
    refine lv_iload_n hx hb dJ13_numberOfLeadingZeros_95d88_21 rfl (lv_at hl 0 rfl) ?_
    refine my_callPi (As := [.int ((jushr a0 32).toInt32)]) (n := 1) (rest := []) ⟨hx, hb, hml, hown, hts⟩ (m_J6_numberOfLeadingZeros_0f7a4 l ((jushr a0 32).toInt32) _ rfl) gJ13_numberOfLeadingZeros_95d88_J6_numberOfLeadingZeros_0f7a4 rfl ⟨rfl, rfl⟩ (by decide +kernel) ⟨Nat.le_of_ble_eq_true rfl, Nat.le_of_ble_eq_true rfl⟩ ⟨Nat.le_of_ble_eq_true rfl, Nat.le_of_ble_eq_true rfl⟩ hl.1 rfl rfl (Nat.le_of_ble_eq_true rfl) dJ13_numberOfLeadingZeros_95d88_22 ?_
    exact W.iret (v := (f_J6_numberOfLeadingZeros_0f7a4 ((jushr a0 32).toInt32))) hx hb hr (fun t ht hW => ⟨_, rfl, hf, ht⟩) (fun q hq => absurd hq List.not_mem_nil) dJ13_numberOfLeadingZeros_95d88_25
  · rw [if_pos c1] at hf
    refine lv_bipush (v := 32) hx hb dJ13_numberOfLeadingZeros_95d88_10 (by decide) ?_
    refine lv_lload_n hx hb dJ13_numberOfLeadingZeros_95d88_12 rfl (lv_at hl 1 rfl) ?_
    refine lv_l2i (v := (a0.toInt32)) hx hb dJ13_numberOfLeadingZeros_95d88_13 rfl ?_
    refine my_callPi (As := [.int (a0.toInt32)]) (n := 1) (rest := [.int 32]) ⟨hx, hb, hml, hown, hts⟩ (m_J6_numberOfLeadingZeros_0f7a4 l (a0.toInt32) _ rfl) gJ13_numberOfLeadingZeros_95d88_J6_numberOfLeadingZeros_0f7a4 rfl ⟨rfl, rfl⟩ (by decide +kernel) ⟨Nat.le_of_ble_eq_true rfl, Nat.le_of_ble_eq_true rfl⟩ ⟨Nat.le_of_ble_eq_true rfl, Nat.le_of_ble_eq_true rfl⟩ hl.1 rfl rfl (Nat.le_of_ble_eq_true rfl) dJ13_numberOfLeadingZeros_95d88_14 ?_
    refine lv_iadd hx hb dJ13_numberOfLeadingZeros_95d88_17 ?_
    refine lv_goto (tgt := 25) hx hb dJ13_numberOfLeadingZeros_95d88_18 (by decide) ?_
    exact W.iret (v := (32 + (f_J6_numberOfLeadingZeros_0f7a4 (a0.toInt32)))) hx hb hr (fun t ht hW => ⟨_, rfl, hf, ht⟩) (fun q hq => absurd hq List.not_mem_nil) dJ13_numberOfLeadingZeros_95d88_25

set_option maxHeartbeats 4000000 in
set_option maxRecDepth 100000 in
theorem m_X0_halved (l : Launch) (a0 : Int64) (a1 : Int32) (res : Int64) (hf : f_X0_halved a0 a1 = res) : Met l yX0_halved wsX0_halved rmX0_halved (my_PcP [.long a0, .int a1]) (vp_Sl (fun z => z = res)) 0 0 (fun _ => False) := by
  refine Met.ofW (cc := cX0_halved) (maxL := 10) (ret := (some .long)) (by decide) rfl ?_
  intro p e s m args below meth c s₁ B hml hv
  obtain ⟨rfl, -⟩ := hv
  have hx := B.exec
  have hb := B.bytes
  have hr := B.returns
  have hts : ∀ w ∈ wsX0_halved, w.before ([.long a0, .int a1] : List Value).toArray s = true := atoms_spec (ws := wsX0_halved) B.pre
  have hown : s.vm.findClass RX0 = some m.cls := findClass_of_methodNamed B.named
  have hlk : meth.locks = false := B.notSynchronized
  have hl := lv_entry ([.long a0, .int a1]) (n := 10) (Nat.le_of_ble_eq_true rfl)
  rw [lg_entry_eq]
  generalize (lg_sl ([.long a0, .int a1]) ++ List.replicate (10 - (lg_sl ([.long a0, .int a1])).length) Slot.unset).toArray = ls at hl ⊢
  have hl : lv_has ls 10 [(0, .long a0), (2, .int a1)] := hl
  unfold f_X0_halved at hf
  refine lv_iload_n hx hb dX0_halved_0 rfl (lv_at hl 1 rfl) ?_
  refine lv_bipush (v := 54) hx hb dX0_halved_1 (by decide) ?_
  refine my_ic_le (tgt := 8) hx hb dX0_halved_3 (by decide) (fun c1 => ?_) (fun c1 => ?_)
  · rw [if_neg c1] at hf
    refine lv_lload_n hx hb dX0_halved_8 rfl (lv_at hl 0 rfl) ?_
    refine lv_iload_n hx hb dX0_halved_9 rfl (lv_at hl 1 rfl) ?_
    refine lv_lshr (v := (jshr a0 a1)) hx hb dX0_halved_10 rfl ?_
    refine lv_lstore_n (lv' := [(3, .long (jshr a0 a1)), (0, .long a0), (2, .int a1)]) hx hb dX0_halved_11 rfl hl (by decide) rfl (fun ls hl => ?_)
    refine lv_lload_n hx hb dX0_halved_12 rfl (lv_at hl 1 rfl) ?_
    refine lv_lload_n hx hb dX0_halved_13 rfl (lv_at hl 0 rfl) ?_
    refine lv_iload_n hx hb dX0_halved_14 rfl (lv_at hl 2 rfl) ?_
    refine lv_lshl (v := (jshl (jshr a0 a1) a1)) hx hb dX0_halved_15 rfl ?_
    refine lv_lsub hx hb dX0_halved_16 ?_
    refine lv_lstore (lv' := [(5, .long (a0 - (jshl (jshr a0 a1) a1))), (3, .long (jshr a0 a1)), (0, .long a0), (2, .int a1)]) hx hb dX0_halved_17 hl (by decide) rfl (fun ls hl => ?_)
    refine lv_lconst (v := 1) hx hb dX0_halved_19 (by decide) ?_
    refine lv_iload_n hx hb dX0_halved_20 rfl (lv_at hl 3 rfl) ?_
    refine lv_iconst (v := 1) hx hb dX0_halved_21 (by decide) ?_
    refine lv_isub hx hb dX0_halved_22 ?_
    refine lv_lshl (v := (jshl 1 (a1 - 1))) hx hb dX0_halved_23 rfl ?_
    refine lv_lstore (lv' := [(7, .long (jshl 1 (a1 - 1))), (5, .long (a0 - (jshl (jshr a0 a1) a1))), (3, .long (jshr a0 a1)), (0, .long a0), (2, .int a1)]) hx hb dX0_halved_24 hl (by decide) rfl (fun ls hl => ?_)
    refine lv_lload hx hb dX0_halved_26 (lv_at hl 1 rfl) ?_
    refine lv_lload hx hb dX0_halved_28 (lv_at hl 0 rfl) ?_
    refine my_lc_gt (tgt := 50) hx hb dX0_halved_30 dX0_halved_31 (by decide) (fun c2 => ?_) (fun c2 => ?_)
    · rw [if_pos c2] at hf
      refine lv_iconst (v := 1) hx hb dX0_halved_50 (by decide) ?_
      refine lv_goto (tgt := 55) hx hb dX0_halved_51 (by decide) ?_
      refine lv_istore (lv' := [(9, .int 1), (7, .long (jshl 1 (a1 - 1))), (5, .long (a0 - (jshl (jshr a0 a1) a1))), (3, .long (jshr a0 a1)), (0, .long a0), (2, .int a1)]) hx hb dX0_halved_55 hl (by decide) rfl (fun ls hl => ?_)
      refine lv_iload hx hb dX0_halved_57 (lv_at hl 0 rfl) ?_
      refine my_if_eq (x := 1) (tgt := 68) hx hb dX0_halved_59 (by decide) (fun h9 => absurd h9 (by decide)) (fun _ => ?_)
      refine lv_lload_n hx hb dX0_halved_62 rfl (lv_at hl 3 rfl) ?_
      refine lv_lconst (v := 1) hx hb dX0_halved_63 (by decide) ?_
      refine lv_ladd hx hb dX0_halved_64 ?_
      refine lv_goto (tgt := 69) hx hb dX0_halved_65 (by decide) ?_
      exact W.lret (v := ((jshr a0 a1) + 1)) hx hb hr (fun t ht hW => ⟨_, rfl, hf, ht⟩) (fun q hq => absurd hq List.not_mem_nil) dX0_halved_69
    · rw [if_neg c2] at hf
      refine lv_lload hx hb dX0_halved_34 (lv_at hl 1 rfl) ?_
      refine lv_lload hx hb dX0_halved_36 (lv_at hl 0 rfl) ?_
      refine my_lc_ne (tgt := 54) hx hb dX0_halved_38 dX0_halved_39 (by decide) (fun c3 => ?_) (fun c3 => ?_)
      · rw [if_neg c3] at hf
        refine lv_iconst (v := 0) hx hb dX0_halved_54 (by decide) ?_
        refine lv_istore (lv' := [(9, .int 0), (7, .long (jshl 1 (a1 - 1))), (5, .long (a0 - (jshl (jshr a0 a1) a1))), (3, .long (jshr a0 a1)), (0, .long a0), (2, .int a1)]) hx hb dX0_halved_55 hl (by decide) rfl (fun ls hl => ?_)
        refine lv_iload hx hb dX0_halved_57 (lv_at hl 0 rfl) ?_
        refine my_if_eq (x := 0) (tgt := 68) hx hb dX0_halved_59 (by decide) (fun _ => ?_) (fun h9 => absurd h9 (by decide))
        refine lv_lload_n hx hb dX0_halved_68 rfl (lv_at hl 3 rfl) ?_
        exact W.lret (v := (jshr a0 a1)) hx hb hr (fun t ht hW => ⟨_, rfl, hf, ht⟩) (fun q hq => absurd hq List.not_mem_nil) dX0_halved_69
      · rw [if_pos c3] at hf
        refine lv_lload_n hx hb dX0_halved_42 rfl (lv_at hl 2 rfl) ?_
        refine lv_lconst (v := 1) hx hb dX0_halved_43 (by decide) ?_
        refine lv_land hx hb dX0_halved_44 ?_
        refine lv_lconst (v := 1) hx hb dX0_halved_45 (by decide) ?_
        refine my_lc_ne (tgt := 54) hx hb dX0_halved_46 dX0_halved_47 (by decide) (fun c4 => ?_) (fun c4 => ?_)
        · rw [if_neg c4] at hf
          refine lv_iconst (v := 0) hx hb dX0_halved_54 (by decide) ?_
          refine lv_istore (lv' := [(9, .int 0), (7, .long (jshl 1 (a1 - 1))), (5, .long (a0 - (jshl (jshr a0 a1) a1))), (3, .long (jshr a0 a1)), (0, .long a0), (2, .int a1)]) hx hb dX0_halved_55 hl (by decide) rfl (fun ls hl => ?_)
          refine lv_iload hx hb dX0_halved_57 (lv_at hl 0 rfl) ?_
          refine my_if_eq (x := 0) (tgt := 68) hx hb dX0_halved_59 (by decide) (fun _ => ?_) (fun h9 => absurd h9 (by decide))
          refine lv_lload_n hx hb dX0_halved_68 rfl (lv_at hl 3 rfl) ?_
          exact W.lret (v := (jshr a0 a1)) hx hb hr (fun t ht hW => ⟨_, rfl, hf, ht⟩) (fun q hq => absurd hq List.not_mem_nil) dX0_halved_69
        · rw [if_pos c4] at hf
          refine lv_iconst (v := 1) hx hb dX0_halved_50 (by decide) ?_
          refine lv_goto (tgt := 55) hx hb dX0_halved_51 (by decide) ?_
          refine lv_istore (lv' := [(9, .int 1), (7, .long (jshl 1 (a1 - 1))), (5, .long (a0 - (jshl (jshr a0 a1) a1))), (3, .long (jshr a0 a1)), (0, .long a0), (2, .int a1)]) hx hb dX0_halved_55 hl (by decide) rfl (fun ls hl => ?_)
          refine lv_iload hx hb dX0_halved_57 (lv_at hl 0 rfl) ?_
          refine my_if_eq (x := 1) (tgt := 68) hx hb dX0_halved_59 (by decide) (fun h9 => absurd h9 (by decide)) (fun _ => ?_)
          refine lv_lload_n hx hb dX0_halved_62 rfl (lv_at hl 3 rfl) ?_
          refine lv_lconst (v := 1) hx hb dX0_halved_63 (by decide) ?_
          refine lv_ladd hx hb dX0_halved_64 ?_
          refine lv_goto (tgt := 69) hx hb dX0_halved_65 (by decide) ?_
          exact W.lret (v := ((jshr a0 a1) + 1)) hx hb hr (fun t ht hW => ⟨_, rfl, hf, ht⟩) (fun q hq => absurd hq List.not_mem_nil) dX0_halved_69
  · rw [if_pos c1] at hf
    refine lv_lconst (v := 0) hx hb dX0_halved_6 (by decide) ?_
    exact W.lret (v := 0) hx hb hr (fun t ht hW => ⟨_, rfl, hf, ht⟩) (fun q hq => absurd hq List.not_mem_nil) dX0_halved_7

set_option maxHeartbeats 4000000 in
set_option maxRecDepth 100000 in
theorem m_X0_nearest (l : Launch) (a0 : Int64) (a1 : Int32) (res : Int64) (hf : f_X0_nearest a0 a1 = res) : Met l yX0_nearest wsX0_nearest rmX0_nearest (my_PcP [.long a0, .int a1]) (vp_Sl (fun z => z = res)) 0 0 (fun _ => False) := by
  refine Met.ofW (cc := cX0_nearest) (maxL := 5) (ret := (some .long)) (by decide) rfl ?_
  intro p e s m args below meth c s₁ B hml hv
  obtain ⟨rfl, -⟩ := hv
  have hx := B.exec
  have hb := B.bytes
  have hr := B.returns
  have hts : ∀ w ∈ wsX0_nearest, w.before ([.long a0, .int a1] : List Value).toArray s = true := atoms_spec (ws := wsX0_nearest) B.pre
  have hown : s.vm.findClass RX0 = some m.cls := findClass_of_methodNamed B.named
  have hlk : meth.locks = false := B.notSynchronized
  have q1 := hts (.constantLong RX0 17 (9218868437227405312)) (by decide +kernel)
  have hl := lv_entry ([.long a0, .int a1]) (n := 5) (Nat.le_of_ble_eq_true rfl)
  rw [lg_entry_eq]
  generalize (lg_sl ([.long a0, .int a1]) ++ List.replicate (5 - (lg_sl ([.long a0, .int a1])).length) Slot.unset).toArray = ls at hl ⊢
  have hl : lv_has ls 5 [(0, .long a0), (2, .int a1)] := hl
  unfold f_X0_nearest at hf
  refine lv_bipush (v := 63) hx hb dX0_nearest_0 (by decide) ?_
  refine lv_lload_n hx hb dX0_nearest_2 rfl (lv_at hl 0 rfl) ?_
  refine my_callPi (As := [.long a0]) (n := 1) (rest := [.int 63]) ⟨hx, hb, hml, hown, hts⟩ (m_J13_numberOfLeadingZeros_95d88 l a0 _ rfl) gX0_nearest_J13_numberOfLeadingZeros_95d88 rfl ⟨rfl, rfl⟩ (by decide +kernel) ⟨Nat.le_of_ble_eq_true rfl, Nat.le_of_ble_eq_true rfl⟩ ⟨Nat.le_of_ble_eq_true rfl, Nat.le_of_ble_eq_true rfl⟩ hl.1 rfl rfl (Nat.le_of_ble_eq_true rfl) dX0_nearest_3 ?_
  refine lv_isub hx hb dX0_nearest_6 ?_
  refine lv_istore_n (lv' := [(3, .int (63 - (f_J13_numberOfLeadingZeros_95d88 a0))), (0, .long a0), (2, .int a1)]) hx hb dX0_nearest_7 rfl hl (by decide) rfl (fun ls hl => ?_)
  refine lv_iload_n hx hb dX0_nearest_8 rfl (lv_at hl 0 rfl) ?_
  refine lv_iload_n hx hb dX0_nearest_9 rfl (lv_at hl 2 rfl) ?_
  refine lv_iadd hx hb dX0_nearest_10 ?_
  refine lv_sipush (v := 2097) hx hb dX0_nearest_11 (by decide) ?_
  refine my_ic_le (tgt := 21) hx hb dX0_nearest_14 (by decide) (fun c1 => ?_) (fun c1 => ?_)
  · rw [if_neg c1] at hf
    refine lv_iload_n hx hb dX0_nearest_21 rfl (lv_at hl 2 rfl) ?_
    refine my_if_ge (tgt := 32) hx hb dX0_nearest_22 (by decide) (fun c2 => ?_) (fun c2 => ?_)
    · rw [if_neg c2] at hf
      refine lv_bipush (v := 52) hx hb dX0_nearest_32 (by decide) ?_
      refine lv_iload_n hx hb dX0_nearest_34 rfl (lv_at hl 0 rfl) ?_
      refine lv_isub hx hb dX0_nearest_35 ?_
      refine lv_istore (lv' := [(4, .int (52 - (63 - (f_J13_numberOfLeadingZeros_95d88 a0)))), (3, .int (63 - (f_J13_numberOfLeadingZeros_95d88 a0))), (0, .long a0), (2, .int a1)]) hx hb dX0_nearest_36 hl (by decide) rfl (fun ls hl => ?_)
      refine lv_iload_n hx hb dX0_nearest_38 rfl (lv_at hl 3 rfl) ?_
      refine lv_iload hx hb dX0_nearest_39 (lv_at hl 0 rfl) ?_
      refine my_ic_gt (tgt := 48) hx hb dX0_nearest_41 (by decide) (fun c3 => ?_) (fun c3 => ?_)
      · rw [if_pos c3] at hf
        refine lv_iload_n hx hb dX0_nearest_48 rfl (lv_at hl 3 rfl) ?_
        refine lv_iload hx hb dX0_nearest_49 (lv_at hl 0 rfl) ?_
        refine lv_isub hx hb dX0_nearest_51 ?_
        refine lv_i2l (v := ((a1 - (52 - (63 - (f_J13_numberOfLeadingZeros_95d88 a0)))).toInt64)) hx hb dX0_nearest_52 rfl ?_
        refine lv_bipush (v := 52) hx hb dX0_nearest_53 (by decide) ?_
        refine lv_lshl (v := (jshl ((a1 - (52 - (63 - (f_J13_numberOfLeadingZeros_95d88 a0)))).toInt64) 52)) hx hb dX0_nearest_55 rfl ?_
        refine lv_lload_n hx hb dX0_nearest_56 rfl (lv_at hl 2 rfl) ?_
        refine lv_iload hx hb dX0_nearest_57 (lv_at hl 0 rfl) ?_
        refine lv_lshl (v := (jshl a0 (52 - (63 - (f_J13_numberOfLeadingZeros_95d88 a0))))) hx hb dX0_nearest_59 rfl ?_
        refine lv_ladd hx hb dX0_nearest_60 ?_
        exact W.lret (v := ((jshl ((a1 - (52 - (63 - (f_J13_numberOfLeadingZeros_95d88 a0)))).toInt64) 52) + (jshl a0 (52 - (63 - (f_J13_numberOfLeadingZeros_95d88 a0)))))) hx hb hr (fun t ht hW => ⟨_, rfl, hf, ht⟩) (fun q hq => absurd hq List.not_mem_nil) dX0_nearest_61
      · rw [if_neg c3] at hf
        refine lv_lload_n hx hb dX0_nearest_44 rfl (lv_at hl 2 rfl) ?_
        refine lv_iload_n hx hb dX0_nearest_45 rfl (lv_at hl 3 rfl) ?_
        refine lv_lshl (v := (jshl a0 a1)) hx hb dX0_nearest_46 rfl ?_
        exact W.lret (v := (jshl a0 a1)) hx hb hr (fun t ht hW => ⟨_, rfl, hf, ht⟩) (fun q hq => absurd hq List.not_mem_nil) dX0_nearest_47
    · rw [if_pos c2] at hf
      refine lv_lload_n hx hb dX0_nearest_25 rfl (lv_at hl 1 rfl) ?_
      refine lv_iload_n hx hb dX0_nearest_26 rfl (lv_at hl 2 rfl) ?_
      refine lv_ineg hx hb dX0_nearest_27 ?_
      refine my_callPl (As := [.long a0, .int (-a1)]) (n := 2) (rest := []) ⟨hx, hb, hml, hown, hts⟩ (m_X0_halved l a0 (-a1) _ rfl) gX0_nearest_X0_halved rfl ⟨rfl, rfl⟩ (by decide +kernel) ⟨Nat.le_of_ble_eq_true rfl, Nat.le_of_ble_eq_true rfl⟩ ⟨Nat.le_of_ble_eq_true rfl, Nat.le_of_ble_eq_true rfl⟩ hl.1 rfl rfl (Nat.le_of_ble_eq_true rfl) dX0_nearest_28 ?_
      exact W.lret (v := (f_X0_halved a0 (-a1))) hx hb hr (fun t ht hW => ⟨_, rfl, hf, ht⟩) (fun q hq => absurd hq List.not_mem_nil) dX0_nearest_31
  · rw [if_pos c1] at hf
    refine lv_ldc2 (v := 9218868437227405312) hx hb hown q1 dX0_nearest_17 ?_
    exact W.lret (v := 9218868437227405312) hx hb hr (fun t ht hW => ⟨_, rfl, hf, ht⟩) (fun q hq => absurd hq List.not_mem_nil) dX0_nearest_20

set_option maxHeartbeats 4000000 in
set_option maxRecDepth 100000 in
theorem m_X0_handed (l : Launch) (a0 : Int32) (a1 : Int32) (res : Int64) (hf : f_X0_handed a0 a1 = res) : Met l yX0_handed wsX0_handed rmX0_handed (my_PcP [.int a0, .int a1]) (vp_Sl (fun z => z = res)) 0 0 (fun _ => False) := by
  refine Met.ofW (cc := cX0_handed) (maxL := 4) (ret := (some .long)) (by decide) rfl ?_
  intro p e s m args below meth c s₁ B hml hv
  obtain ⟨rfl, -⟩ := hv
  have hx := B.exec
  have hb := B.bytes
  have hr := B.returns
  have hts : ∀ w ∈ wsX0_handed, w.before ([.int a0, .int a1] : List Value).toArray s = true := atoms_spec (ws := wsX0_handed) B.pre
  have hown : s.vm.findClass RX0 = some m.cls := findClass_of_methodNamed B.named
  have hlk : meth.locks = false := B.notSynchronized
  have q1 := hts (.methodLink RX0 33 Lib.Math.abs.name) (by decide +kernel)
  have q2 := hts (.static Lib.Math.abs.name) (by decide +kernel)
  have q3 := hts (.initialized "java/lang/Math") (by decide +kernel)
  have q4 := hts (.code Lib.Math.abs.name Lib.Math.abs.code 1 (some .int)) (by decide +kernel)
  have hl := lv_entry ([.int a0, .int a1]) (n := 4) (Nat.le_of_ble_eq_true rfl)
  rw [lg_entry_eq]
  generalize (lg_sl ([.int a0, .int a1]) ++ List.replicate (4 - (lg_sl ([.int a0, .int a1])).length) Slot.unset).toArray = ls at hl ⊢
  have hl : lv_has ls 4 [(0, .int a0), (1, .int a1)] := hl
  unfold f_X0_handed at hf
  refine lv_iload_n hx hb dX0_handed_0 rfl (lv_at hl 0 rfl) ?_
  refine my_if_ne (tgt := 6) hx hb dX0_handed_1 (by decide) (fun c1 => ?_) (fun c1 => ?_)
  · rw [if_neg c1] at hf
    refine lv_iload_n hx hb dX0_handed_6 rfl (lv_at hl 0 rfl) ?_
    refine va_mabs hx hb (hml.trans hl.1.symm) hown q1 q2 q3 q4 (Nat.le_of_ble_eq_true rfl) (Nat.le_of_ble_eq_true rfl) (Nat.le_of_ble_eq_true rfl) (Nat.le_of_ble_eq_true rfl) dX0_handed_7 ?_
    refine lv_i2l (v := ((if 0 ≤ a0 then a0 else 0 - a0).toInt64)) hx hb dX0_handed_10 rfl ?_
    refine lv_iload_n hx hb dX0_handed_11 rfl (lv_at hl 1 rfl) ?_
    refine my_callPi (As := [.int a1]) (n := 1) (rest := [.long ((if 0 ≤ a0 then a0 else 0 - a0).toInt64)]) ⟨hx, hb, hml, hown, hts⟩ (m_X0_handedExponent l a1 _ rfl) gX0_handed_X0_handedExponent rfl ⟨rfl, rfl⟩ (by decide +kernel) ⟨Nat.le_of_ble_eq_true rfl, Nat.le_of_ble_eq_true rfl⟩ ⟨Nat.le_of_ble_eq_true rfl, Nat.le_of_ble_eq_true rfl⟩ hl.1 rfl rfl (Nat.le_of_ble_eq_true rfl) dX0_handed_12 ?_
    refine lv_sipush (v := (-1074)) hx hb dX0_handed_15 (by decide) ?_
    refine lv_isub hx hb dX0_handed_18 ?_
    refine my_callPl (As := [.long ((if 0 ≤ a0 then a0 else 0 - a0).toInt64), .int ((f_X0_handedExponent a1) - (-1074))]) (n := 2) (rest := []) ⟨hx, hb, hml, hown, hts⟩ (m_X0_nearest l ((if 0 ≤ a0 then a0 else 0 - a0).toInt64) ((f_X0_handedExponent a1) - (-1074)) _ rfl) gX0_handed_X0_nearest rfl ⟨rfl, rfl⟩ (by decide +kernel) ⟨Nat.le_of_ble_eq_true rfl, Nat.le_of_ble_eq_true rfl⟩ ⟨Nat.le_of_ble_eq_true rfl, Nat.le_of_ble_eq_true rfl⟩ hl.1 rfl rfl (Nat.le_of_ble_eq_true rfl) dX0_handed_19 ?_
    refine lv_lstore_n (lv' := [(2, .long (f_X0_nearest ((if 0 ≤ a0 then a0 else 0 - a0).toInt64) ((f_X0_handedExponent a1) - (-1074)))), (0, .int a0), (1, .int a1)]) hx hb dX0_handed_22 rfl hl (by decide) rfl (fun ls hl => ?_)
    refine lv_iload_n hx hb dX0_handed_23 rfl (lv_at hl 1 rfl) ?_
    refine my_if_ge (tgt := 34) hx hb dX0_handed_24 (by decide) (fun c2 => ?_) (fun c2 => ?_)
    · rw [if_neg c2] at hf
      refine lv_lload_n hx hb dX0_handed_34 rfl (lv_at hl 0 rfl) ?_
      exact W.lret (v := (f_X0_nearest ((if 0 ≤ a0 then a0 else 0 - a0).toInt64) ((f_X0_handedExponent a1) - (-1074)))) hx hb hr (fun t ht hW => ⟨_, rfl, hf, ht⟩) (fun q hq => absurd hq List.not_mem_nil) dX0_handed_35
    · rw [if_pos c2] at hf
      refine lv_lload_n hx hb dX0_handed_27 rfl (lv_at hl 0 rfl) ?_
      refine my_callPl (As := [.long (f_X0_nearest ((if 0 ≤ a0 then a0 else 0 - a0).toInt64) ((f_X0_handedExponent a1) - (-1074)))]) (n := 1) (rest := []) ⟨hx, hb, hml, hown, hts⟩ (m_X0_opposite l (f_X0_nearest ((if 0 ≤ a0 then a0 else 0 - a0).toInt64) ((f_X0_handedExponent a1) - (-1074))) _ rfl) gX0_handed_X0_opposite rfl ⟨rfl, rfl⟩ (by decide +kernel) ⟨Nat.le_of_ble_eq_true rfl, Nat.le_of_ble_eq_true rfl⟩ ⟨Nat.le_of_ble_eq_true rfl, Nat.le_of_ble_eq_true rfl⟩ hl.1 rfl rfl (Nat.le_of_ble_eq_true rfl) dX0_handed_28 ?_
      refine lv_goto (tgt := 35) hx hb dX0_handed_31 (by decide) ?_
      exact W.lret (v := (f_X0_opposite (f_X0_nearest ((if 0 ≤ a0 then a0 else 0 - a0).toInt64) ((f_X0_handedExponent a1) - (-1074))))) hx hb hr (fun t ht hW => ⟨_, rfl, hf, ht⟩) (fun q hq => absurd hq List.not_mem_nil) dX0_handed_35
  · rw [if_pos c1] at hf
    refine lv_lconst (v := 0) hx hb dX0_handed_4 (by decide) ?_
    exact W.lret (v := 0) hx hb hr (fun t ht hW => ⟨_, rfl, hf, ht⟩) (fun q hq => absurd hq List.not_mem_nil) dX0_handed_5

set_option maxHeartbeats 4000000 in
set_option maxRecDepth 100000 in
theorem m_X0_raised (l : Launch) (a0 : Int64) (a1 : Int32) (res : Int64) (hf : f_X0_raised a0 a1 = res) : Met l yX0_raised wsX0_raised rmX0_raised (my_PcP [.long a0, .int a1]) (vp_Sl (fun z => z = res)) 0 0 (fun _ => False) := by
  refine Met.ofW (cc := cX0_raised) (maxL := 5) (ret := (some .long)) (by decide) rfl ?_
  intro p e s m args below meth c s₁ B hml hv
  obtain ⟨rfl, -⟩ := hv
  have hx := B.exec
  have hb := B.bytes
  have hr := B.returns
  have hts : ∀ w ∈ wsX0_raised, w.before ([.long a0, .int a1] : List Value).toArray s = true := atoms_spec (ws := wsX0_raised) B.pre
  have hown : s.vm.findClass RX0 = some m.cls := findClass_of_methodNamed B.named
  have hlk : meth.locks = false := B.notSynchronized
  have q1 := hts (.constantLong RX0 17 (9218868437227405312)) (by decide +kernel)
  have q2 := hts (.constantLong RX0 9 (-9223372036854775808)) (by decide +kernel)
  have hl := lv_entry ([.long a0, .int a1]) (n := 5) (Nat.le_of_ble_eq_true rfl)
  rw [lg_entry_eq]
  generalize (lg_sl ([.long a0, .int a1]) ++ List.replicate (5 - (lg_sl ([.long a0, .int a1])).length) Slot.unset).toArray = ls at hl ⊢
  have hl : lv_has ls 5 [(0, .long a0), (2, .int a1)] := hl
  unfold f_X0_raised at hf
  refine lv_lload_n hx hb dX0_raised_0 rfl (lv_at hl 0 rfl) ?_
  refine my_callPl (As := [.long a0]) (n := 1) (rest := []) ⟨hx, hb, hml, hown, hts⟩ (m_X0_placeOf l a0 _ rfl) gX0_raised_X0_placeOf rfl ⟨rfl, rfl⟩ (by decide +kernel) ⟨Nat.le_of_ble_eq_true rfl, Nat.le_of_ble_eq_true rfl⟩ ⟨Nat.le_of_ble_eq_true rfl, Nat.le_of_ble_eq_true rfl⟩ hl.1 rfl rfl (Nat.le_of_ble_eq_true rfl) dX0_raised_1 ?_
  refine lv_lstore_n (lv' := [(3, .long (f_X0_placeOf a0)), (0, .long a0), (2, .int a1)]) hx hb dX0_raised_4 rfl hl (by decide) rfl (fun ls hl => ?_)
  refine lv_lload_n hx hb dX0_raised_5 rfl (lv_at hl 0 rfl) ?_
  refine lv_ldc2 (v := 9218868437227405312) hx hb hown q1 dX0_raised_6 ?_
  refine lv_iload_n hx hb dX0_raised_9 rfl (lv_at hl 2 rfl) ?_
  refine lv_i2l (v := (a1.toInt64)) hx hb dX0_raised_10 rfl ?_
  refine lv_lsub hx hb dX0_raised_11 ?_
  refine my_lc_le (tgt := 20) hx hb dX0_raised_12 dX0_raised_13 (by decide) (fun c1 => ?_) (fun c1 => ?_)
  · rw [if_neg c1] at hf
    refine lv_iload_n hx hb dX0_raised_20 rfl (lv_at hl 2 rfl) ?_
    refine my_if_le (tgt := 37) hx hb dX0_raised_21 (by decide) (fun c2 => ?_) (fun c2 => ?_)
    · rw [if_neg c2] at hf
      refine lv_iload_n hx hb dX0_raised_37 rfl (lv_at hl 2 rfl) ?_
      refine my_if_ne (tgt := 45) hx hb dX0_raised_38 (by decide) (fun c3 => ?_) (fun c3 => ?_)
      · rw [if_neg c3] at hf
        refine lv_lload_n hx hb dX0_raised_45 rfl (lv_at hl 0 rfl) ?_
        refine lv_iload_n hx hb dX0_raised_46 rfl (lv_at hl 2 rfl) ?_
        refine lv_i2l (v := (a1.toInt64)) hx hb dX0_raised_47 rfl ?_
        refine lv_ladd hx hb dX0_raised_48 ?_
        refine my_callPl (As := [.long ((f_X0_placeOf a0) + (a1.toInt64))]) (n := 1) (rest := []) ⟨hx, hb, hml, hown, hts⟩ (m_X0_atPlace l ((f_X0_placeOf a0) + (a1.toInt64)) _ rfl) gX0_raised_X0_atPlace rfl ⟨rfl, rfl⟩ (by decide +kernel) ⟨Nat.le_of_ble_eq_true rfl, Nat.le_of_ble_eq_true rfl⟩ ⟨Nat.le_of_ble_eq_true rfl, Nat.le_of_ble_eq_true rfl⟩ hl.1 rfl rfl (Nat.le_of_ble_eq_true rfl) dX0_raised_49 ?_
        exact W.lret (v := (f_X0_atPlace ((f_X0_placeOf a0) + (a1.toInt64)))) hx hb hr (fun t ht hW => ⟨_, rfl, hf, ht⟩) (fun q hq => absurd hq List.not_mem_nil) dX0_raised_52
      · rw [if_pos c3] at hf
        refine lv_lload_n hx hb dX0_raised_41 rfl (lv_at hl 1 rfl) ?_
        refine lv_goto (tgt := 52) hx hb dX0_raised_42 (by decide) ?_
        exact W.lret (v := a0) hx hb hr (fun t ht hW => ⟨_, rfl, hf, ht⟩) (fun q hq => absurd hq List.not_mem_nil) dX0_raised_52
    · rw [if_pos c2] at hf
      refine lv_lload_n hx hb dX0_raised_24 rfl (lv_at hl 0 rfl) ?_
      refine lv_iload_n hx hb dX0_raised_25 rfl (lv_at hl 2 rfl) ?_
      refine lv_i2l (v := (a1.toInt64)) hx hb dX0_raised_26 rfl ?_
      refine lv_ladd hx hb dX0_raised_27 ?_
      refine lv_lconst (v := 0) hx hb dX0_raised_28 (by decide) ?_
      refine my_lc_ne (tgt := 37) hx hb dX0_raised_29 dX0_raised_30 (by decide) (fun c4 => ?_) (fun c4 => ?_)
      · rw [if_neg c4] at hf
        refine lv_iload_n hx hb dX0_raised_37 rfl (lv_at hl 2 rfl) ?_
        refine my_if_ne (tgt := 45) hx hb dX0_raised_38 (by decide) (fun c5 => ?_) (fun c5 => ?_)
        · rw [if_neg c5] at hf
          refine lv_lload_n hx hb dX0_raised_45 rfl (lv_at hl 0 rfl) ?_
          refine lv_iload_n hx hb dX0_raised_46 rfl (lv_at hl 2 rfl) ?_
          refine lv_i2l (v := (a1.toInt64)) hx hb dX0_raised_47 rfl ?_
          refine lv_ladd hx hb dX0_raised_48 ?_
          refine my_callPl (As := [.long ((f_X0_placeOf a0) + (a1.toInt64))]) (n := 1) (rest := []) ⟨hx, hb, hml, hown, hts⟩ (m_X0_atPlace l ((f_X0_placeOf a0) + (a1.toInt64)) _ rfl) gX0_raised_X0_atPlace rfl ⟨rfl, rfl⟩ (by decide +kernel) ⟨Nat.le_of_ble_eq_true rfl, Nat.le_of_ble_eq_true rfl⟩ ⟨Nat.le_of_ble_eq_true rfl, Nat.le_of_ble_eq_true rfl⟩ hl.1 rfl rfl (Nat.le_of_ble_eq_true rfl) dX0_raised_49 ?_
          exact W.lret (v := (f_X0_atPlace ((f_X0_placeOf a0) + (a1.toInt64)))) hx hb hr (fun t ht hW => ⟨_, rfl, hf, ht⟩) (fun q hq => absurd hq List.not_mem_nil) dX0_raised_52
        · rw [if_pos c5] at hf
          refine lv_lload_n hx hb dX0_raised_41 rfl (lv_at hl 1 rfl) ?_
          refine lv_goto (tgt := 52) hx hb dX0_raised_42 (by decide) ?_
          exact W.lret (v := a0) hx hb hr (fun t ht hW => ⟨_, rfl, hf, ht⟩) (fun q hq => absurd hq List.not_mem_nil) dX0_raised_52
      · rw [if_pos c4] at hf
        refine lv_ldc2 (v := (-9223372036854775808)) hx hb hown q2 dX0_raised_33 ?_
        exact W.lret (v := (-9223372036854775808)) hx hb hr (fun t ht hW => ⟨_, rfl, hf, ht⟩) (fun q hq => absurd hq List.not_mem_nil) dX0_raised_36
  · rw [if_pos c1] at hf
    refine lv_ldc2 (v := 9218868437227405312) hx hb hown q1 dX0_raised_16 ?_
    exact W.lret (v := 9218868437227405312) hx hb hr (fun t ht hW => ⟨_, rfl, hf, ht⟩) (fun q hq => absurd hq List.not_mem_nil) dX0_raised_19

set_option maxHeartbeats 4000000 in
set_option maxRecDepth 100000 in
theorem m_X0_lowered (l : Launch) (a0 : Int64) (a1 : Int32) (res : Int64) (hf : f_X0_lowered a0 a1 = res) : Met l yX0_lowered wsX0_lowered rmX0_lowered (my_PcP [.long a0, .int a1]) (vp_Sl (fun z => z = res)) 0 0 (fun _ => False) := by
  refine Met.ofW (cc := cX0_lowered) (maxL := 3) (ret := (some .long)) (by decide) rfl ?_
  intro p e s m args below meth c s₁ B hml hv
  obtain ⟨rfl, -⟩ := hv
  have hx := B.exec
  have hb := B.bytes
  have hr := B.returns
  have hts : ∀ w ∈ wsX0_lowered, w.before ([.long a0, .int a1] : List Value).toArray s = true := atoms_spec (ws := wsX0_lowered) B.pre
  have hown : s.vm.findClass RX0 = some m.cls := findClass_of_methodNamed B.named
  have hlk : meth.locks = false := B.notSynchronized
  have hl := lv_entry ([.long a0, .int a1]) (n := 3) (Nat.le_of_ble_eq_true rfl)
  rw [lg_entry_eq]
  generalize (lg_sl ([.long a0, .int a1]) ++ List.replicate (3 - (lg_sl ([.long a0, .int a1])).length) Slot.unset).toArray = ls at hl ⊢
  have hl : lv_has ls 3 [(0, .long a0), (2, .int a1)] := hl
  unfold f_X0_lowered at hf
  refine lv_lload_n hx hb dX0_lowered_0 rfl (lv_at hl 0 rfl) ?_
  refine my_callPl (As := [.long a0]) (n := 1) (rest := []) ⟨hx, hb, hml, hown, hts⟩ (m_X0_opposite l a0 _ rfl) gX0_lowered_X0_opposite rfl ⟨rfl, rfl⟩ (by decide +kernel) ⟨Nat.le_of_ble_eq_true rfl, Nat.le_of_ble_eq_true rfl⟩ ⟨Nat.le_of_ble_eq_true rfl, Nat.le_of_ble_eq_true rfl⟩ hl.1 rfl rfl (Nat.le_of_ble_eq_true rfl) dX0_lowered_1 ?_
  refine lv_iload_n hx hb dX0_lowered_4 rfl (lv_at hl 1 rfl) ?_
  refine my_callPl (As := [.long (f_X0_opposite a0), .int a1]) (n := 2) (rest := []) ⟨hx, hb, hml, hown, hts⟩ (m_X0_raised l (f_X0_opposite a0) a1 _ rfl) gX0_lowered_X0_raised rfl ⟨rfl, rfl⟩ (by decide +kernel) ⟨Nat.le_of_ble_eq_true rfl, Nat.le_of_ble_eq_true rfl⟩ ⟨Nat.le_of_ble_eq_true rfl, Nat.le_of_ble_eq_true rfl⟩ hl.1 rfl rfl (Nat.le_of_ble_eq_true rfl) dX0_lowered_5 ?_
  refine my_callPl (As := [.long (f_X0_raised (f_X0_opposite a0) a1)]) (n := 1) (rest := []) ⟨hx, hb, hml, hown, hts⟩ (m_X0_opposite l (f_X0_raised (f_X0_opposite a0) a1) _ rfl) gX0_lowered_X0_opposite rfl ⟨rfl, rfl⟩ (by decide +kernel) ⟨Nat.le_of_ble_eq_true rfl, Nat.le_of_ble_eq_true rfl⟩ ⟨Nat.le_of_ble_eq_true rfl, Nat.le_of_ble_eq_true rfl⟩ hl.1 rfl rfl (Nat.le_of_ble_eq_true rfl) dX0_lowered_8 ?_
  exact W.lret (v := (f_X0_opposite (f_X0_raised (f_X0_opposite a0) a1))) hx hb hr (fun t ht hW => ⟨_, rfl, hf, ht⟩) (fun q hq => absurd hq List.not_mem_nil) dX0_lowered_11

set_option maxHeartbeats 4000000 in
set_option maxRecDepth 100000 in
theorem m_J13_compare_74951 (l : Launch) (a0 : Int64) (a1 : Int64) (res : Int32) (hf : f_J13_compare_74951 a0 a1 = res) : Met l yJ13_compare_74951 wsJ13_compare_74951 rmJ13_compare_74951 (my_PcP [.long a0, .long a1]) (vp_Si (fun z => z = res)) 0 0 (fun _ => False) := by
  refine Met.ofW (cc := cJ13_compare_74951) (maxL := 4) (ret := (some .int)) (by decide) rfl ?_
  intro p e s m args below meth c s₁ B hml hv
  obtain ⟨rfl, -⟩ := hv
  have hx := B.exec
  have hb := B.bytes
  have hr := B.returns
  have hts : ∀ w ∈ wsJ13_compare_74951, w.before ([.long a0, .long a1] : List Value).toArray s = true := atoms_spec (ws := wsJ13_compare_74951) B.pre
  have hown : s.vm.findClass RJ13 = some m.cls := findClass_of_methodNamed B.named
  have hlk : meth.locks = false := B.notSynchronized
  have hl := lv_entry ([.long a0, .long a1]) (n := 4) (Nat.le_of_ble_eq_true rfl)
  rw [lg_entry_eq]
  generalize (lg_sl ([.long a0, .long a1]) ++ List.replicate (4 - (lg_sl ([.long a0, .long a1])).length) Slot.unset).toArray = ls at hl ⊢
  have hl : lv_has ls 4 [(0, .long a0), (2, .long a1)] := hl
  unfold f_J13_compare_74951 at hf
  refine lv_lload_n hx hb dJ13_compare_74951_0 rfl (lv_at hl 0 rfl) ?_
  refine lv_lload_n hx hb dJ13_compare_74951_1 rfl (lv_at hl 1 rfl) ?_
  refine my_lc_ge (tgt := 10) hx hb dJ13_compare_74951_2 dJ13_compare_74951_3 (by decide) (fun c1 => ?_) (fun c1 => ?_)
  · rw [if_neg c1] at hf
    refine lv_lload_n hx hb dJ13_compare_74951_10 rfl (lv_at hl 0 rfl) ?_
    refine lv_lload_n hx hb dJ13_compare_74951_11 rfl (lv_at hl 1 rfl) ?_
    refine my_lc_ne (tgt := 20) hx hb dJ13_compare_74951_12 dJ13_compare_74951_13 (by decide) (fun c2 => ?_) (fun c2 => ?_)
    · rw [if_neg c2] at hf
      refine lv_iconst (v := 1) hx hb dJ13_compare_74951_20 (by decide) ?_
      exact W.iret (v := 1) hx hb hr (fun t ht hW => ⟨_, rfl, hf, ht⟩) (fun q hq => absurd hq List.not_mem_nil) dJ13_compare_74951_21
    · rw [if_pos c2] at hf
      refine lv_iconst (v := 0) hx hb dJ13_compare_74951_16 (by decide) ?_
      refine lv_goto (tgt := 21) hx hb dJ13_compare_74951_17 (by decide) ?_
      exact W.iret (v := 0) hx hb hr (fun t ht hW => ⟨_, rfl, hf, ht⟩) (fun q hq => absurd hq List.not_mem_nil) dJ13_compare_74951_21
  · rw [if_pos c1] at hf
    refine lv_iconst (v := (-1)) hx hb dJ13_compare_74951_6 (by decide) ?_
    refine lv_goto (tgt := 21) hx hb dJ13_compare_74951_7 (by decide) ?_
    exact W.iret (v := (-1)) hx hb hr (fun t ht hW => ⟨_, rfl, hf, ht⟩) (fun q hq => absurd hq List.not_mem_nil) dJ13_compare_74951_21

set_option maxHeartbeats 4000000 in
set_option maxRecDepth 100000 in
theorem m_X0_order (l : Launch) (a0 : Int64) (a1 : Int64) (res : Int32) (hf : f_X0_order a0 a1 = res) : Met l yX0_order wsX0_order rmX0_order (my_PcP [.long a0, .long a1]) (vp_Si (fun z => z = res)) 0 0 (fun _ => False) := by
  refine Met.ofW (cc := cX0_order) (maxL := 4) (ret := (some .int)) (by decide) rfl ?_
  intro p e s m args below meth c s₁ B hml hv
  obtain ⟨rfl, -⟩ := hv
  have hx := B.exec
  have hb := B.bytes
  have hr := B.returns
  have hts : ∀ w ∈ wsX0_order, w.before ([.long a0, .long a1] : List Value).toArray s = true := atoms_spec (ws := wsX0_order) B.pre
  have hown : s.vm.findClass RX0 = some m.cls := findClass_of_methodNamed B.named
  have hlk : meth.locks = false := B.notSynchronized
  have hl := lv_entry ([.long a0, .long a1]) (n := 4) (Nat.le_of_ble_eq_true rfl)
  rw [lg_entry_eq]
  generalize (lg_sl ([.long a0, .long a1]) ++ List.replicate (4 - (lg_sl ([.long a0, .long a1])).length) Slot.unset).toArray = ls at hl ⊢
  have hl : lv_has ls 4 [(0, .long a0), (2, .long a1)] := hl
  unfold f_X0_order at hf
  refine lv_lload_n hx hb dX0_order_0 rfl (lv_at hl 0 rfl) ?_
  refine my_callPl (As := [.long a0]) (n := 1) (rest := []) ⟨hx, hb, hml, hown, hts⟩ (m_X0_placeOf l a0 _ rfl) gX0_order_X0_placeOf rfl ⟨rfl, rfl⟩ (by decide +kernel) ⟨Nat.le_of_ble_eq_true rfl, Nat.le_of_ble_eq_true rfl⟩ ⟨Nat.le_of_ble_eq_true rfl, Nat.le_of_ble_eq_true rfl⟩ hl.1 rfl rfl (Nat.le_of_ble_eq_true rfl) dX0_order_1 ?_
  refine lv_lload_n hx hb dX0_order_4 rfl (lv_at hl 1 rfl) ?_
  refine my_callPl (As := [.long a1]) (n := 1) (rest := [.long (f_X0_placeOf a0)]) ⟨hx, hb, hml, hown, hts⟩ (m_X0_placeOf l a1 _ rfl) gX0_order_X0_placeOf rfl ⟨rfl, rfl⟩ (by decide +kernel) ⟨Nat.le_of_ble_eq_true rfl, Nat.le_of_ble_eq_true rfl⟩ ⟨Nat.le_of_ble_eq_true rfl, Nat.le_of_ble_eq_true rfl⟩ hl.1 rfl rfl (Nat.le_of_ble_eq_true rfl) dX0_order_5 ?_
  refine my_callPi (As := [.long (f_X0_placeOf a0), .long (f_X0_placeOf a1)]) (n := 2) (rest := []) ⟨hx, hb, hml, hown, hts⟩ (m_J13_compare_74951 l (f_X0_placeOf a0) (f_X0_placeOf a1) _ rfl) gX0_order_J13_compare_74951 rfl ⟨rfl, rfl⟩ (by decide +kernel) ⟨Nat.le_of_ble_eq_true rfl, Nat.le_of_ble_eq_true rfl⟩ ⟨Nat.le_of_ble_eq_true rfl, Nat.le_of_ble_eq_true rfl⟩ hl.1 rfl rfl (Nat.le_of_ble_eq_true rfl) dX0_order_8 ?_
  exact W.iret (v := (f_J13_compare_74951 (f_X0_placeOf a0) (f_X0_placeOf a1))) hx hb hr (fun t ht hW => ⟨_, rfl, hf, ht⟩) (fun q hq => absurd hq List.not_mem_nil) dX0_order_11

set_option maxHeartbeats 4000000 in
set_option maxRecDepth 100000 in
theorem m_X0_nearer (l : Launch) (a0 : Int64) (a1 : Int64) (res : Int64) (hf : f_X0_nearer a0 a1 = res) : Met l yX0_nearer wsX0_nearer rmX0_nearer (my_PcP [.long a0, .long a1]) (vp_Sl (fun z => z = res)) 0 0 (fun _ => False) := by
  refine Met.ofW (cc := cX0_nearer) (maxL := 5) (ret := (some .long)) (by decide) rfl ?_
  intro p e s m args below meth c s₁ B hml hv
  obtain ⟨rfl, -⟩ := hv
  have hx := B.exec
  have hb := B.bytes
  have hr := B.returns
  have hts : ∀ w ∈ wsX0_nearer, w.before ([.long a0, .long a1] : List Value).toArray s = true := atoms_spec (ws := wsX0_nearer) B.pre
  have hown : s.vm.findClass RX0 = some m.cls := findClass_of_methodNamed B.named
  have hlk : meth.locks = false := B.notSynchronized
  have hl := lv_entry ([.long a0, .long a1]) (n := 5) (Nat.le_of_ble_eq_true rfl)
  rw [lg_entry_eq]
  generalize (lg_sl ([.long a0, .long a1]) ++ List.replicate (5 - (lg_sl ([.long a0, .long a1])).length) Slot.unset).toArray = ls at hl ⊢
  have hl : lv_has ls 5 [(0, .long a0), (2, .long a1)] := hl
  unfold f_X0_nearer at hf
  refine lv_lload_n hx hb dX0_nearer_0 rfl (lv_at hl 0 rfl) ?_
  refine lv_lload_n hx hb dX0_nearer_1 rfl (lv_at hl 1 rfl) ?_
  refine my_callPi (As := [.long a0, .long a1]) (n := 2) (rest := []) ⟨hx, hb, hml, hown, hts⟩ (m_X0_order l a0 a1 _ rfl) gX0_nearer_X0_order rfl ⟨rfl, rfl⟩ (by decide +kernel) ⟨Nat.le_of_ble_eq_true rfl, Nat.le_of_ble_eq_true rfl⟩ ⟨Nat.le_of_ble_eq_true rfl, Nat.le_of_ble_eq_true rfl⟩ hl.1 rfl rfl (Nat.le_of_ble_eq_true rfl) dX0_nearer_2 ?_
  refine lv_istore (lv' := [(4, .int (f_X0_order a0 a1)), (0, .long a0), (2, .long a1)]) hx hb dX0_nearer_5 hl (by decide) rfl (fun ls hl => ?_)
  refine lv_iload hx hb dX0_nearer_7 (lv_at hl 0 rfl) ?_
  refine my_if_ne (tgt := 14) hx hb dX0_nearer_9 (by decide) (fun c1 => ?_) (fun c1 => ?_)
  · rw [if_neg c1] at hf
    refine lv_iload hx hb dX0_nearer_14 (lv_at hl 0 rfl) ?_
    refine my_if_ge (tgt := 27) hx hb dX0_nearer_16 (by decide) (fun c2 => ?_) (fun c2 => ?_)
    · rw [if_neg c2] at hf
      refine lv_lload_n hx hb dX0_nearer_27 rfl (lv_at hl 1 rfl) ?_
      refine lv_iconst (v := 1) hx hb dX0_nearer_28 (by decide) ?_
      refine my_callPl (As := [.long a0, .int 1]) (n := 2) (rest := []) ⟨hx, hb, hml, hown, hts⟩ (m_X0_lowered l a0 1 _ rfl) gX0_nearer_X0_lowered rfl ⟨rfl, rfl⟩ (by decide +kernel) ⟨Nat.le_of_ble_eq_true rfl, Nat.le_of_ble_eq_true rfl⟩ ⟨Nat.le_of_ble_eq_true rfl, Nat.le_of_ble_eq_true rfl⟩ hl.1 rfl rfl (Nat.le_of_ble_eq_true rfl) dX0_nearer_29 ?_
      exact W.lret (v := (f_X0_lowered a0 1)) hx hb hr (fun t ht hW => ⟨_, rfl, hf, ht⟩) (fun q hq => absurd hq List.not_mem_nil) dX0_nearer_32
    · rw [if_pos c2] at hf
      refine lv_lload_n hx hb dX0_nearer_19 rfl (lv_at hl 1 rfl) ?_
      refine lv_iconst (v := 1) hx hb dX0_nearer_20 (by decide) ?_
      refine my_callPl (As := [.long a0, .int 1]) (n := 2) (rest := []) ⟨hx, hb, hml, hown, hts⟩ (m_X0_raised l a0 1 _ rfl) gX0_nearer_X0_raised rfl ⟨rfl, rfl⟩ (by decide +kernel) ⟨Nat.le_of_ble_eq_true rfl, Nat.le_of_ble_eq_true rfl⟩ ⟨Nat.le_of_ble_eq_true rfl, Nat.le_of_ble_eq_true rfl⟩ hl.1 rfl rfl (Nat.le_of_ble_eq_true rfl) dX0_nearer_21 ?_
      refine lv_goto (tgt := 32) hx hb dX0_nearer_24 (by decide) ?_
      exact W.lret (v := (f_X0_raised a0 1)) hx hb hr (fun t ht hW => ⟨_, rfl, hf, ht⟩) (fun q hq => absurd hq List.not_mem_nil) dX0_nearer_32
  · rw [if_pos c1] at hf
    refine lv_lload_n hx hb dX0_nearer_12 rfl (lv_at hl 2 rfl) ?_
    exact W.lret (v := a1) hx hb hr (fun t ht hW => ⟨_, rfl, hf, ht⟩) (fun q hq => absurd hq List.not_mem_nil) dX0_nearer_13

set_option maxHeartbeats 4000000 in
set_option maxRecDepth 100000 in
theorem m_X0_distance (l : Launch) (a0 : Int64) (a1 : Int64) (res : Int64) (hf : f_X0_distance a0 a1 = res) : Met l yX0_distance wsX0_distance rmX0_distance (my_PcP [.long a0, .long a1]) (vp_Sl (fun z => z = res)) 0 0 (fun _ => False) := by
  refine Met.ofW (cc := cX0_distance) (maxL := 6) (ret := (some .long)) (by decide) rfl ?_
  intro p e s m args below meth c s₁ B hml hv
  obtain ⟨rfl, -⟩ := hv
  have hx := B.exec
  have hb := B.bytes
  have hr := B.returns
  have hts : ∀ w ∈ wsX0_distance, w.before ([.long a0, .long a1] : List Value).toArray s = true := atoms_spec (ws := wsX0_distance) B.pre
  have hown : s.vm.findClass RX0 = some m.cls := findClass_of_methodNamed B.named
  have hlk : meth.locks = false := B.notSynchronized
  have hl := lv_entry ([.long a0, .long a1]) (n := 6) (Nat.le_of_ble_eq_true rfl)
  rw [lg_entry_eq]
  generalize (lg_sl ([.long a0, .long a1]) ++ List.replicate (6 - (lg_sl ([.long a0, .long a1])).length) Slot.unset).toArray = ls at hl ⊢
  have hl : lv_has ls 6 [(0, .long a0), (2, .long a1)] := hl
  unfold f_X0_distance at hf
  refine lv_lload_n hx hb dX0_distance_0 rfl (lv_at hl 0 rfl) ?_
  refine my_callPl (As := [.long a0]) (n := 1) (rest := []) ⟨hx, hb, hml, hown, hts⟩ (m_X0_placeOf l a0 _ rfl) gX0_distance_X0_placeOf rfl ⟨rfl, rfl⟩ (by decide +kernel) ⟨Nat.le_of_ble_eq_true rfl, Nat.le_of_ble_eq_true rfl⟩ ⟨Nat.le_of_ble_eq_true rfl, Nat.le_of_ble_eq_true rfl⟩ hl.1 rfl rfl (Nat.le_of_ble_eq_true rfl) dX0_distance_1 ?_
  refine lv_lload_n hx hb dX0_distance_4 rfl (lv_at hl 1 rfl) ?_
  refine my_callPl (As := [.long a1]) (n := 1) (rest := [.long (f_X0_placeOf a0)]) ⟨hx, hb, hml, hown, hts⟩ (m_X0_placeOf l a1 _ rfl) gX0_distance_X0_placeOf rfl ⟨rfl, rfl⟩ (by decide +kernel) ⟨Nat.le_of_ble_eq_true rfl, Nat.le_of_ble_eq_true rfl⟩ ⟨Nat.le_of_ble_eq_true rfl, Nat.le_of_ble_eq_true rfl⟩ hl.1 rfl rfl (Nat.le_of_ble_eq_true rfl) dX0_distance_5 ?_
  refine lv_lsub hx hb dX0_distance_8 ?_
  refine lv_lstore (lv' := [(4, .long ((f_X0_placeOf a0) - (f_X0_placeOf a1))), (0, .long a0), (2, .long a1)]) hx hb dX0_distance_9 hl (by decide) rfl (fun ls hl => ?_)
  refine lv_lload_n hx hb dX0_distance_11 rfl (lv_at hl 1 rfl) ?_
  refine lv_lload_n hx hb dX0_distance_12 rfl (lv_at hl 2 rfl) ?_
  refine my_callPi (As := [.long a0, .long a1]) (n := 2) (rest := []) ⟨hx, hb, hml, hown, hts⟩ (m_X0_order l a0 a1 _ rfl) gX0_distance_X0_order rfl ⟨rfl, rfl⟩ (by decide +kernel) ⟨Nat.le_of_ble_eq_true rfl, Nat.le_of_ble_eq_true rfl⟩ ⟨Nat.le_of_ble_eq_true rfl, Nat.le_of_ble_eq_true rfl⟩ hl.1 rfl rfl (Nat.le_of_ble_eq_true rfl) dX0_distance_13 ?_
  refine my_if_ge (tgt := 25) hx hb dX0_distance_16 (by decide) (fun c1 => ?_) (fun c1 => ?_)
  · rw [if_neg c1] at hf
    refine lv_lload hx hb dX0_distance_25 (lv_at hl 0 rfl) ?_
    exact W.lret (v := ((f_X0_placeOf a0) - (f_X0_placeOf a1))) hx hb hr (fun t ht hW => ⟨_, rfl, hf, ht⟩) (fun q hq => absurd hq List.not_mem_nil) dX0_distance_27
  · rw [if_pos c1] at hf
    refine lv_lload hx hb dX0_distance_19 (lv_at hl 0 rfl) ?_
    refine lv_lneg hx hb dX0_distance_21 ?_
    refine lv_goto (tgt := 27) hx hb dX0_distance_22 (by decide) ?_
    exact W.lret (v := (-((f_X0_placeOf a0) - (f_X0_placeOf a1)))) hx hb hr (fun t ht hW => ⟨_, rfl, hf, ht⟩) (fun q hq => absurd hq List.not_mem_nil) dX0_distance_27

set_option maxHeartbeats 4000000 in
set_option maxRecDepth 100000 in
theorem m_X0_isMoreThan (l : Launch) (a0 : Int64) (a1 : Int32) (res : Bool) (hf : f_X0_isMoreThan a0 a1 = res) : Met l yX0_isMoreThan wsX0_isMoreThan rmX0_isMoreThan (my_PcP [.long a0, .int a1]) (vp_Si (fun z => z = b2i res)) 0 0 (fun _ => False) := by
  refine Met.ofW (cc := cX0_isMoreThan) (maxL := 3) (ret := (some .boolean)) (by decide) rfl ?_
  intro p e s m args below meth c s₁ B hml hv
  obtain ⟨rfl, -⟩ := hv
  have hx := B.exec
  have hb := B.bytes
  have hr := B.returns
  have hts : ∀ w ∈ wsX0_isMoreThan, w.before ([.long a0, .int a1] : List Value).toArray s = true := atoms_spec (ws := wsX0_isMoreThan) B.pre
  have hown : s.vm.findClass RX0 = some m.cls := findClass_of_methodNamed B.named
  have hlk : meth.locks = false := B.notSynchronized
  have hl := lv_entry ([.long a0, .int a1]) (n := 3) (Nat.le_of_ble_eq_true rfl)
  rw [lg_entry_eq]
  generalize (lg_sl ([.long a0, .int a1]) ++ List.replicate (3 - (lg_sl ([.long a0, .int a1])).length) Slot.unset).toArray = ls at hl ⊢
  have hl : lv_has ls 3 [(0, .long a0), (2, .int a1)] := hl
  unfold f_X0_isMoreThan at hf
  refine lv_lload_n hx hb dX0_isMoreThan_0 rfl (lv_at hl 0 rfl) ?_
  refine lv_lconst (v := 0) hx hb dX0_isMoreThan_1 (by decide) ?_
  refine my_lc_lt (tgt := 13) hx hb dX0_isMoreThan_2 dX0_isMoreThan_3 (by decide) (fun c1 => ?_) (fun c1 => ?_)
  · rw [if_pos c1] at hf
    refine lv_iconst (v := 1) hx hb dX0_isMoreThan_13 (by decide) ?_
    refine lv_goto (tgt := 18) hx hb dX0_isMoreThan_14 (by decide) ?_
    exact W.zret (v := b2i true) (ty := .boolean) hx hb hr (b2i_nar _) (fun t ht hW => ⟨_, rfl, congrArg b2i (hf), ht⟩) (fun q hq => absurd hq List.not_mem_nil) dX0_isMoreThan_18
  · rw [if_neg c1] at hf
    refine lv_lload_n hx hb dX0_isMoreThan_6 rfl (lv_at hl 0 rfl) ?_
    refine lv_iload_n hx hb dX0_isMoreThan_7 rfl (lv_at hl 1 rfl) ?_
    refine lv_i2l (v := (a1.toInt64)) hx hb dX0_isMoreThan_8 rfl ?_
    refine my_lc_le (tgt := 17) hx hb dX0_isMoreThan_9 dX0_isMoreThan_10 (by decide) (fun c2 => ?_) (fun c2 => ?_)
    · rw [if_neg c2] at hf
      refine lv_iconst (v := 0) hx hb dX0_isMoreThan_17 (by decide) ?_
      exact W.zret (v := b2i false) (ty := .boolean) hx hb hr (b2i_nar _) (fun t ht hW => ⟨_, rfl, congrArg b2i (hf), ht⟩) (fun q hq => absurd hq List.not_mem_nil) dX0_isMoreThan_18
    · rw [if_pos c2] at hf
      refine lv_iconst (v := 1) hx hb dX0_isMoreThan_13 (by decide) ?_
      refine lv_goto (tgt := 18) hx hb dX0_isMoreThan_14 (by decide) ?_
      exact W.zret (v := b2i true) (ty := .boolean) hx hb hr (b2i_nar _) (fun t ht hW => ⟨_, rfl, congrArg b2i (hf), ht⟩) (fun q hq => absurd hq List.not_mem_nil) dX0_isMoreThan_18

set_option maxHeartbeats 4000000 in
set_option maxRecDepth 100000 in
theorem m_X0_between (l : Launch) (a0 : Int64) (a1 : Int64) (res : Int64) (hf : f_X0_between a0 a1 = res) : Met l yX0_between wsX0_between rmX0_between (my_PcP [.long a0, .long a1]) (vp_Sl (fun z => z = res)) 0 0 (fun _ => False) := by
  refine Met.ofW (cc := cX0_between) (maxL := 8) (ret := (some .long)) (by decide) rfl ?_
  intro p e s m args below meth c s₁ B hml hv
  obtain ⟨rfl, -⟩ := hv
  have hx := B.exec
  have hb := B.bytes
  have hr := B.returns
  have hts : ∀ w ∈ wsX0_between, w.before ([.long a0, .long a1] : List Value).toArray s = true := atoms_spec (ws := wsX0_between) B.pre
  have hown : s.vm.findClass RX0 = some m.cls := findClass_of_methodNamed B.named
  have hlk : meth.locks = false := B.notSynchronized
  have hl := lv_entry ([.long a0, .long a1]) (n := 8) (Nat.le_of_ble_eq_true rfl)
  rw [lg_entry_eq]
  generalize (lg_sl ([.long a0, .long a1]) ++ List.replicate (8 - (lg_sl ([.long a0, .long a1])).length) Slot.unset).toArray = ls at hl ⊢
  have hl : lv_has ls 8 [(0, .long a0), (2, .long a1)] := hl
  unfold f_X0_between at hf
  refine lv_lload_n hx hb dX0_between_0 rfl (lv_at hl 0 rfl) ?_
  refine my_callPl (As := [.long a0]) (n := 1) (rest := []) ⟨hx, hb, hml, hown, hts⟩ (m_X0_placeOf l a0 _ rfl) gX0_between_X0_placeOf rfl ⟨rfl, rfl⟩ (by decide +kernel) ⟨Nat.le_of_ble_eq_true rfl, Nat.le_of_ble_eq_true rfl⟩ ⟨Nat.le_of_ble_eq_true rfl, Nat.le_of_ble_eq_true rfl⟩ hl.1 rfl rfl (Nat.le_of_ble_eq_true rfl) dX0_between_1 ?_
  refine lv_lstore (lv' := [(4, .long (f_X0_placeOf a0)), (0, .long a0), (2, .long a1)]) hx hb dX0_between_4 hl (by decide) rfl (fun ls hl => ?_)
  refine lv_lload_n hx hb dX0_between_6 rfl (lv_at hl 2 rfl) ?_
  refine my_callPl (As := [.long a1]) (n := 1) (rest := []) ⟨hx, hb, hml, hown, hts⟩ (m_X0_placeOf l a1 _ rfl) gX0_between_X0_placeOf rfl ⟨rfl, rfl⟩ (by decide +kernel) ⟨Nat.le_of_ble_eq_true rfl, Nat.le_of_ble_eq_true rfl⟩ ⟨Nat.le_of_ble_eq_true rfl, Nat.le_of_ble_eq_true rfl⟩ hl.1 rfl rfl (Nat.le_of_ble_eq_true rfl) dX0_between_7 ?_
  refine lv_lstore (lv' := [(6, .long (f_X0_placeOf a1)), (4, .long (f_X0_placeOf a0)), (0, .long a0), (2, .long a1)]) hx hb dX0_between_10 hl (by decide) rfl (fun ls hl => ?_)
  refine lv_lload hx hb dX0_between_12 (lv_at hl 1 rfl) ?_
  refine lv_lload hx hb dX0_between_14 (lv_at hl 0 rfl) ?_
  refine lv_land hx hb dX0_between_16 ?_
  refine lv_lload hx hb dX0_between_17 (lv_at hl 1 rfl) ?_
  refine lv_lload hx hb dX0_between_19 (lv_at hl 0 rfl) ?_
  refine lv_lxor hx hb dX0_between_21 ?_
  refine lv_iconst (v := 1) hx hb dX0_between_22 (by decide) ?_
  refine lv_lshr (v := (jshr ((f_X0_placeOf a0) ^^^ (f_X0_placeOf a1)) 1)) hx hb dX0_between_23 rfl ?_
  refine lv_ladd hx hb dX0_between_24 ?_
  refine my_callPl (As := [.long (((f_X0_placeOf a0) &&& (f_X0_placeOf a1)) + (jshr ((f_X0_placeOf a0) ^^^ (f_X0_placeOf a1)) 1))]) (n := 1) (rest := []) ⟨hx, hb, hml, hown, hts⟩ (m_X0_atPlace l (((f_X0_placeOf a0) &&& (f_X0_placeOf a1)) + (jshr ((f_X0_placeOf a0) ^^^ (f_X0_placeOf a1)) 1)) _ rfl) gX0_between_X0_atPlace rfl ⟨rfl, rfl⟩ (by decide +kernel) ⟨Nat.le_of_ble_eq_true rfl, Nat.le_of_ble_eq_true rfl⟩ ⟨Nat.le_of_ble_eq_true rfl, Nat.le_of_ble_eq_true rfl⟩ hl.1 rfl rfl (Nat.le_of_ble_eq_true rfl) dX0_between_25 ?_
  exact W.lret (v := (f_X0_atPlace (((f_X0_placeOf a0) &&& (f_X0_placeOf a1)) + (jshr ((f_X0_placeOf a0) ^^^ (f_X0_placeOf a1)) 1)))) hx hb hr (fun t ht hW => ⟨_, rfl, hf, ht⟩) (fun q hq => absurd hq List.not_mem_nil) dX0_between_28

set_option maxHeartbeats 4000000 in
set_option maxRecDepth 100000 in
theorem m_X0_scaled (l : Launch) (a0 : Int64) (a1 : Int32) (res : Int64) (hf : f_X0_scaled a0 a1 = res) : Met l yX0_scaled wsX0_scaled rmX0_scaled (my_PcP [.long a0, .int a1]) (vp_Sl (fun z => z = res)) 0 0 (fun _ => False) := by
  refine Met.ofW (cc := cX0_scaled) (maxL := 3) (ret := (some .long)) (by decide) rfl ?_
  intro p e s m args below meth c s₁ B hml hv
  obtain ⟨rfl, -⟩ := hv
  have hx := B.exec
  have hb := B.bytes
  have hr := B.returns
  have hts : ∀ w ∈ wsX0_scaled, w.before ([.long a0, .int a1] : List Value).toArray s = true := atoms_spec (ws := wsX0_scaled) B.pre
  have hown : s.vm.findClass RX0 = some m.cls := findClass_of_methodNamed B.named
  have hlk : meth.locks = false := B.notSynchronized
  have q1 := hts (.constantLong RX0 9 (-9223372036854775808)) (by decide +kernel)
  have hl := lv_entry ([.long a0, .int a1]) (n := 3) (Nat.le_of_ble_eq_true rfl)
  rw [lg_entry_eq]
  generalize (lg_sl ([.long a0, .int a1]) ++ List.replicate (3 - (lg_sl ([.long a0, .int a1])).length) Slot.unset).toArray = ls at hl ⊢
  have hl : lv_has ls 3 [(0, .long a0), (2, .int a1)] := hl
  unfold f_X0_scaled at hf
  refine lv_lload_n hx hb dX0_scaled_0 rfl (lv_at hl 0 rfl) ?_
  refine my_callPi (As := [.long a0]) (n := 1) (rest := []) ⟨hx, hb, hml, hown, hts⟩ (m_X0_isZero l a0 _ rfl) gX0_scaled_X0_isZero rfl ⟨rfl, rfl⟩ (by decide +kernel) ⟨Nat.le_of_ble_eq_true rfl, Nat.le_of_ble_eq_true rfl⟩ ⟨Nat.le_of_ble_eq_true rfl, Nat.le_of_ble_eq_true rfl⟩ hl.1 rfl rfl (Nat.le_of_ble_eq_true rfl) dX0_scaled_1 ?_
  refine my_bz_ne (x := (f_X0_isZero a0)) (tgt := 14) hx hb dX0_scaled_4 (by decide) (fun c1 => ?_) (fun c1 => ?_)
  · rw [if_neg c1] at hf
    refine lv_lload_n hx hb dX0_scaled_14 rfl (lv_at hl 0 rfl) ?_
    exact W.lret (v := a0) hx hb hr (fun t ht hW => ⟨_, rfl, hf, ht⟩) (fun q hq => absurd hq List.not_mem_nil) dX0_scaled_15
  · rw [if_pos c1] at hf
    refine lv_lload_n hx hb dX0_scaled_7 rfl (lv_at hl 0 rfl) ?_
    refine my_callPi (As := [.long a0]) (n := 1) (rest := []) ⟨hx, hb, hml, hown, hts⟩ (m_X0_hasNoEnd l a0 _ rfl) gX0_scaled_X0_hasNoEnd rfl ⟨rfl, rfl⟩ (by decide +kernel) ⟨Nat.le_of_ble_eq_true rfl, Nat.le_of_ble_eq_true rfl⟩ ⟨Nat.le_of_ble_eq_true rfl, Nat.le_of_ble_eq_true rfl⟩ hl.1 rfl rfl (Nat.le_of_ble_eq_true rfl) dX0_scaled_8 ?_
    refine my_bz_eq (x := (f_X0_hasNoEnd a0)) (tgt := 16) hx hb dX0_scaled_11 (by decide) (fun c2 => ?_) (fun c2 => ?_)
    · rw [if_pos c2] at hf
      refine lv_lload_n hx hb dX0_scaled_16 rfl (lv_at hl 0 rfl) ?_
      refine lv_ldc2 (v := (-9223372036854775808)) hx hb hown q1 dX0_scaled_17 ?_
      refine lv_land hx hb dX0_scaled_20 ?_
      refine lv_lload_n hx hb dX0_scaled_21 rfl (lv_at hl 0 rfl) ?_
      refine my_callPl (As := [.long a0]) (n := 1) (rest := [.long (a0 &&& (-9223372036854775808))]) ⟨hx, hb, hml, hown, hts⟩ (m_X0_whole l a0 _ rfl) gX0_scaled_X0_whole rfl ⟨rfl, rfl⟩ (by decide +kernel) ⟨Nat.le_of_ble_eq_true rfl, Nat.le_of_ble_eq_true rfl⟩ ⟨Nat.le_of_ble_eq_true rfl, Nat.le_of_ble_eq_true rfl⟩ hl.1 rfl rfl (Nat.le_of_ble_eq_true rfl) dX0_scaled_22 ?_
      refine lv_lload_n hx hb dX0_scaled_25 rfl (lv_at hl 0 rfl) ?_
      refine my_callPi (As := [.long a0]) (n := 1) (rest := [.long (f_X0_whole a0), .long (a0 &&& (-9223372036854775808))]) ⟨hx, hb, hml, hown, hts⟩ (m_X0_shift l a0 _ rfl) gX0_scaled_X0_shift rfl ⟨rfl, rfl⟩ (by decide +kernel) ⟨Nat.le_of_ble_eq_true rfl, Nat.le_of_ble_eq_true rfl⟩ ⟨Nat.le_of_ble_eq_true rfl, Nat.le_of_ble_eq_true rfl⟩ hl.1 rfl rfl (Nat.le_of_ble_eq_true rfl) dX0_scaled_26 ?_
      refine lv_iload_n hx hb dX0_scaled_29 rfl (lv_at hl 1 rfl) ?_
      refine lv_iadd hx hb dX0_scaled_30 ?_
      refine my_callPl (As := [.long (f_X0_whole a0), .int ((f_X0_shift a0) + a1)]) (n := 2) (rest := [.long (a0 &&& (-9223372036854775808))]) ⟨hx, hb, hml, hown, hts⟩ (m_X0_nearest l (f_X0_whole a0) ((f_X0_shift a0) + a1) _ rfl) gX0_scaled_X0_nearest rfl ⟨rfl, rfl⟩ (by decide +kernel) ⟨Nat.le_of_ble_eq_true rfl, Nat.le_of_ble_eq_true rfl⟩ ⟨Nat.le_of_ble_eq_true rfl, Nat.le_of_ble_eq_true rfl⟩ hl.1 rfl rfl (Nat.le_of_ble_eq_true rfl) dX0_scaled_31 ?_
      refine lv_lor hx hb dX0_scaled_34 ?_
      exact W.lret (v := ((a0 &&& (-9223372036854775808)) ||| (f_X0_nearest (f_X0_whole a0) ((f_X0_shift a0) + a1)))) hx hb hr (fun t ht hW => ⟨_, rfl, hf, ht⟩) (fun q hq => absurd hq List.not_mem_nil) dX0_scaled_35
    · rw [if_neg c2] at hf
      refine lv_lload_n hx hb dX0_scaled_14 rfl (lv_at hl 0 rfl) ?_
      exact W.lret (v := a0) hx hb hr (fun t ht hW => ⟨_, rfl, hf, ht⟩) (fun q hq => absurd hq List.not_mem_nil) dX0_scaled_15

set_option maxHeartbeats 4000000 in
set_option maxRecDepth 100000 in
theorem m_X0_exponentOf (l : Launch) (a0 : Int64) (res : Int32) (hf : f_X0_exponentOf a0 = res) : Met l yX0_exponentOf wsX0_exponentOf rmX0_exponentOf (my_PcP [.long a0]) (vp_Si (fun z => z = res)) 0 0 (fun _ => False) := by
  refine Met.ofW (cc := cX0_exponentOf) (maxL := 2) (ret := (some .int)) (by decide) rfl ?_
  intro p e s m args below meth c s₁ B hml hv
  obtain ⟨rfl, -⟩ := hv
  have hx := B.exec
  have hb := B.bytes
  have hr := B.returns
  have hts : ∀ w ∈ wsX0_exponentOf, w.before ([.long a0] : List Value).toArray s = true := atoms_spec (ws := wsX0_exponentOf) B.pre
  have hown : s.vm.findClass RX0 = some m.cls := findClass_of_methodNamed B.named
  have hlk : meth.locks = false := B.notSynchronized
  have hl := lv_entry ([.long a0]) (n := 2) (Nat.le_of_ble_eq_true rfl)
  rw [lg_entry_eq]
  generalize (lg_sl ([.long a0]) ++ List.replicate (2 - (lg_sl ([.long a0])).length) Slot.unset).toArray = ls at hl ⊢
  have hl : lv_has ls 2 [(0, .long a0)] := hl
  unfold f_X0_exponentOf at hf
  refine lv_lload_n hx hb dX0_exponentOf_0 rfl (lv_at hl 0 rfl) ?_
  refine my_callPi (As := [.long a0]) (n := 1) (rest := []) ⟨hx, hb, hml, hown, hts⟩ (m_X0_exponentBits l a0 _ rfl) gX0_exponentOf_X0_exponentBits rfl ⟨rfl, rfl⟩ (by decide +kernel) ⟨Nat.le_of_ble_eq_true rfl, Nat.le_of_ble_eq_true rfl⟩ ⟨Nat.le_of_ble_eq_true rfl, Nat.le_of_ble_eq_true rfl⟩ hl.1 rfl rfl (Nat.le_of_ble_eq_true rfl) dX0_exponentOf_1 ?_
  refine lv_sipush (v := 1023) hx hb dX0_exponentOf_4 (by decide) ?_
  refine lv_isub hx hb dX0_exponentOf_7 ?_
  exact W.iret (v := ((f_X0_exponentBits a0) - 1023)) hx hb hr (fun t ht hW => ⟨_, rfl, hf, ht⟩) (fun q hq => absurd hq List.not_mem_nil) dX0_exponentOf_8

set_option maxHeartbeats 4000000 in
set_option maxRecDepth 100000 in
theorem m_X0_powerOfTwo (l : Launch) (a0 : Int32) (res : Int64) (hf : f_X0_powerOfTwo a0 = res) : Met l yX0_powerOfTwo wsX0_powerOfTwo rmX0_powerOfTwo (my_PcP [.int a0]) (vp_Sl (fun z => z = res)) 0 0 (fun _ => False) := by
  refine Met.ofW (cc := cX0_powerOfTwo) (maxL := 1) (ret := (some .long)) (by decide) rfl ?_
  intro p e s m args below meth c s₁ B hml hv
  obtain ⟨rfl, -⟩ := hv
  have hx := B.exec
  have hb := B.bytes
  have hr := B.returns
  have hts : ∀ w ∈ wsX0_powerOfTwo, w.before ([.int a0] : List Value).toArray s = true := atoms_spec (ws := wsX0_powerOfTwo) B.pre
  have hown : s.vm.findClass RX0 = some m.cls := findClass_of_methodNamed B.named
  have hlk : meth.locks = false := B.notSynchronized
  have hl := lv_entry ([.int a0]) (n := 1) (Nat.le_of_ble_eq_true rfl)
  rw [lg_entry_eq]
  generalize (lg_sl ([.int a0]) ++ List.replicate (1 - (lg_sl ([.int a0])).length) Slot.unset).toArray = ls at hl ⊢
  have hl : lv_has ls 1 [(0, .int a0)] := hl
  unfold f_X0_powerOfTwo at hf
  refine lv_lconst (v := 1) hx hb dX0_powerOfTwo_0 (by decide) ?_
  refine lv_iload_n hx hb dX0_powerOfTwo_1 rfl (lv_at hl 0 rfl) ?_
  refine lv_sipush (v := (-1074)) hx hb dX0_powerOfTwo_2 (by decide) ?_
  refine lv_isub hx hb dX0_powerOfTwo_5 ?_
  refine my_callPl (As := [.long 1, .int (a0 - (-1074))]) (n := 2) (rest := []) ⟨hx, hb, hml, hown, hts⟩ (m_X0_nearest l 1 (a0 - (-1074)) _ rfl) gX0_powerOfTwo_X0_nearest rfl ⟨rfl, rfl⟩ (by decide +kernel) ⟨Nat.le_of_ble_eq_true rfl, Nat.le_of_ble_eq_true rfl⟩ ⟨Nat.le_of_ble_eq_true rfl, Nat.le_of_ble_eq_true rfl⟩ hl.1 rfl rfl (Nat.le_of_ble_eq_true rfl) dX0_powerOfTwo_6 ?_
  exact W.lret (v := (f_X0_nearest 1 (a0 - (-1074)))) hx hb hr (fun t ht hW => ⟨_, rfl, hf, ht⟩) (fun q hq => absurd hq List.not_mem_nil) dX0_powerOfTwo_9

set_option maxHeartbeats 4000000 in
set_option maxRecDepth 100000 in
theorem m_X0_unitOf (l : Launch) (a0 : Int64) (res : Int64) (hf : f_X0_unitOf a0 = res) : Met l yX0_unitOf wsX0_unitOf rmX0_unitOf (my_PcP [.long a0]) (vp_Sl (fun z => z = res)) 0 0 (fun _ => False) := by
  refine Met.ofW (cc := cX0_unitOf) (maxL := 2) (ret := (some .long)) (by decide) rfl ?_
  intro p e s m args below meth c s₁ B hml hv
  obtain ⟨rfl, -⟩ := hv
  have hx := B.exec
  have hb := B.bytes
  have hr := B.returns
  have hts : ∀ w ∈ wsX0_unitOf, w.before ([.long a0] : List Value).toArray s = true := atoms_spec (ws := wsX0_unitOf) B.pre
  have hown : s.vm.findClass RX0 = some m.cls := findClass_of_methodNamed B.named
  have hlk : meth.locks = false := B.notSynchronized
  have q1 := hts (.constantLong RX0 17 (9218868437227405312)) (by decide +kernel)
  have hl := lv_entry ([.long a0]) (n := 2) (Nat.le_of_ble_eq_true rfl)
  rw [lg_entry_eq]
  generalize (lg_sl ([.long a0]) ++ List.replicate (2 - (lg_sl ([.long a0])).length) Slot.unset).toArray = ls at hl ⊢
  have hl : lv_has ls 2 [(0, .long a0)] := hl
  unfold f_X0_unitOf at hf
  refine lv_lload_n hx hb dX0_unitOf_0 rfl (lv_at hl 0 rfl) ?_
  refine my_callPi (As := [.long a0]) (n := 1) (rest := []) ⟨hx, hb, hml, hown, hts⟩ (m_X0_hasNoEnd l a0 _ rfl) gX0_unitOf_X0_hasNoEnd rfl ⟨rfl, rfl⟩ (by decide +kernel) ⟨Nat.le_of_ble_eq_true rfl, Nat.le_of_ble_eq_true rfl⟩ ⟨Nat.le_of_ble_eq_true rfl, Nat.le_of_ble_eq_true rfl⟩ hl.1 rfl rfl (Nat.le_of_ble_eq_true rfl) dX0_unitOf_1 ?_
  refine my_bz_eq (x := (f_X0_hasNoEnd a0)) (tgt := 13) hx hb dX0_unitOf_4 (by decide) (fun c1 => ?_) (fun c1 => ?_)
  · rw [if_pos c1] at hf
    refine lv_sipush (v := (-1074)) hx hb dX0_unitOf_13 (by decide) ?_
    refine lv_lload_n hx hb dX0_unitOf_16 rfl (lv_at hl 0 rfl) ?_
    refine my_callPi (As := [.long a0]) (n := 1) (rest := [.int (-1074)]) ⟨hx, hb, hml, hown, hts⟩ (m_X0_shift l a0 _ rfl) gX0_unitOf_X0_shift rfl ⟨rfl, rfl⟩ (by decide +kernel) ⟨Nat.le_of_ble_eq_true rfl, Nat.le_of_ble_eq_true rfl⟩ ⟨Nat.le_of_ble_eq_true rfl, Nat.le_of_ble_eq_true rfl⟩ hl.1 rfl rfl (Nat.le_of_ble_eq_true rfl) dX0_unitOf_17 ?_
    refine lv_iadd hx hb dX0_unitOf_20 ?_
    refine my_callPl (As := [.int ((-1074) + (f_X0_shift a0))]) (n := 1) (rest := []) ⟨hx, hb, hml, hown, hts⟩ (m_X0_powerOfTwo l ((-1074) + (f_X0_shift a0)) _ rfl) gX0_unitOf_X0_powerOfTwo rfl ⟨rfl, rfl⟩ (by decide +kernel) ⟨Nat.le_of_ble_eq_true rfl, Nat.le_of_ble_eq_true rfl⟩ ⟨Nat.le_of_ble_eq_true rfl, Nat.le_of_ble_eq_true rfl⟩ hl.1 rfl rfl (Nat.le_of_ble_eq_true rfl) dX0_unitOf_21 ?_
    exact W.lret (v := (f_X0_powerOfTwo ((-1074) + (f_X0_shift a0)))) hx hb hr (fun t ht hW => ⟨_, rfl, hf, ht⟩) (fun q hq => absurd hq List.not_mem_nil) dX0_unitOf_24
  · rw [if_neg c1] at hf
    refine lv_ldc2 (v := 9218868437227405312) hx hb hown q1 dX0_unitOf_7 ?_
    refine lv_goto (tgt := 24) hx hb dX0_unitOf_10 (by decide) ?_
    exact W.lret (v := 9218868437227405312) hx hb hr (fun t ht hW => ⟨_, rfl, hf, ht⟩) (fun q hq => absurd hq List.not_mem_nil) dX0_unitOf_24

set_option maxHeartbeats 4000000 in
set_option maxRecDepth 100000 in
theorem m_X0_leadOf (l : Launch) (a0 : Int64) (res : Int32) (hf : f_X0_leadOf a0 = res) : Met l yX0_leadOf wsX0_leadOf rmX0_leadOf (my_PcP [.long a0]) (vp_Si (fun z => z = res)) 0 0 (fun _ => False) := by
  refine Met.ofW (cc := cX0_leadOf) (maxL := 2) (ret := (some .int)) (by decide) rfl ?_
  intro p e s m args below meth c s₁ B hml hv
  obtain ⟨rfl, -⟩ := hv
  have hx := B.exec
  have hb := B.bytes
  have hr := B.returns
  have hts : ∀ w ∈ wsX0_leadOf, w.before ([.long a0] : List Value).toArray s = true := atoms_spec (ws := wsX0_leadOf) B.pre
  have hown : s.vm.findClass RX0 = some m.cls := findClass_of_methodNamed B.named
  have hlk : meth.locks = false := B.notSynchronized
  have hl := lv_entry ([.long a0]) (n := 2) (Nat.le_of_ble_eq_true rfl)
  rw [lg_entry_eq]
  generalize (lg_sl ([.long a0]) ++ List.replicate (2 - (lg_sl ([.long a0])).length) Slot.unset).toArray = ls at hl ⊢
  have hl : lv_has ls 2 [(0, .long a0)] := hl
  unfold f_X0_leadOf at hf
  refine lv_bipush (v := 63) hx hb dX0_leadOf_0 (by decide) ?_
  refine lv_lload_n hx hb dX0_leadOf_2 rfl (lv_at hl 0 rfl) ?_
  refine my_callPl (As := [.long a0]) (n := 1) (rest := [.int 63]) ⟨hx, hb, hml, hown, hts⟩ (m_X0_whole l a0 _ rfl) gX0_leadOf_X0_whole rfl ⟨rfl, rfl⟩ (by decide +kernel) ⟨Nat.le_of_ble_eq_true rfl, Nat.le_of_ble_eq_true rfl⟩ ⟨Nat.le_of_ble_eq_true rfl, Nat.le_of_ble_eq_true rfl⟩ hl.1 rfl rfl (Nat.le_of_ble_eq_true rfl) dX0_leadOf_3 ?_
  refine my_callPi (As := [.long (f_X0_whole a0)]) (n := 1) (rest := [.int 63]) ⟨hx, hb, hml, hown, hts⟩ (m_J13_numberOfLeadingZeros_95d88 l (f_X0_whole a0) _ rfl) gX0_leadOf_J13_numberOfLeadingZeros_95d88 rfl ⟨rfl, rfl⟩ (by decide +kernel) ⟨Nat.le_of_ble_eq_true rfl, Nat.le_of_ble_eq_true rfl⟩ ⟨Nat.le_of_ble_eq_true rfl, Nat.le_of_ble_eq_true rfl⟩ hl.1 rfl rfl (Nat.le_of_ble_eq_true rfl) dX0_leadOf_6 ?_
  refine lv_isub hx hb dX0_leadOf_9 ?_
  refine lv_lload_n hx hb dX0_leadOf_10 rfl (lv_at hl 0 rfl) ?_
  refine my_callPi (As := [.long a0]) (n := 1) (rest := [.int (63 - (f_J13_numberOfLeadingZeros_95d88 (f_X0_whole a0)))]) ⟨hx, hb, hml, hown, hts⟩ (m_X0_shift l a0 _ rfl) gX0_leadOf_X0_shift rfl ⟨rfl, rfl⟩ (by decide +kernel) ⟨Nat.le_of_ble_eq_true rfl, Nat.le_of_ble_eq_true rfl⟩ ⟨Nat.le_of_ble_eq_true rfl, Nat.le_of_ble_eq_true rfl⟩ hl.1 rfl rfl (Nat.le_of_ble_eq_true rfl) dX0_leadOf_11 ?_
  refine lv_iadd hx hb dX0_leadOf_14 ?_
  refine lv_sipush (v := (-1074)) hx hb dX0_leadOf_15 (by decide) ?_
  refine lv_iadd hx hb dX0_leadOf_18 ?_
  exact W.iret (v := (((63 - (f_J13_numberOfLeadingZeros_95d88 (f_X0_whole a0))) + (f_X0_shift a0)) + (-1074))) hx hb hr (fun t ht hW => ⟨_, rfl, hf, ht⟩) (fun q hq => absurd hq List.not_mem_nil) dX0_leadOf_19

set_option maxHeartbeats 4000000 in
set_option maxRecDepth 100000 in
theorem m_J9_floorMod_7cf53 (l : Launch) (a0 : Int32) (a1 : Int32) (res : Int32) (hf : f_J9_floorMod_7cf53 a0 a1 = some res) : Met l yJ9_floorMod_7cf53 wsJ9_floorMod_7cf53 rmJ9_floorMod_7cf53 (my_PcP [.int a0, .int a1]) (vp_Si (fun z => z = res)) 0 0 (fun _ => False) := by
  refine va_MetF (cc := cJ9_floorMod_7cf53) (maxL := 3) (ret := (some .int)) (by decide +kernel) rfl ?_
  intro p e s m args below meth c s₁ B hml hv
  obtain ⟨rfl, -⟩ := hv
  have hx := B.exec
  have hb := B.bytes
  have hr := B.returns
  have hts : ∀ w ∈ wsJ9_floorMod_7cf53, w.before ([.int a0, .int a1] : List Value).toArray s = true := atoms_spec (ws := wsJ9_floorMod_7cf53) B.pre
  have hown : s.vm.findClass RJ9 = some m.cls := findClass_of_methodNamed B.named
  have hlk : meth.locks = false := B.notSynchronized
  have hl := lv_entry ([.int a0, .int a1]) (n := 3) (Nat.le_of_ble_eq_true rfl)
  rw [lg_entry_eq]
  generalize (lg_sl ([.int a0, .int a1]) ++ List.replicate (3 - (lg_sl ([.int a0, .int a1])).length) Slot.unset).toArray = ls at hl ⊢
  have hl : lv_has ls 3 [(0, .int a0), (1, .int a1)] := hl
  unfold f_J9_floorMod_7cf53 at hf
  refine lv_iload_n hx hb dJ9_floorMod_7cf53_0 rfl (lv_at hl 0 rfl) ?_
  refine lv_iload_n hx hb dJ9_floorMod_7cf53_1 rfl (lv_at hl 1 rfl) ?_
  obtain ⟨g1, hf⟩ := og_e hf
  refine lv_irem hx hb dJ9_floorMod_7cf53_2 g1 ?_
  refine lv_istore_n (lv' := [(2, .int (a0 - a0 / a1 * a1)), (0, .int a0), (1, .int a1)]) hx hb dJ9_floorMod_7cf53_3 rfl hl (by decide) rfl (fun ls hl => ?_)
  refine lv_iload_n hx hb dJ9_floorMod_7cf53_4 rfl (lv_at hl 1 rfl) ?_
  refine lv_iload_n hx hb dJ9_floorMod_7cf53_5 rfl (lv_at hl 2 rfl) ?_
  refine lv_ixor hx hb dJ9_floorMod_7cf53_6 ?_
  refine my_if_ge (tgt := 18) hx hb dJ9_floorMod_7cf53_7 (by decide) (fun c2 => ?_) (fun c2 => ?_)
  · rw [if_neg c2] at hf
    refine lv_iload_n hx hb dJ9_floorMod_7cf53_18 rfl (lv_at hl 0 rfl) ?_
    exact W.iret (v := (a0 - a0 / a1 * a1)) hx hb hr (fun t ht hW => ⟨_, rfl, Option.some.inj hf, ht⟩) (fun q hq => absurd hq List.not_mem_nil) dJ9_floorMod_7cf53_19
  · rw [if_pos c2] at hf
    refine lv_iload_n hx hb dJ9_floorMod_7cf53_10 rfl (lv_at hl 0 rfl) ?_
    refine my_if_eq (tgt := 18) hx hb dJ9_floorMod_7cf53_11 (by decide) (fun c3 => ?_) (fun c3 => ?_)
    · rw [if_pos c3] at hf
      refine lv_iload_n hx hb dJ9_floorMod_7cf53_18 rfl (lv_at hl 0 rfl) ?_
      exact W.iret (v := (a0 - a0 / a1 * a1)) hx hb hr (fun t ht hW => ⟨_, rfl, Option.some.inj hf, ht⟩) (fun q hq => absurd hq List.not_mem_nil) dJ9_floorMod_7cf53_19
    · rw [if_neg c3] at hf
      refine lv_iload_n hx hb dJ9_floorMod_7cf53_14 rfl (lv_at hl 0 rfl) ?_
      refine lv_iload_n hx hb dJ9_floorMod_7cf53_15 rfl (lv_at hl 2 rfl) ?_
      refine lv_iadd hx hb dJ9_floorMod_7cf53_16 ?_
      exact W.iret (v := ((a0 - a0 / a1 * a1) + a1)) hx hb hr (fun t ht hW => ⟨_, rfl, Option.some.inj hf, ht⟩) (fun q hq => absurd hq List.not_mem_nil) dJ9_floorMod_7cf53_17

set_option maxHeartbeats 4000000 in
set_option maxRecDepth 100000 in
theorem m_X3_isWord (l : Launch) (a0 : Int32) (a1 : Int32) (res : Bool) (hf : f_X3_isWord a0 a1 = res) : Met l yX3_isWord wsX3_isWord rmX3_isWord (my_PcP [.int a0, .int a1]) (vp_Si (fun z => z = b2i res)) 0 0 (fun _ => False) := by
  refine Met.ofW (cc := cX3_isWord) (maxL := 2) (ret := (some .boolean)) (by decide) rfl ?_
  intro p e s m args below meth c s₁ B hml hv
  obtain ⟨rfl, -⟩ := hv
  have hx := B.exec
  have hb := B.bytes
  have hr := B.returns
  have hts : ∀ w ∈ wsX3_isWord, w.before ([.int a0, .int a1] : List Value).toArray s = true := atoms_spec (ws := wsX3_isWord) B.pre
  have hown : s.vm.findClass RX3 = some m.cls := findClass_of_methodNamed B.named
  have hlk : meth.locks = false := B.notSynchronized
  have hl := lv_entry ([.int a0, .int a1]) (n := 2) (Nat.le_of_ble_eq_true rfl)
  rw [lg_entry_eq]
  generalize (lg_sl ([.int a0, .int a1]) ++ List.replicate (2 - (lg_sl ([.int a0, .int a1])).length) Slot.unset).toArray = ls at hl ⊢
  have hl : lv_has ls 2 [(0, .int a0), (1, .int a1)] := hl
  unfold f_X3_isWord at hf
  refine lv_iload_n hx hb dX3_isWord_0 rfl (lv_at hl 0 rfl) ?_
  refine lv_bipush (v := 117) hx hb dX3_isWord_1 (by decide) ?_
  refine my_ic_eq (tgt := 12) hx hb dX3_isWord_3 (by decide) (fun c1 => ?_) (fun c1 => ?_)
  · rw [if_pos c1] at hf
    refine lv_iload_n hx hb dX3_isWord_12 rfl (lv_at hl 1 rfl) ?_
    refine my_if_lt (tgt := 26) hx hb dX3_isWord_13 (by decide) (fun c2 => ?_) (fun c2 => ?_)
    · rw [if_pos c2] at hf
      refine lv_iconst (v := 0) hx hb dX3_isWord_26 (by decide) ?_
      exact W.zret (v := b2i false) (ty := .boolean) hx hb hr (b2i_nar _) (fun t ht hW => ⟨_, rfl, congrArg b2i (hf), ht⟩) (fun q hq => absurd hq List.not_mem_nil) dX3_isWord_27
    · rw [if_neg c2] at hf
      refine lv_iload_n hx hb dX3_isWord_16 rfl (lv_at hl 1 rfl) ?_
      refine lv_bipush (v := 15) hx hb dX3_isWord_17 (by decide) ?_
      refine my_ic_gt (tgt := 26) hx hb dX3_isWord_19 (by decide) (fun c3 => ?_) (fun c3 => ?_)
      · rw [if_pos c3] at hf
        refine lv_iconst (v := 0) hx hb dX3_isWord_26 (by decide) ?_
        exact W.zret (v := b2i false) (ty := .boolean) hx hb hr (b2i_nar _) (fun t ht hW => ⟨_, rfl, congrArg b2i (hf), ht⟩) (fun q hq => absurd hq List.not_mem_nil) dX3_isWord_27
      · rw [if_neg c3] at hf
        refine lv_iconst (v := 1) hx hb dX3_isWord_22 (by decide) ?_
        refine lv_goto (tgt := 27) hx hb dX3_isWord_23 (by decide) ?_
        exact W.zret (v := b2i true) (ty := .boolean) hx hb hr (b2i_nar _) (fun t ht hW => ⟨_, rfl, congrArg b2i (hf), ht⟩) (fun q hq => absurd hq List.not_mem_nil) dX3_isWord_27
  · rw [if_neg c1] at hf
    refine lv_iload_n hx hb dX3_isWord_6 rfl (lv_at hl 0 rfl) ?_
    refine lv_bipush (v := 100) hx hb dX3_isWord_7 (by decide) ?_
    refine my_ic_ne (tgt := 28) hx hb dX3_isWord_9 (by decide) (fun c4 => ?_) (fun c4 => ?_)
    · rw [if_neg c4] at hf
      refine lv_iload_n hx hb dX3_isWord_28 rfl (lv_at hl 0 rfl) ?_
      refine lv_bipush (v := 120) hx hb dX3_isWord_29 (by decide) ?_
      refine my_ic_ne (tgt := 52) hx hb dX3_isWord_31 (by decide) (fun c5 => ?_) (fun c5 => ?_)
      · rw [if_neg c5] at hf
        refine lv_iload_n hx hb dX3_isWord_52 rfl (lv_at hl 0 rfl) ?_
        refine lv_bipush (v := 110) hx hb dX3_isWord_53 (by decide) ?_
        refine my_ic_ne (tgt := 66) hx hb dX3_isWord_55 (by decide) (fun c6 => ?_) (fun c6 => ?_)
        · rw [if_neg c6] at hf
          refine lv_iconst (v := 0) hx hb dX3_isWord_66 (by decide) ?_
          exact W.zret (v := b2i false) (ty := .boolean) hx hb hr (b2i_nar _) (fun t ht hW => ⟨_, rfl, congrArg b2i (hf), ht⟩) (fun q hq => absurd hq List.not_mem_nil) dX3_isWord_67
        · rw [if_pos c6] at hf
          refine lv_iload_n hx hb dX3_isWord_58 rfl (lv_at hl 1 rfl) ?_
          refine my_if_ne (tgt := 66) hx hb dX3_isWord_59 (by decide) (fun c7 => ?_) (fun c7 => ?_)
          · rw [if_neg c7] at hf
            refine lv_iconst (v := 0) hx hb dX3_isWord_66 (by decide) ?_
            exact W.zret (v := b2i false) (ty := .boolean) hx hb hr (b2i_nar _) (fun t ht hW => ⟨_, rfl, congrArg b2i (hf), ht⟩) (fun q hq => absurd hq List.not_mem_nil) dX3_isWord_67
          · rw [if_pos c7] at hf
            refine lv_iconst (v := 1) hx hb dX3_isWord_62 (by decide) ?_
            refine lv_goto (tgt := 67) hx hb dX3_isWord_63 (by decide) ?_
            exact W.zret (v := b2i true) (ty := .boolean) hx hb hr (b2i_nar _) (fun t ht hW => ⟨_, rfl, congrArg b2i (hf), ht⟩) (fun q hq => absurd hq List.not_mem_nil) dX3_isWord_67
      · rw [if_pos c5] at hf
        refine lv_iload_n hx hb dX3_isWord_34 rfl (lv_at hl 1 rfl) ?_
        refine lv_bipush (v := (-40)) hx hb dX3_isWord_35 (by decide) ?_
        refine my_ic_lt (tgt := 50) hx hb dX3_isWord_37 (by decide) (fun c8 => ?_) (fun c8 => ?_)
        · rw [if_pos c8] at hf
          refine lv_iconst (v := 0) hx hb dX3_isWord_50 (by decide) ?_
          exact W.zret (v := b2i false) (ty := .boolean) hx hb hr (b2i_nar _) (fun t ht hW => ⟨_, rfl, congrArg b2i (hf), ht⟩) (fun q hq => absurd hq List.not_mem_nil) dX3_isWord_51
        · rw [if_neg c8] at hf
          refine lv_iload_n hx hb dX3_isWord_40 rfl (lv_at hl 1 rfl) ?_
          refine lv_bipush (v := 40) hx hb dX3_isWord_41 (by decide) ?_
          refine my_ic_gt (tgt := 50) hx hb dX3_isWord_43 (by decide) (fun c9 => ?_) (fun c9 => ?_)
          · rw [if_pos c9] at hf
            refine lv_iconst (v := 0) hx hb dX3_isWord_50 (by decide) ?_
            exact W.zret (v := b2i false) (ty := .boolean) hx hb hr (b2i_nar _) (fun t ht hW => ⟨_, rfl, congrArg b2i (hf), ht⟩) (fun q hq => absurd hq List.not_mem_nil) dX3_isWord_51
          · rw [if_neg c9] at hf
            refine lv_iconst (v := 1) hx hb dX3_isWord_46 (by decide) ?_
            refine lv_goto (tgt := 51) hx hb dX3_isWord_47 (by decide) ?_
            exact W.zret (v := b2i true) (ty := .boolean) hx hb hr (b2i_nar _) (fun t ht hW => ⟨_, rfl, congrArg b2i (hf), ht⟩) (fun q hq => absurd hq List.not_mem_nil) dX3_isWord_51
    · rw [if_pos c4] at hf
      refine lv_iload_n hx hb dX3_isWord_12 rfl (lv_at hl 1 rfl) ?_
      refine my_if_lt (tgt := 26) hx hb dX3_isWord_13 (by decide) (fun c10 => ?_) (fun c10 => ?_)
      · rw [if_pos c10] at hf
        refine lv_iconst (v := 0) hx hb dX3_isWord_26 (by decide) ?_
        exact W.zret (v := b2i false) (ty := .boolean) hx hb hr (b2i_nar _) (fun t ht hW => ⟨_, rfl, congrArg b2i (hf), ht⟩) (fun q hq => absurd hq List.not_mem_nil) dX3_isWord_27
      · rw [if_neg c10] at hf
        refine lv_iload_n hx hb dX3_isWord_16 rfl (lv_at hl 1 rfl) ?_
        refine lv_bipush (v := 15) hx hb dX3_isWord_17 (by decide) ?_
        refine my_ic_gt (tgt := 26) hx hb dX3_isWord_19 (by decide) (fun c11 => ?_) (fun c11 => ?_)
        · rw [if_pos c11] at hf
          refine lv_iconst (v := 0) hx hb dX3_isWord_26 (by decide) ?_
          exact W.zret (v := b2i false) (ty := .boolean) hx hb hr (b2i_nar _) (fun t ht hW => ⟨_, rfl, congrArg b2i (hf), ht⟩) (fun q hq => absurd hq List.not_mem_nil) dX3_isWord_27
        · rw [if_neg c11] at hf
          refine lv_iconst (v := 1) hx hb dX3_isWord_22 (by decide) ?_
          refine lv_goto (tgt := 27) hx hb dX3_isWord_23 (by decide) ?_
          exact W.zret (v := b2i true) (ty := .boolean) hx hb hr (b2i_nar _) (fun t ht hW => ⟨_, rfl, congrArg b2i (hf), ht⟩) (fun q hq => absurd hq List.not_mem_nil) dX3_isWord_27

set_option maxHeartbeats 4000000 in
set_option maxRecDepth 100000 in
theorem m_X3_done (l : Launch) (a0 : Int32) (a1 : Int32) (a2 : Int64) (res : Int64) (hf : f_X3_done a0 a1 a2 = res) : Met l yX3_done wsX3_done rmX3_done (my_PcP [.int a0, .int a1, .long a2]) (vp_Sl (fun z => z = res)) 0 0 (fun _ => False) := by
  refine Met.ofW (cc := cX3_done) (maxL := 5) (ret := (some .long)) (by decide) rfl ?_
  intro p e s m args below meth c s₁ B hml hv
  obtain ⟨rfl, -⟩ := hv
  have hx := B.exec
  have hb := B.bytes
  have hr := B.returns
  have hts : ∀ w ∈ wsX3_done, w.before ([.int a0, .int a1, .long a2] : List Value).toArray s = true := atoms_spec (ws := wsX3_done) B.pre
  have hown : s.vm.findClass RX3 = some m.cls := findClass_of_methodNamed B.named
  have hlk : meth.locks = false := B.notSynchronized
  have hl := lv_entry ([.int a0, .int a1, .long a2]) (n := 5) (Nat.le_of_ble_eq_true rfl)
  rw [lg_entry_eq]
  generalize (lg_sl ([.int a0, .int a1, .long a2]) ++ List.replicate (5 - (lg_sl ([.int a0, .int a1, .long a2])).length) Slot.unset).toArray = ls at hl ⊢
  have hl : lv_has ls 5 [(0, .int a0), (1, .int a1), (2, .long a2)] := hl
  unfold f_X3_done at hf
  refine lv_iload_n hx hb dX3_done_0 rfl (lv_at hl 0 rfl) ?_
  refine lv_bipush (v := 110) hx hb dX3_done_1 (by decide) ?_
  refine my_ic_ne (tgt := 11) hx hb dX3_done_3 (by decide) (fun c1 => ?_) (fun c1 => ?_)
  · rw [if_neg c1] at hf
    refine lv_iload_n hx hb dX3_done_11 rfl (lv_at hl 0 rfl) ?_
    refine lv_bipush (v := 120) hx hb dX3_done_12 (by decide) ?_
    refine my_ic_ne (tgt := 23) hx hb dX3_done_14 (by decide) (fun c2 => ?_) (fun c2 => ?_)
    · rw [if_neg c2] at hf
      refine lv_iload_n hx hb dX3_done_23 rfl (lv_at hl 0 rfl) ?_
      refine lv_bipush (v := 117) hx hb dX3_done_24 (by decide) ?_
      refine my_ic_ne (tgt := 33) hx hb dX3_done_26 (by decide) (fun c3 => ?_) (fun c3 => ?_)
      · rw [if_neg c3] at hf
        refine lv_iload_n hx hb dX3_done_33 rfl (lv_at hl 1 rfl) ?_
        refine lv_ineg hx hb dX3_done_34 ?_
        refine lv_istore (lv' := [(4, .int (-a1)), (0, .int a0), (1, .int a1), (2, .long a2)]) hx hb dX3_done_35 hl (by decide) rfl (fun ls hl => ?_)
        refine lv_iload hx hb dX3_done_37 (lv_at hl 0 rfl) ?_
        refine my_if_ge (tgt := 52) hx hb dX3_done_39 (by decide) (fun c4 => ?_) (fun c4 => ?_)
        · rw [if_neg c4] at hf
          refine lv_lload_n hx hb dX3_done_52 rfl (lv_at hl 3 rfl) ?_
          refine lv_iload hx hb dX3_done_53 (lv_at hl 0 rfl) ?_
          refine my_callPl (As := [.long a2, .int (-a1)]) (n := 2) (rest := []) ⟨hx, hb, hml, hown, hts⟩ (m_X0_raised l a2 (-a1) _ rfl) gX3_done_X0_raised rfl ⟨rfl, rfl⟩ (by decide +kernel) ⟨Nat.le_of_ble_eq_true rfl, Nat.le_of_ble_eq_true rfl⟩ ⟨Nat.le_of_ble_eq_true rfl, Nat.le_of_ble_eq_true rfl⟩ hl.1 rfl rfl (Nat.le_of_ble_eq_true rfl) dX3_done_55 ?_
          exact W.lret (v := (f_X0_raised a2 (-a1))) hx hb hr (fun t ht hW => ⟨_, rfl, hf, ht⟩) (fun q hq => absurd hq List.not_mem_nil) dX3_done_58
        · rw [if_pos c4] at hf
          refine lv_lload_n hx hb dX3_done_42 rfl (lv_at hl 3 rfl) ?_
          refine lv_iload hx hb dX3_done_43 (lv_at hl 0 rfl) ?_
          refine lv_ineg hx hb dX3_done_45 ?_
          refine my_callPl (As := [.long a2, .int (-(-a1))]) (n := 2) (rest := []) ⟨hx, hb, hml, hown, hts⟩ (m_X0_lowered l a2 (-(-a1)) _ rfl) gX3_done_X0_lowered rfl ⟨rfl, rfl⟩ (by decide +kernel) ⟨Nat.le_of_ble_eq_true rfl, Nat.le_of_ble_eq_true rfl⟩ ⟨Nat.le_of_ble_eq_true rfl, Nat.le_of_ble_eq_true rfl⟩ hl.1 rfl rfl (Nat.le_of_ble_eq_true rfl) dX3_done_46 ?_
          refine lv_goto (tgt := 58) hx hb dX3_done_49 (by decide) ?_
          exact W.lret (v := (f_X0_lowered a2 (-(-a1)))) hx hb hr (fun t ht hW => ⟨_, rfl, hf, ht⟩) (fun q hq => absurd hq List.not_mem_nil) dX3_done_58
      · rw [if_pos c3] at hf
        refine lv_iload_n hx hb dX3_done_29 rfl (lv_at hl 1 rfl) ?_
        refine lv_goto (tgt := 35) hx hb dX3_done_30 (by decide) ?_
        refine lv_istore (lv' := [(4, .int a1), (0, .int a0), (1, .int a1), (2, .long a2)]) hx hb dX3_done_35 hl (by decide) rfl (fun ls hl => ?_)
        refine lv_iload hx hb dX3_done_37 (lv_at hl 0 rfl) ?_
        refine my_if_ge (tgt := 52) hx hb dX3_done_39 (by decide) (fun c5 => ?_) (fun c5 => ?_)
        · rw [if_neg c5] at hf
          refine lv_lload_n hx hb dX3_done_52 rfl (lv_at hl 3 rfl) ?_
          refine lv_iload hx hb dX3_done_53 (lv_at hl 0 rfl) ?_
          refine my_callPl (As := [.long a2, .int a1]) (n := 2) (rest := []) ⟨hx, hb, hml, hown, hts⟩ (m_X0_raised l a2 a1 _ rfl) gX3_done_X0_raised rfl ⟨rfl, rfl⟩ (by decide +kernel) ⟨Nat.le_of_ble_eq_true rfl, Nat.le_of_ble_eq_true rfl⟩ ⟨Nat.le_of_ble_eq_true rfl, Nat.le_of_ble_eq_true rfl⟩ hl.1 rfl rfl (Nat.le_of_ble_eq_true rfl) dX3_done_55 ?_
          exact W.lret (v := (f_X0_raised a2 a1)) hx hb hr (fun t ht hW => ⟨_, rfl, hf, ht⟩) (fun q hq => absurd hq List.not_mem_nil) dX3_done_58
        · rw [if_pos c5] at hf
          refine lv_lload_n hx hb dX3_done_42 rfl (lv_at hl 3 rfl) ?_
          refine lv_iload hx hb dX3_done_43 (lv_at hl 0 rfl) ?_
          refine lv_ineg hx hb dX3_done_45 ?_
          refine my_callPl (As := [.long a2, .int (-a1)]) (n := 2) (rest := []) ⟨hx, hb, hml, hown, hts⟩ (m_X0_lowered l a2 (-a1) _ rfl) gX3_done_X0_lowered rfl ⟨rfl, rfl⟩ (by decide +kernel) ⟨Nat.le_of_ble_eq_true rfl, Nat.le_of_ble_eq_true rfl⟩ ⟨Nat.le_of_ble_eq_true rfl, Nat.le_of_ble_eq_true rfl⟩ hl.1 rfl rfl (Nat.le_of_ble_eq_true rfl) dX3_done_46 ?_
          refine lv_goto (tgt := 58) hx hb dX3_done_49 (by decide) ?_
          exact W.lret (v := (f_X0_lowered a2 (-a1))) hx hb hr (fun t ht hW => ⟨_, rfl, hf, ht⟩) (fun q hq => absurd hq List.not_mem_nil) dX3_done_58
    · rw [if_pos c2] at hf
      refine lv_lload_n hx hb dX3_done_17 rfl (lv_at hl 2 rfl) ?_
      refine lv_iload_n hx hb dX3_done_18 rfl (lv_at hl 1 rfl) ?_
      refine my_callPl (As := [.long a2, .int a1]) (n := 2) (rest := []) ⟨hx, hb, hml, hown, hts⟩ (m_X0_scaled l a2 a1 _ rfl) gX3_done_X0_scaled rfl ⟨rfl, rfl⟩ (by decide +kernel) ⟨Nat.le_of_ble_eq_true rfl, Nat.le_of_ble_eq_true rfl⟩ ⟨Nat.le_of_ble_eq_true rfl, Nat.le_of_ble_eq_true rfl⟩ hl.1 rfl rfl (Nat.le_of_ble_eq_true rfl) dX3_done_19 ?_
      exact W.lret (v := (f_X0_scaled a2 a1)) hx hb hr (fun t ht hW => ⟨_, rfl, hf, ht⟩) (fun q hq => absurd hq List.not_mem_nil) dX3_done_22
  · rw [if_pos c1] at hf
    refine lv_lload_n hx hb dX3_done_6 rfl (lv_at hl 2 rfl) ?_
    refine my_callPl (As := [.long a2]) (n := 1) (rest := []) ⟨hx, hb, hml, hown, hts⟩ (m_X0_opposite l a2 _ rfl) gX3_done_X0_opposite rfl ⟨rfl, rfl⟩ (by decide +kernel) ⟨Nat.le_of_ble_eq_true rfl, Nat.le_of_ble_eq_true rfl⟩ ⟨Nat.le_of_ble_eq_true rfl, Nat.le_of_ble_eq_true rfl⟩ hl.1 rfl rfl (Nat.le_of_ble_eq_true rfl) dX3_done_7 ?_
    exact W.lret (v := (f_X0_opposite a2)) hx hb hr (fun t ht hW => ⟨_, rfl, hf, ht⟩) (fun q hq => absurd hq List.not_mem_nil) dX3_done_10
