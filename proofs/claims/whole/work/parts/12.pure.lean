def f_X0_placeOf (a0 : Int64) : Int64 := (if a0 < 0 then ((-9223372036854775808) - a0) else a0)
abbrev rmX0_placeOf : Room := { frames := 0, cells := 0, slots := 0, locals := 0 }
set_option maxHeartbeats 4000000 in
set_option maxRecDepth 100000 in
theorem m_X0_placeOf (l : Launch) (a0 : Int64) (res : Int64) (hf : f_X0_placeOf a0 = res) : Met l yX0_placeOf wsX0_placeOf rmX0_placeOf (my_PcP [.long a0]) (vp_Sl (fun z => z = res)) 0 0 (fun _ => False) := by
  refine Met.ofW (cc := cX0_placeOf) (maxL := 2) (ret := (some .long)) (by decide) rfl ?_
  intro p e s m args below meth c s₁ B hml hv
  obtain ⟨rfl, -⟩ := hv
  have hx := B.exec
  have hb := B.bytes
  have hr := B.returns
  have hts : ∀ w ∈ wsX0_placeOf, w.before ([.long a0] : List Value).toArray s = true := atoms_spec (ws := wsX0_placeOf) B.pre
  have hown : s.vm.findClass RX0 = some m.cls := findClass_of_methodNamed B.named
  have hlk : meth.locks = false := B.notSynchronized
  have q1 := hts (.constantLong RX0 9 (-9223372036854775808)) (by decide +kernel)
  have hl := lv_entry ([.long a0]) (n := 2) (Nat.le_of_ble_eq_true rfl)
  rw [lg_entry_eq]
  generalize (lg_sl ([.long a0]) ++ List.replicate (2 - (lg_sl ([.long a0])).length) Slot.unset).toArray = ls at hl ⊢
  have hl : lv_has ls 2 [(0, .long a0)] := hl
  unfold f_X0_placeOf at hf
  refine lv_lload_n hx hb dX0_placeOf_0 rfl (lv_at hl 0 rfl) ?_
  refine lv_lconst (v := 0) hx hb dX0_placeOf_1 (by decide) ?_
  refine my_lc_lt (tgt := 10) hx hb dX0_placeOf_2 dX0_placeOf_3 (by decide) (fun c1 => ?_) (fun c1 => ?_)
  · rw [if_pos c1] at hf
    refine lv_ldc2 (v := (-9223372036854775808)) hx hb hown q1 dX0_placeOf_10 ?_
    refine lv_lload_n hx hb dX0_placeOf_13 rfl (lv_at hl 0 rfl) ?_
    refine lv_lsub hx hb dX0_placeOf_14 ?_
    exact W.lret (v := ((-9223372036854775808) - a0)) hx hb hr (fun t ht hW => ⟨_, rfl, hf, ht⟩) (fun q hq => absurd hq List.not_mem_nil) dX0_placeOf_15
  · rw [if_neg c1] at hf
    refine lv_lload_n hx hb dX0_placeOf_6 rfl (lv_at hl 0 rfl) ?_
    refine lv_goto (tgt := 15) hx hb dX0_placeOf_7 (by decide) ?_
    exact W.lret (v := a0) hx hb hr (fun t ht hW => ⟨_, rfl, hf, ht⟩) (fun q hq => absurd hq List.not_mem_nil) dX0_placeOf_15

def f_X0_atPlace (a0 : Int64) : Int64 := (if a0 < 0 then ((-9223372036854775808) - a0) else a0)
abbrev rmX0_atPlace : Room := { frames := 0, cells := 0, slots := 0, locals := 0 }
set_option maxHeartbeats 4000000 in
set_option maxRecDepth 100000 in
theorem m_X0_atPlace (l : Launch) (a0 : Int64) (res : Int64) (hf : f_X0_atPlace a0 = res) : Met l yX0_atPlace wsX0_atPlace rmX0_atPlace (my_PcP [.long a0]) (vp_Sl (fun z => z = res)) 0 0 (fun _ => False) := by
  refine Met.ofW (cc := cX0_atPlace) (maxL := 2) (ret := (some .long)) (by decide) rfl ?_
  intro p e s m args below meth c s₁ B hml hv
  obtain ⟨rfl, -⟩ := hv
  have hx := B.exec
  have hb := B.bytes
  have hr := B.returns
  have hts : ∀ w ∈ wsX0_atPlace, w.before ([.long a0] : List Value).toArray s = true := atoms_spec (ws := wsX0_atPlace) B.pre
  have hown : s.vm.findClass RX0 = some m.cls := findClass_of_methodNamed B.named
  have hlk : meth.locks = false := B.notSynchronized
  have q1 := hts (.constantLong RX0 9 (-9223372036854775808)) (by decide +kernel)
  have hl := lv_entry ([.long a0]) (n := 2) (Nat.le_of_ble_eq_true rfl)
  rw [lg_entry_eq]
  generalize (lg_sl ([.long a0]) ++ List.replicate (2 - (lg_sl ([.long a0])).length) Slot.unset).toArray = ls at hl ⊢
  have hl : lv_has ls 2 [(0, .long a0)] := hl
  unfold f_X0_atPlace at hf
  refine lv_lload_n hx hb dX0_atPlace_0 rfl (lv_at hl 0 rfl) ?_
  refine lv_lconst (v := 0) hx hb dX0_atPlace_1 (by decide) ?_
  refine my_lc_lt (tgt := 10) hx hb dX0_atPlace_2 dX0_atPlace_3 (by decide) (fun c1 => ?_) (fun c1 => ?_)
  · rw [if_pos c1] at hf
    refine lv_ldc2 (v := (-9223372036854775808)) hx hb hown q1 dX0_atPlace_10 ?_
    refine lv_lload_n hx hb dX0_atPlace_13 rfl (lv_at hl 0 rfl) ?_
    refine lv_lsub hx hb dX0_atPlace_14 ?_
    exact W.lret (v := ((-9223372036854775808) - a0)) hx hb hr (fun t ht hW => ⟨_, rfl, hf, ht⟩) (fun q hq => absurd hq List.not_mem_nil) dX0_atPlace_15
  · rw [if_neg c1] at hf
    refine lv_lload_n hx hb dX0_atPlace_6 rfl (lv_at hl 0 rfl) ?_
    refine lv_goto (tgt := 15) hx hb dX0_atPlace_7 (by decide) ?_
    exact W.lret (v := a0) hx hb hr (fun t ht hW => ⟨_, rfl, hf, ht⟩) (fun q hq => absurd hq List.not_mem_nil) dX0_atPlace_15

def f_X0_opposite (a0 : Int64) : Int64 := (a0 ^^^ (-9223372036854775808))
abbrev rmX0_opposite : Room := { frames := 0, cells := 0, slots := 0, locals := 0 }
set_option maxHeartbeats 4000000 in
set_option maxRecDepth 100000 in
theorem m_X0_opposite (l : Launch) (a0 : Int64) (res : Int64) (hf : f_X0_opposite a0 = res) : Met l yX0_opposite wsX0_opposite rmX0_opposite (my_PcP [.long a0]) (vp_Sl (fun z => z = res)) 0 0 (fun _ => False) := by
  refine Met.ofW (cc := cX0_opposite) (maxL := 2) (ret := (some .long)) (by decide) rfl ?_
  intro p e s m args below meth c s₁ B hml hv
  obtain ⟨rfl, -⟩ := hv
  have hx := B.exec
  have hb := B.bytes
  have hr := B.returns
  have hts : ∀ w ∈ wsX0_opposite, w.before ([.long a0] : List Value).toArray s = true := atoms_spec (ws := wsX0_opposite) B.pre
  have hown : s.vm.findClass RX0 = some m.cls := findClass_of_methodNamed B.named
  have hlk : meth.locks = false := B.notSynchronized
  have q1 := hts (.constantLong RX0 9 (-9223372036854775808)) (by decide +kernel)
  have hl := lv_entry ([.long a0]) (n := 2) (Nat.le_of_ble_eq_true rfl)
  rw [lg_entry_eq]
  generalize (lg_sl ([.long a0]) ++ List.replicate (2 - (lg_sl ([.long a0])).length) Slot.unset).toArray = ls at hl ⊢
  have hl : lv_has ls 2 [(0, .long a0)] := hl
  unfold f_X0_opposite at hf
  refine lv_lload_n hx hb dX0_opposite_0 rfl (lv_at hl 0 rfl) ?_
  refine lv_ldc2 (v := (-9223372036854775808)) hx hb hown q1 dX0_opposite_1 ?_
  refine lv_lxor hx hb dX0_opposite_4 ?_
  exact W.lret (v := (a0 ^^^ (-9223372036854775808))) hx hb hr (fun t ht hW => ⟨_, rfl, hf, ht⟩) (fun q hq => absurd hq List.not_mem_nil) dX0_opposite_5

def f_X0_sizeOf (a0 : Int64) : Int64 := (a0 &&& 9223372036854775807)
abbrev rmX0_sizeOf : Room := { frames := 0, cells := 0, slots := 0, locals := 0 }
set_option maxHeartbeats 4000000 in
set_option maxRecDepth 100000 in
theorem m_X0_sizeOf (l : Launch) (a0 : Int64) (res : Int64) (hf : f_X0_sizeOf a0 = res) : Met l yX0_sizeOf wsX0_sizeOf rmX0_sizeOf (my_PcP [.long a0]) (vp_Sl (fun z => z = res)) 0 0 (fun _ => False) := by
  refine Met.ofW (cc := cX0_sizeOf) (maxL := 2) (ret := (some .long)) (by decide) rfl ?_
  intro p e s m args below meth c s₁ B hml hv
  obtain ⟨rfl, -⟩ := hv
  have hx := B.exec
  have hb := B.bytes
  have hr := B.returns
  have hts : ∀ w ∈ wsX0_sizeOf, w.before ([.long a0] : List Value).toArray s = true := atoms_spec (ws := wsX0_sizeOf) B.pre
  have hown : s.vm.findClass RX0 = some m.cls := findClass_of_methodNamed B.named
  have hlk : meth.locks = false := B.notSynchronized
  have q1 := hts (.constantLong RX0 11 (9223372036854775807)) (by decide +kernel)
  have hl := lv_entry ([.long a0]) (n := 2) (Nat.le_of_ble_eq_true rfl)
  rw [lg_entry_eq]
  generalize (lg_sl ([.long a0]) ++ List.replicate (2 - (lg_sl ([.long a0])).length) Slot.unset).toArray = ls at hl ⊢
  have hl : lv_has ls 2 [(0, .long a0)] := hl
  unfold f_X0_sizeOf at hf
  refine lv_lload_n hx hb dX0_sizeOf_0 rfl (lv_at hl 0 rfl) ?_
  refine lv_ldc2 (v := 9223372036854775807) hx hb hown q1 dX0_sizeOf_1 ?_
  refine lv_land hx hb dX0_sizeOf_4 ?_
  exact W.lret (v := (a0 &&& 9223372036854775807)) hx hb hr (fun t ht hW => ⟨_, rfl, hf, ht⟩) (fun q hq => absurd hq List.not_mem_nil) dX0_sizeOf_5

def f_X0_isZero (a0 : Int64) : Bool := (if (f_X0_sizeOf a0) = 0 then true else false)
abbrev rmX0_isZero : Room := { frames := 1, cells := 0, slots := 0, locals := 21 }
set_option maxHeartbeats 4000000 in
set_option maxRecDepth 100000 in
theorem m_X0_isZero (l : Launch) (a0 : Int64) (res : Bool) (hf : f_X0_isZero a0 = res) : Met l yX0_isZero wsX0_isZero rmX0_isZero (my_PcP [.long a0]) (vp_Si (fun z => z = b2i res)) 0 0 (fun _ => False) := by
  refine Met.ofW (cc := cX0_isZero) (maxL := 2) (ret := (some .boolean)) (by decide) rfl ?_
  intro p e s m args below meth c s₁ B hml hv
  obtain ⟨rfl, -⟩ := hv
  have hx := B.exec
  have hb := B.bytes
  have hr := B.returns
  have hts : ∀ w ∈ wsX0_isZero, w.before ([.long a0] : List Value).toArray s = true := atoms_spec (ws := wsX0_isZero) B.pre
  have hown : s.vm.findClass RX0 = some m.cls := findClass_of_methodNamed B.named
  have hlk : meth.locks = false := B.notSynchronized
  have hl := lv_entry ([.long a0]) (n := 2) (Nat.le_of_ble_eq_true rfl)
  rw [lg_entry_eq]
  generalize (lg_sl ([.long a0]) ++ List.replicate (2 - (lg_sl ([.long a0])).length) Slot.unset).toArray = ls at hl ⊢
  have hl : lv_has ls 2 [(0, .long a0)] := hl
  unfold f_X0_isZero at hf
  refine lv_lload_n hx hb dX0_isZero_0 rfl (lv_at hl 0 rfl) ?_
  refine my_callPl (As := [.long a0]) (rest := []) ⟨hx, hb, hml, hown, hts⟩ (m_X0_sizeOf l a0 _ rfl) gX0_isZero_X0_sizeOf rfl ⟨rfl, rfl⟩ (by decide +kernel) ⟨Nat.le_of_ble_eq_true rfl, Nat.le_of_ble_eq_true rfl⟩ ⟨Nat.le_of_ble_eq_true rfl, Nat.le_of_ble_eq_true rfl⟩ hl.1 rfl rfl (Nat.le_of_ble_eq_true rfl) dX0_isZero_1 ?_
  refine lv_lconst (v := 0) hx hb dX0_isZero_4 (by decide) ?_
  refine my_lc_ne (tgt := 13) hx hb dX0_isZero_5 dX0_isZero_6 (by decide) (fun c1 => ?_) (fun c1 => ?_)
  · rw [if_neg c1] at hf
    refine lv_iconst (v := 0) hx hb dX0_isZero_13 (by decide) ?_
    exact W.zret (v := b2i false) (ty := .boolean) hx hb hr (b2i_nar _) (fun t ht hW => ⟨_, rfl, congrArg b2i (hf), ht⟩) (fun q hq => absurd hq List.not_mem_nil) dX0_isZero_14
  · rw [if_pos c1] at hf
    refine lv_iconst (v := 1) hx hb dX0_isZero_9 (by decide) ?_
    refine lv_goto (tgt := 14) hx hb dX0_isZero_10 (by decide) ?_
    exact W.zret (v := b2i true) (ty := .boolean) hx hb hr (b2i_nar _) (fun t ht hW => ⟨_, rfl, congrArg b2i (hf), ht⟩) (fun q hq => absurd hq List.not_mem_nil) dX0_isZero_14

def f_X0_hasNoEnd (a0 : Int64) : Bool := (if (f_X0_sizeOf a0) = 9218868437227405312 then true else false)
abbrev rmX0_hasNoEnd : Room := { frames := 1, cells := 0, slots := 0, locals := 21 }
set_option maxHeartbeats 4000000 in
set_option maxRecDepth 100000 in
theorem m_X0_hasNoEnd (l : Launch) (a0 : Int64) (res : Bool) (hf : f_X0_hasNoEnd a0 = res) : Met l yX0_hasNoEnd wsX0_hasNoEnd rmX0_hasNoEnd (my_PcP [.long a0]) (vp_Si (fun z => z = b2i res)) 0 0 (fun _ => False) := by
  refine Met.ofW (cc := cX0_hasNoEnd) (maxL := 2) (ret := (some .boolean)) (by decide) rfl ?_
  intro p e s m args below meth c s₁ B hml hv
  obtain ⟨rfl, -⟩ := hv
  have hx := B.exec
  have hb := B.bytes
  have hr := B.returns
  have hts : ∀ w ∈ wsX0_hasNoEnd, w.before ([.long a0] : List Value).toArray s = true := atoms_spec (ws := wsX0_hasNoEnd) B.pre
  have hown : s.vm.findClass RX0 = some m.cls := findClass_of_methodNamed B.named
  have hlk : meth.locks = false := B.notSynchronized
  have q1 := hts (.constantLong RX0 17 (9218868437227405312)) (by decide +kernel)
  have hl := lv_entry ([.long a0]) (n := 2) (Nat.le_of_ble_eq_true rfl)
  rw [lg_entry_eq]
  generalize (lg_sl ([.long a0]) ++ List.replicate (2 - (lg_sl ([.long a0])).length) Slot.unset).toArray = ls at hl ⊢
  have hl : lv_has ls 2 [(0, .long a0)] := hl
  unfold f_X0_hasNoEnd at hf
  refine lv_lload_n hx hb dX0_hasNoEnd_0 rfl (lv_at hl 0 rfl) ?_
  refine my_callPl (As := [.long a0]) (rest := []) ⟨hx, hb, hml, hown, hts⟩ (m_X0_sizeOf l a0 _ rfl) gX0_hasNoEnd_X0_sizeOf rfl ⟨rfl, rfl⟩ (by decide +kernel) ⟨Nat.le_of_ble_eq_true rfl, Nat.le_of_ble_eq_true rfl⟩ ⟨Nat.le_of_ble_eq_true rfl, Nat.le_of_ble_eq_true rfl⟩ hl.1 rfl rfl (Nat.le_of_ble_eq_true rfl) dX0_hasNoEnd_1 ?_
  refine lv_ldc2 (v := 9218868437227405312) hx hb hown q1 dX0_hasNoEnd_4 ?_
  refine my_lc_ne (tgt := 15) hx hb dX0_hasNoEnd_7 dX0_hasNoEnd_8 (by decide) (fun c1 => ?_) (fun c1 => ?_)
  · rw [if_neg c1] at hf
    refine lv_iconst (v := 0) hx hb dX0_hasNoEnd_15 (by decide) ?_
    exact W.zret (v := b2i false) (ty := .boolean) hx hb hr (b2i_nar _) (fun t ht hW => ⟨_, rfl, congrArg b2i (hf), ht⟩) (fun q hq => absurd hq List.not_mem_nil) dX0_hasNoEnd_16
  · rw [if_pos c1] at hf
    refine lv_iconst (v := 1) hx hb dX0_hasNoEnd_11 (by decide) ?_
    refine lv_goto (tgt := 16) hx hb dX0_hasNoEnd_12 (by decide) ?_
    exact W.zret (v := b2i true) (ty := .boolean) hx hb hr (b2i_nar _) (fun t ht hW => ⟨_, rfl, congrArg b2i (hf), ht⟩) (fun q hq => absurd hq List.not_mem_nil) dX0_hasNoEnd_16

def f_X0_exponentBits (a0 : Int64) : Int32 := (((jshr a0 52).toInt32) &&& 2047)
abbrev rmX0_exponentBits : Room := { frames := 0, cells := 0, slots := 0, locals := 0 }
set_option maxHeartbeats 4000000 in
set_option maxRecDepth 100000 in
theorem m_X0_exponentBits (l : Launch) (a0 : Int64) (res : Int32) (hf : f_X0_exponentBits a0 = res) : Met l yX0_exponentBits wsX0_exponentBits rmX0_exponentBits (my_PcP [.long a0]) (vp_Si (fun z => z = res)) 0 0 (fun _ => False) := by
  refine Met.ofW (cc := cX0_exponentBits) (maxL := 2) (ret := (some .int)) (by decide) rfl ?_
  intro p e s m args below meth c s₁ B hml hv
  obtain ⟨rfl, -⟩ := hv
  have hx := B.exec
  have hb := B.bytes
  have hr := B.returns
  have hts : ∀ w ∈ wsX0_exponentBits, w.before ([.long a0] : List Value).toArray s = true := atoms_spec (ws := wsX0_exponentBits) B.pre
  have hown : s.vm.findClass RX0 = some m.cls := findClass_of_methodNamed B.named
  have hlk : meth.locks = false := B.notSynchronized
  have hl := lv_entry ([.long a0]) (n := 2) (Nat.le_of_ble_eq_true rfl)
  rw [lg_entry_eq]
  generalize (lg_sl ([.long a0]) ++ List.replicate (2 - (lg_sl ([.long a0])).length) Slot.unset).toArray = ls at hl ⊢
  have hl : lv_has ls 2 [(0, .long a0)] := hl
  unfold f_X0_exponentBits at hf
  refine lv_lload_n hx hb dX0_exponentBits_0 rfl (lv_at hl 0 rfl) ?_
  refine lv_bipush (v := 52) hx hb dX0_exponentBits_1 (by decide) ?_
  refine lv_lshr (v := (jshr a0 52)) hx hb dX0_exponentBits_3 rfl ?_
  refine lv_l2i (v := ((jshr a0 52).toInt32)) hx hb dX0_exponentBits_4 rfl ?_
  refine lv_sipush (v := 2047) hx hb dX0_exponentBits_5 (by decide) ?_
  refine lv_iand hx hb dX0_exponentBits_8 ?_
  exact W.iret (v := (((jshr a0 52).toInt32) &&& 2047)) hx hb hr (fun t ht hW => ⟨_, rfl, hf, ht⟩) (fun q hq => absurd hq List.not_mem_nil) dX0_exponentBits_9

def f_X0_whole (a0 : Int64) : Int64 := (if (f_X0_exponentBits a0) = 0 then (a0 &&& 4503599627370495) else ((a0 &&& 4503599627370495) ||| 4503599627370496))
abbrev rmX0_whole : Room := { frames := 1, cells := 0, slots := 0, locals := 21 }
set_option maxHeartbeats 4000000 in
set_option maxRecDepth 100000 in
theorem m_X0_whole (l : Launch) (a0 : Int64) (res : Int64) (hf : f_X0_whole a0 = res) : Met l yX0_whole wsX0_whole rmX0_whole (my_PcP [.long a0]) (vp_Sl (fun z => z = res)) 0 0 (fun _ => False) := by
  refine Met.ofW (cc := cX0_whole) (maxL := 4) (ret := (some .long)) (by decide) rfl ?_
  intro p e s m args below meth c s₁ B hml hv
  obtain ⟨rfl, -⟩ := hv
  have hx := B.exec
  have hb := B.bytes
  have hr := B.returns
  have hts : ∀ w ∈ wsX0_whole, w.before ([.long a0] : List Value).toArray s = true := atoms_spec (ws := wsX0_whole) B.pre
  have hown : s.vm.findClass RX0 = some m.cls := findClass_of_methodNamed B.named
  have hlk : meth.locks = false := B.notSynchronized
  have q1 := hts (.constantLong RX0 86 (4503599627370495)) (by decide +kernel)
  have q2 := hts (.constantLong RX0 88 (4503599627370496)) (by decide +kernel)
  have hl := lv_entry ([.long a0]) (n := 4) (Nat.le_of_ble_eq_true rfl)
  rw [lg_entry_eq]
  generalize (lg_sl ([.long a0]) ++ List.replicate (4 - (lg_sl ([.long a0])).length) Slot.unset).toArray = ls at hl ⊢
  have hl : lv_has ls 4 [(0, .long a0)] := hl
  unfold f_X0_whole at hf
  refine lv_lload_n hx hb dX0_whole_0 rfl (lv_at hl 0 rfl) ?_
  refine lv_ldc2 (v := 4503599627370495) hx hb hown q1 dX0_whole_1 ?_
  refine lv_land hx hb dX0_whole_4 ?_
  refine lv_lstore_n (lv' := [(2, .long (a0 &&& 4503599627370495)), (0, .long a0)]) hx hb dX0_whole_5 rfl hl (by decide) rfl (fun ls hl => ?_)
  refine lv_lload_n hx hb dX0_whole_6 rfl (lv_at hl 1 rfl) ?_
  refine my_callPi (As := [.long a0]) (rest := []) ⟨hx, hb, hml, hown, hts⟩ (m_X0_exponentBits l a0 _ rfl) gX0_whole_X0_exponentBits rfl ⟨rfl, rfl⟩ (by decide +kernel) ⟨Nat.le_of_ble_eq_true rfl, Nat.le_of_ble_eq_true rfl⟩ ⟨Nat.le_of_ble_eq_true rfl, Nat.le_of_ble_eq_true rfl⟩ hl.1 rfl rfl (Nat.le_of_ble_eq_true rfl) dX0_whole_7 ?_
  refine my_if_ne (tgt := 17) hx hb dX0_whole_10 (by decide) (fun c1 => ?_) (fun c1 => ?_)
  · rw [if_neg c1] at hf
    refine lv_lload_n hx hb dX0_whole_17 rfl (lv_at hl 0 rfl) ?_
    refine lv_ldc2 (v := 4503599627370496) hx hb hown q2 dX0_whole_18 ?_
    refine lv_lor hx hb dX0_whole_21 ?_
    exact W.lret (v := ((a0 &&& 4503599627370495) ||| 4503599627370496)) hx hb hr (fun t ht hW => ⟨_, rfl, hf, ht⟩) (fun q hq => absurd hq List.not_mem_nil) dX0_whole_22
  · rw [if_pos c1] at hf
    refine lv_lload_n hx hb dX0_whole_13 rfl (lv_at hl 0 rfl) ?_
    refine lv_goto (tgt := 22) hx hb dX0_whole_14 (by decide) ?_
    exact W.lret (v := (a0 &&& 4503599627370495)) hx hb hr (fun t ht hW => ⟨_, rfl, hf, ht⟩) (fun q hq => absurd hq List.not_mem_nil) dX0_whole_22

def f_J6_numberOfTrailingZeros_0f7a4 (a0 : Int32) : Int32 := (if 0 < ((a0 ^^^ (-1)) &&& (a0 - 1)) then (if 65536 < ((a0 ^^^ (-1)) &&& (a0 - 1)) then (if 256 < (jiushr ((a0 ^^^ (-1)) &&& (a0 - 1)) 16) then (if 16 < (jiushr (jiushr ((a0 ^^^ (-1)) &&& (a0 - 1)) 16) 8) then (if 4 < (jiushr (jiushr (jiushr ((a0 ^^^ (-1)) &&& (a0 - 1)) 16) 8) 4) then (((((1 + 16) + 8) + 4) + 2) + (jiushr (jiushr (jiushr (jiushr (jiushr ((a0 ^^^ (-1)) &&& (a0 - 1)) 16) 8) 4) 2) 1)) else ((((1 + 16) + 8) + 4) + (jiushr (jiushr (jiushr (jiushr ((a0 ^^^ (-1)) &&& (a0 - 1)) 16) 8) 4) 1))) else (if 4 < (jiushr (jiushr ((a0 ^^^ (-1)) &&& (a0 - 1)) 16) 8) then ((((1 + 16) + 8) + 2) + (jiushr (jiushr (jiushr (jiushr ((a0 ^^^ (-1)) &&& (a0 - 1)) 16) 8) 2) 1)) else (((1 + 16) + 8) + (jiushr (jiushr (jiushr ((a0 ^^^ (-1)) &&& (a0 - 1)) 16) 8) 1)))) else (if 16 < (jiushr ((a0 ^^^ (-1)) &&& (a0 - 1)) 16) then (if 4 < (jiushr (jiushr ((a0 ^^^ (-1)) &&& (a0 - 1)) 16) 4) then ((((1 + 16) + 4) + 2) + (jiushr (jiushr (jiushr (jiushr ((a0 ^^^ (-1)) &&& (a0 - 1)) 16) 4) 2) 1)) else (((1 + 16) + 4) + (jiushr (jiushr (jiushr ((a0 ^^^ (-1)) &&& (a0 - 1)) 16) 4) 1))) else (if 4 < (jiushr ((a0 ^^^ (-1)) &&& (a0 - 1)) 16) then (((1 + 16) + 2) + (jiushr (jiushr (jiushr ((a0 ^^^ (-1)) &&& (a0 - 1)) 16) 2) 1)) else ((1 + 16) + (jiushr (jiushr ((a0 ^^^ (-1)) &&& (a0 - 1)) 16) 1))))) else (if 256 < ((a0 ^^^ (-1)) &&& (a0 - 1)) then (if 16 < (jiushr ((a0 ^^^ (-1)) &&& (a0 - 1)) 8) then (if 4 < (jiushr (jiushr ((a0 ^^^ (-1)) &&& (a0 - 1)) 8) 4) then ((((1 + 8) + 4) + 2) + (jiushr (jiushr (jiushr (jiushr ((a0 ^^^ (-1)) &&& (a0 - 1)) 8) 4) 2) 1)) else (((1 + 8) + 4) + (jiushr (jiushr (jiushr ((a0 ^^^ (-1)) &&& (a0 - 1)) 8) 4) 1))) else (if 4 < (jiushr ((a0 ^^^ (-1)) &&& (a0 - 1)) 8) then (((1 + 8) + 2) + (jiushr (jiushr (jiushr ((a0 ^^^ (-1)) &&& (a0 - 1)) 8) 2) 1)) else ((1 + 8) + (jiushr (jiushr ((a0 ^^^ (-1)) &&& (a0 - 1)) 8) 1)))) else (if 16 < ((a0 ^^^ (-1)) &&& (a0 - 1)) then (if 4 < (jiushr ((a0 ^^^ (-1)) &&& (a0 - 1)) 4) then (((1 + 4) + 2) + (jiushr (jiushr (jiushr ((a0 ^^^ (-1)) &&& (a0 - 1)) 4) 2) 1)) else ((1 + 4) + (jiushr (jiushr ((a0 ^^^ (-1)) &&& (a0 - 1)) 4) 1))) else (if 4 < ((a0 ^^^ (-1)) &&& (a0 - 1)) then ((1 + 2) + (jiushr (jiushr ((a0 ^^^ (-1)) &&& (a0 - 1)) 2) 1)) else (1 + (jiushr ((a0 ^^^ (-1)) &&& (a0 - 1)) 1)))))) else (((a0 ^^^ (-1)) &&& (a0 - 1)) &&& 32))
abbrev rmJ6_numberOfTrailingZeros_0f7a4 : Room := { frames := 0, cells := 0, slots := 0, locals := 0 }
set_option maxHeartbeats 4000000 in
set_option maxRecDepth 100000 in
theorem m_J6_numberOfTrailingZeros_0f7a4 (l : Launch) (a0 : Int32) (res : Int32) (hf : f_J6_numberOfTrailingZeros_0f7a4 a0 = res) : Met l yJ6_numberOfTrailingZeros_0f7a4 wsJ6_numberOfTrailingZeros_0f7a4 rmJ6_numberOfTrailingZeros_0f7a4 (my_PcP [.int a0]) (vp_Si (fun z => z = res)) 0 0 (fun _ => False) := by
  refine Met.ofW (cc := cJ6_numberOfTrailingZeros_0f7a4) (maxL := 2) (ret := (some .int)) (by decide) rfl ?_
  intro p e s m args below meth c s₁ B hml hv
  obtain ⟨rfl, -⟩ := hv
  have hx := B.exec
  have hb := B.bytes
  have hr := B.returns
  have hts : ∀ w ∈ wsJ6_numberOfTrailingZeros_0f7a4, w.before ([.int a0] : List Value).toArray s = true := atoms_spec (ws := wsJ6_numberOfTrailingZeros_0f7a4) B.pre
  have hown : s.vm.findClass RJ6 = some m.cls := findClass_of_methodNamed B.named
  have hlk : meth.locks = false := B.notSynchronized
  have q1 := hts (.constant RJ6 264 (65536)) (by decide +kernel)
  have hl := lv_entry ([.int a0]) (n := 2) (Nat.le_of_ble_eq_true rfl)
  rw [lg_entry_eq]
  generalize (lg_sl ([.int a0]) ++ List.replicate (2 - (lg_sl ([.int a0])).length) Slot.unset).toArray = ls at hl ⊢
  have hl : lv_has ls 2 [(0, .int a0)] := hl
  unfold f_J6_numberOfTrailingZeros_0f7a4 at hf
  refine lv_iload_n hx hb dJ6_numberOfTrailingZeros_0f7a4_0 rfl (lv_at hl 0 rfl) ?_
  refine lv_iconst (v := (-1)) hx hb dJ6_numberOfTrailingZeros_0f7a4_1 (by decide) ?_
  refine lv_ixor hx hb dJ6_numberOfTrailingZeros_0f7a4_2 ?_
  refine lv_iload_n hx hb dJ6_numberOfTrailingZeros_0f7a4_3 rfl (lv_at hl 0 rfl) ?_
  refine lv_iconst (v := 1) hx hb dJ6_numberOfTrailingZeros_0f7a4_4 (by decide) ?_
  refine lv_isub hx hb dJ6_numberOfTrailingZeros_0f7a4_5 ?_
  refine lv_iand hx hb dJ6_numberOfTrailingZeros_0f7a4_6 ?_
  refine lv_istore_n (lv' := [(0, .int ((a0 ^^^ (-1)) &&& (a0 - 1)))]) hx hb dJ6_numberOfTrailingZeros_0f7a4_7 rfl hl (by decide) rfl (fun ls hl => ?_)
  refine lv_iload_n hx hb dJ6_numberOfTrailingZeros_0f7a4_8 rfl (lv_at hl 0 rfl) ?_
  refine my_if_gt (tgt := 17) hx hb dJ6_numberOfTrailingZeros_0f7a4_9 (by decide) (fun c1 => ?_) (fun c1 => ?_)
  · rw [if_pos c1] at hf
    refine lv_iconst (v := 1) hx hb dJ6_numberOfTrailingZeros_0f7a4_17 (by decide) ?_
    refine lv_istore_n (lv' := [(1, .int 1), (0, .int ((a0 ^^^ (-1)) &&& (a0 - 1)))]) hx hb dJ6_numberOfTrailingZeros_0f7a4_18 rfl hl (by decide) rfl (fun ls hl => ?_)
    refine lv_iload_n hx hb dJ6_numberOfTrailingZeros_0f7a4_19 rfl (lv_at hl 1 rfl) ?_
    refine lv_ldcw (v := 65536) hx hb hown q1 dJ6_numberOfTrailingZeros_0f7a4_20 ?_
    refine my_ic_le (tgt := 34) hx hb dJ6_numberOfTrailingZeros_0f7a4_23 (by decide) (fun c2 => ?_) (fun c2 => ?_)
    · rw [if_neg c2] at hf
      refine lv_iload_n hx hb dJ6_numberOfTrailingZeros_0f7a4_34 rfl (lv_at hl 1 rfl) ?_
      refine lv_sipush (v := 256) hx hb dJ6_numberOfTrailingZeros_0f7a4_35 (by decide) ?_
      refine my_ic_le (tgt := 49) hx hb dJ6_numberOfTrailingZeros_0f7a4_38 (by decide) (fun c3 => ?_) (fun c3 => ?_)
      · rw [if_neg c3] at hf
        refine lv_iload_n hx hb dJ6_numberOfTrailingZeros_0f7a4_49 rfl (lv_at hl 1 rfl) ?_
        refine lv_bipush (v := 16) hx hb dJ6_numberOfTrailingZeros_0f7a4_50 (by decide) ?_
        refine my_ic_le (tgt := 62) hx hb dJ6_numberOfTrailingZeros_0f7a4_52 (by decide) (fun c4 => ?_) (fun c4 => ?_)
        · rw [if_neg c4] at hf
          refine lv_iload_n hx hb dJ6_numberOfTrailingZeros_0f7a4_62 rfl (lv_at hl 1 rfl) ?_
          refine lv_iconst (v := 4) hx hb dJ6_numberOfTrailingZeros_0f7a4_63 (by decide) ?_
          refine my_ic_le (tgt := 74) hx hb dJ6_numberOfTrailingZeros_0f7a4_64 (by decide) (fun c5 => ?_) (fun c5 => ?_)
          · rw [if_neg c5] at hf
            refine lv_iload_n hx hb dJ6_numberOfTrailingZeros_0f7a4_74 rfl (lv_at hl 0 rfl) ?_
            refine lv_iload_n hx hb dJ6_numberOfTrailingZeros_0f7a4_75 rfl (lv_at hl 1 rfl) ?_
            refine lv_iconst (v := 1) hx hb dJ6_numberOfTrailingZeros_0f7a4_76 (by decide) ?_
            refine lv_iushr (v := (jiushr ((a0 ^^^ (-1)) &&& (a0 - 1)) 1)) hx hb dJ6_numberOfTrailingZeros_0f7a4_77 rfl ?_
            refine lv_iadd hx hb dJ6_numberOfTrailingZeros_0f7a4_78 ?_
            exact W.iret (v := (1 + (jiushr ((a0 ^^^ (-1)) &&& (a0 - 1)) 1))) hx hb hr (fun t ht hW => ⟨_, rfl, hf, ht⟩) (fun q hq => absurd hq List.not_mem_nil) dJ6_numberOfTrailingZeros_0f7a4_79
          · rw [if_pos c5] at hf
            refine lv_iinc (v := (1 + 2)) (lv' := [(1, .int (1 + 2)), (0, .int ((a0 ^^^ (-1)) &&& (a0 - 1)))]) hx hb dJ6_numberOfTrailingZeros_0f7a4_67 hl (k := 0) rfl rfl (by decide) rfl (fun ls hl => ?_)
            refine lv_iload_n hx hb dJ6_numberOfTrailingZeros_0f7a4_70 rfl (lv_at hl 1 rfl) ?_
            refine lv_iconst (v := 2) hx hb dJ6_numberOfTrailingZeros_0f7a4_71 (by decide) ?_
            refine lv_iushr (v := (jiushr ((a0 ^^^ (-1)) &&& (a0 - 1)) 2)) hx hb dJ6_numberOfTrailingZeros_0f7a4_72 rfl ?_
            refine lv_istore_n (lv' := [(0, .int (jiushr ((a0 ^^^ (-1)) &&& (a0 - 1)) 2)), (1, .int (1 + 2))]) hx hb dJ6_numberOfTrailingZeros_0f7a4_73 rfl hl (by decide) rfl (fun ls hl => ?_)
            refine lv_iload_n hx hb dJ6_numberOfTrailingZeros_0f7a4_74 rfl (lv_at hl 1 rfl) ?_
            refine lv_iload_n hx hb dJ6_numberOfTrailingZeros_0f7a4_75 rfl (lv_at hl 0 rfl) ?_
            refine lv_iconst (v := 1) hx hb dJ6_numberOfTrailingZeros_0f7a4_76 (by decide) ?_
            refine lv_iushr (v := (jiushr (jiushr ((a0 ^^^ (-1)) &&& (a0 - 1)) 2) 1)) hx hb dJ6_numberOfTrailingZeros_0f7a4_77 rfl ?_
            refine lv_iadd hx hb dJ6_numberOfTrailingZeros_0f7a4_78 ?_
            exact W.iret (v := ((1 + 2) + (jiushr (jiushr ((a0 ^^^ (-1)) &&& (a0 - 1)) 2) 1))) hx hb hr (fun t ht hW => ⟨_, rfl, hf, ht⟩) (fun q hq => absurd hq List.not_mem_nil) dJ6_numberOfTrailingZeros_0f7a4_79
        · rw [if_pos c4] at hf
          refine lv_iinc (v := (1 + 4)) (lv' := [(1, .int (1 + 4)), (0, .int ((a0 ^^^ (-1)) &&& (a0 - 1)))]) hx hb dJ6_numberOfTrailingZeros_0f7a4_55 hl (k := 0) rfl rfl (by decide) rfl (fun ls hl => ?_)
          refine lv_iload_n hx hb dJ6_numberOfTrailingZeros_0f7a4_58 rfl (lv_at hl 1 rfl) ?_
          refine lv_iconst (v := 4) hx hb dJ6_numberOfTrailingZeros_0f7a4_59 (by decide) ?_
          refine lv_iushr (v := (jiushr ((a0 ^^^ (-1)) &&& (a0 - 1)) 4)) hx hb dJ6_numberOfTrailingZeros_0f7a4_60 rfl ?_
          refine lv_istore_n (lv' := [(0, .int (jiushr ((a0 ^^^ (-1)) &&& (a0 - 1)) 4)), (1, .int (1 + 4))]) hx hb dJ6_numberOfTrailingZeros_0f7a4_61 rfl hl (by decide) rfl (fun ls hl => ?_)
          refine lv_iload_n hx hb dJ6_numberOfTrailingZeros_0f7a4_62 rfl (lv_at hl 0 rfl) ?_
          refine lv_iconst (v := 4) hx hb dJ6_numberOfTrailingZeros_0f7a4_63 (by decide) ?_
          refine my_ic_le (tgt := 74) hx hb dJ6_numberOfTrailingZeros_0f7a4_64 (by decide) (fun c6 => ?_) (fun c6 => ?_)
          · rw [if_neg c6] at hf
            refine lv_iload_n hx hb dJ6_numberOfTrailingZeros_0f7a4_74 rfl (lv_at hl 1 rfl) ?_
            refine lv_iload_n hx hb dJ6_numberOfTrailingZeros_0f7a4_75 rfl (lv_at hl 0 rfl) ?_
            refine lv_iconst (v := 1) hx hb dJ6_numberOfTrailingZeros_0f7a4_76 (by decide) ?_
            refine lv_iushr (v := (jiushr (jiushr ((a0 ^^^ (-1)) &&& (a0 - 1)) 4) 1)) hx hb dJ6_numberOfTrailingZeros_0f7a4_77 rfl ?_
            refine lv_iadd hx hb dJ6_numberOfTrailingZeros_0f7a4_78 ?_
            exact W.iret (v := ((1 + 4) + (jiushr (jiushr ((a0 ^^^ (-1)) &&& (a0 - 1)) 4) 1))) hx hb hr (fun t ht hW => ⟨_, rfl, hf, ht⟩) (fun q hq => absurd hq List.not_mem_nil) dJ6_numberOfTrailingZeros_0f7a4_79
          · rw [if_pos c6] at hf
            refine lv_iinc (v := ((1 + 4) + 2)) (lv' := [(1, .int ((1 + 4) + 2)), (0, .int (jiushr ((a0 ^^^ (-1)) &&& (a0 - 1)) 4))]) hx hb dJ6_numberOfTrailingZeros_0f7a4_67 hl (k := 1) rfl rfl (by decide) rfl (fun ls hl => ?_)
            refine lv_iload_n hx hb dJ6_numberOfTrailingZeros_0f7a4_70 rfl (lv_at hl 1 rfl) ?_
            refine lv_iconst (v := 2) hx hb dJ6_numberOfTrailingZeros_0f7a4_71 (by decide) ?_
            refine lv_iushr (v := (jiushr (jiushr ((a0 ^^^ (-1)) &&& (a0 - 1)) 4) 2)) hx hb dJ6_numberOfTrailingZeros_0f7a4_72 rfl ?_
            refine lv_istore_n (lv' := [(0, .int (jiushr (jiushr ((a0 ^^^ (-1)) &&& (a0 - 1)) 4) 2)), (1, .int ((1 + 4) + 2))]) hx hb dJ6_numberOfTrailingZeros_0f7a4_73 rfl hl (by decide) rfl (fun ls hl => ?_)
            refine lv_iload_n hx hb dJ6_numberOfTrailingZeros_0f7a4_74 rfl (lv_at hl 1 rfl) ?_
            refine lv_iload_n hx hb dJ6_numberOfTrailingZeros_0f7a4_75 rfl (lv_at hl 0 rfl) ?_
            refine lv_iconst (v := 1) hx hb dJ6_numberOfTrailingZeros_0f7a4_76 (by decide) ?_
            refine lv_iushr (v := (jiushr (jiushr (jiushr ((a0 ^^^ (-1)) &&& (a0 - 1)) 4) 2) 1)) hx hb dJ6_numberOfTrailingZeros_0f7a4_77 rfl ?_
            refine lv_iadd hx hb dJ6_numberOfTrailingZeros_0f7a4_78 ?_
            exact W.iret (v := (((1 + 4) + 2) + (jiushr (jiushr (jiushr ((a0 ^^^ (-1)) &&& (a0 - 1)) 4) 2) 1))) hx hb hr (fun t ht hW => ⟨_, rfl, hf, ht⟩) (fun q hq => absurd hq List.not_mem_nil) dJ6_numberOfTrailingZeros_0f7a4_79
      · rw [if_pos c3] at hf
        refine lv_iinc (v := (1 + 8)) (lv' := [(1, .int (1 + 8)), (0, .int ((a0 ^^^ (-1)) &&& (a0 - 1)))]) hx hb dJ6_numberOfTrailingZeros_0f7a4_41 hl (k := 0) rfl rfl (by decide) rfl (fun ls hl => ?_)
        refine lv_iload_n hx hb dJ6_numberOfTrailingZeros_0f7a4_44 rfl (lv_at hl 1 rfl) ?_
        refine lv_bipush (v := 8) hx hb dJ6_numberOfTrailingZeros_0f7a4_45 (by decide) ?_
        refine lv_iushr (v := (jiushr ((a0 ^^^ (-1)) &&& (a0 - 1)) 8)) hx hb dJ6_numberOfTrailingZeros_0f7a4_47 rfl ?_
        refine lv_istore_n (lv' := [(0, .int (jiushr ((a0 ^^^ (-1)) &&& (a0 - 1)) 8)), (1, .int (1 + 8))]) hx hb dJ6_numberOfTrailingZeros_0f7a4_48 rfl hl (by decide) rfl (fun ls hl => ?_)
        refine lv_iload_n hx hb dJ6_numberOfTrailingZeros_0f7a4_49 rfl (lv_at hl 0 rfl) ?_
        refine lv_bipush (v := 16) hx hb dJ6_numberOfTrailingZeros_0f7a4_50 (by decide) ?_
        refine my_ic_le (tgt := 62) hx hb dJ6_numberOfTrailingZeros_0f7a4_52 (by decide) (fun c7 => ?_) (fun c7 => ?_)
        · rw [if_neg c7] at hf
          refine lv_iload_n hx hb dJ6_numberOfTrailingZeros_0f7a4_62 rfl (lv_at hl 0 rfl) ?_
          refine lv_iconst (v := 4) hx hb dJ6_numberOfTrailingZeros_0f7a4_63 (by decide) ?_
          refine my_ic_le (tgt := 74) hx hb dJ6_numberOfTrailingZeros_0f7a4_64 (by decide) (fun c8 => ?_) (fun c8 => ?_)
          · rw [if_neg c8] at hf
            refine lv_iload_n hx hb dJ6_numberOfTrailingZeros_0f7a4_74 rfl (lv_at hl 1 rfl) ?_
            refine lv_iload_n hx hb dJ6_numberOfTrailingZeros_0f7a4_75 rfl (lv_at hl 0 rfl) ?_
            refine lv_iconst (v := 1) hx hb dJ6_numberOfTrailingZeros_0f7a4_76 (by decide) ?_
            refine lv_iushr (v := (jiushr (jiushr ((a0 ^^^ (-1)) &&& (a0 - 1)) 8) 1)) hx hb dJ6_numberOfTrailingZeros_0f7a4_77 rfl ?_
            refine lv_iadd hx hb dJ6_numberOfTrailingZeros_0f7a4_78 ?_
            exact W.iret (v := ((1 + 8) + (jiushr (jiushr ((a0 ^^^ (-1)) &&& (a0 - 1)) 8) 1))) hx hb hr (fun t ht hW => ⟨_, rfl, hf, ht⟩) (fun q hq => absurd hq List.not_mem_nil) dJ6_numberOfTrailingZeros_0f7a4_79
          · rw [if_pos c8] at hf
            refine lv_iinc (v := ((1 + 8) + 2)) (lv' := [(1, .int ((1 + 8) + 2)), (0, .int (jiushr ((a0 ^^^ (-1)) &&& (a0 - 1)) 8))]) hx hb dJ6_numberOfTrailingZeros_0f7a4_67 hl (k := 1) rfl rfl (by decide) rfl (fun ls hl => ?_)
            refine lv_iload_n hx hb dJ6_numberOfTrailingZeros_0f7a4_70 rfl (lv_at hl 1 rfl) ?_
            refine lv_iconst (v := 2) hx hb dJ6_numberOfTrailingZeros_0f7a4_71 (by decide) ?_
            refine lv_iushr (v := (jiushr (jiushr ((a0 ^^^ (-1)) &&& (a0 - 1)) 8) 2)) hx hb dJ6_numberOfTrailingZeros_0f7a4_72 rfl ?_
            refine lv_istore_n (lv' := [(0, .int (jiushr (jiushr ((a0 ^^^ (-1)) &&& (a0 - 1)) 8) 2)), (1, .int ((1 + 8) + 2))]) hx hb dJ6_numberOfTrailingZeros_0f7a4_73 rfl hl (by decide) rfl (fun ls hl => ?_)
            refine lv_iload_n hx hb dJ6_numberOfTrailingZeros_0f7a4_74 rfl (lv_at hl 1 rfl) ?_
            refine lv_iload_n hx hb dJ6_numberOfTrailingZeros_0f7a4_75 rfl (lv_at hl 0 rfl) ?_
            refine lv_iconst (v := 1) hx hb dJ6_numberOfTrailingZeros_0f7a4_76 (by decide) ?_
            refine lv_iushr (v := (jiushr (jiushr (jiushr ((a0 ^^^ (-1)) &&& (a0 - 1)) 8) 2) 1)) hx hb dJ6_numberOfTrailingZeros_0f7a4_77 rfl ?_
            refine lv_iadd hx hb dJ6_numberOfTrailingZeros_0f7a4_78 ?_
            exact W.iret (v := (((1 + 8) + 2) + (jiushr (jiushr (jiushr ((a0 ^^^ (-1)) &&& (a0 - 1)) 8) 2) 1))) hx hb hr (fun t ht hW => ⟨_, rfl, hf, ht⟩) (fun q hq => absurd hq List.not_mem_nil) dJ6_numberOfTrailingZeros_0f7a4_79
        · rw [if_pos c7] at hf
          refine lv_iinc (v := ((1 + 8) + 4)) (lv' := [(1, .int ((1 + 8) + 4)), (0, .int (jiushr ((a0 ^^^ (-1)) &&& (a0 - 1)) 8))]) hx hb dJ6_numberOfTrailingZeros_0f7a4_55 hl (k := 1) rfl rfl (by decide) rfl (fun ls hl => ?_)
          refine lv_iload_n hx hb dJ6_numberOfTrailingZeros_0f7a4_58 rfl (lv_at hl 1 rfl) ?_
          refine lv_iconst (v := 4) hx hb dJ6_numberOfTrailingZeros_0f7a4_59 (by decide) ?_
          refine lv_iushr (v := (jiushr (jiushr ((a0 ^^^ (-1)) &&& (a0 - 1)) 8) 4)) hx hb dJ6_numberOfTrailingZeros_0f7a4_60 rfl ?_
          refine lv_istore_n (lv' := [(0, .int (jiushr (jiushr ((a0 ^^^ (-1)) &&& (a0 - 1)) 8) 4)), (1, .int ((1 + 8) + 4))]) hx hb dJ6_numberOfTrailingZeros_0f7a4_61 rfl hl (by decide) rfl (fun ls hl => ?_)
          refine lv_iload_n hx hb dJ6_numberOfTrailingZeros_0f7a4_62 rfl (lv_at hl 0 rfl) ?_
          refine lv_iconst (v := 4) hx hb dJ6_numberOfTrailingZeros_0f7a4_63 (by decide) ?_
          refine my_ic_le (tgt := 74) hx hb dJ6_numberOfTrailingZeros_0f7a4_64 (by decide) (fun c9 => ?_) (fun c9 => ?_)
          · rw [if_neg c9] at hf
            refine lv_iload_n hx hb dJ6_numberOfTrailingZeros_0f7a4_74 rfl (lv_at hl 1 rfl) ?_
            refine lv_iload_n hx hb dJ6_numberOfTrailingZeros_0f7a4_75 rfl (lv_at hl 0 rfl) ?_
            refine lv_iconst (v := 1) hx hb dJ6_numberOfTrailingZeros_0f7a4_76 (by decide) ?_
            refine lv_iushr (v := (jiushr (jiushr (jiushr ((a0 ^^^ (-1)) &&& (a0 - 1)) 8) 4) 1)) hx hb dJ6_numberOfTrailingZeros_0f7a4_77 rfl ?_
            refine lv_iadd hx hb dJ6_numberOfTrailingZeros_0f7a4_78 ?_
            exact W.iret (v := (((1 + 8) + 4) + (jiushr (jiushr (jiushr ((a0 ^^^ (-1)) &&& (a0 - 1)) 8) 4) 1))) hx hb hr (fun t ht hW => ⟨_, rfl, hf, ht⟩) (fun q hq => absurd hq List.not_mem_nil) dJ6_numberOfTrailingZeros_0f7a4_79
          · rw [if_pos c9] at hf
            refine lv_iinc (v := (((1 + 8) + 4) + 2)) (lv' := [(1, .int (((1 + 8) + 4) + 2)), (0, .int (jiushr (jiushr ((a0 ^^^ (-1)) &&& (a0 - 1)) 8) 4))]) hx hb dJ6_numberOfTrailingZeros_0f7a4_67 hl (k := 1) rfl rfl (by decide) rfl (fun ls hl => ?_)
            refine lv_iload_n hx hb dJ6_numberOfTrailingZeros_0f7a4_70 rfl (lv_at hl 1 rfl) ?_
            refine lv_iconst (v := 2) hx hb dJ6_numberOfTrailingZeros_0f7a4_71 (by decide) ?_
            refine lv_iushr (v := (jiushr (jiushr (jiushr ((a0 ^^^ (-1)) &&& (a0 - 1)) 8) 4) 2)) hx hb dJ6_numberOfTrailingZeros_0f7a4_72 rfl ?_
            refine lv_istore_n (lv' := [(0, .int (jiushr (jiushr (jiushr ((a0 ^^^ (-1)) &&& (a0 - 1)) 8) 4) 2)), (1, .int (((1 + 8) + 4) + 2))]) hx hb dJ6_numberOfTrailingZeros_0f7a4_73 rfl hl (by decide) rfl (fun ls hl => ?_)
            refine lv_iload_n hx hb dJ6_numberOfTrailingZeros_0f7a4_74 rfl (lv_at hl 1 rfl) ?_
            refine lv_iload_n hx hb dJ6_numberOfTrailingZeros_0f7a4_75 rfl (lv_at hl 0 rfl) ?_
            refine lv_iconst (v := 1) hx hb dJ6_numberOfTrailingZeros_0f7a4_76 (by decide) ?_
            refine lv_iushr (v := (jiushr (jiushr (jiushr (jiushr ((a0 ^^^ (-1)) &&& (a0 - 1)) 8) 4) 2) 1)) hx hb dJ6_numberOfTrailingZeros_0f7a4_77 rfl ?_
            refine lv_iadd hx hb dJ6_numberOfTrailingZeros_0f7a4_78 ?_
            exact W.iret (v := ((((1 + 8) + 4) + 2) + (jiushr (jiushr (jiushr (jiushr ((a0 ^^^ (-1)) &&& (a0 - 1)) 8) 4) 2) 1))) hx hb hr (fun t ht hW => ⟨_, rfl, hf, ht⟩) (fun q hq => absurd hq List.not_mem_nil) dJ6_numberOfTrailingZeros_0f7a4_79
    · rw [if_pos c2] at hf
      refine lv_iinc (v := (1 + 16)) (lv' := [(1, .int (1 + 16)), (0, .int ((a0 ^^^ (-1)) &&& (a0 - 1)))]) hx hb dJ6_numberOfTrailingZeros_0f7a4_26 hl (k := 0) rfl rfl (by decide) rfl (fun ls hl => ?_)
      refine lv_iload_n hx hb dJ6_numberOfTrailingZeros_0f7a4_29 rfl (lv_at hl 1 rfl) ?_
      refine lv_bipush (v := 16) hx hb dJ6_numberOfTrailingZeros_0f7a4_30 (by decide) ?_
      refine lv_iushr (v := (jiushr ((a0 ^^^ (-1)) &&& (a0 - 1)) 16)) hx hb dJ6_numberOfTrailingZeros_0f7a4_32 rfl ?_
      refine lv_istore_n (lv' := [(0, .int (jiushr ((a0 ^^^ (-1)) &&& (a0 - 1)) 16)), (1, .int (1 + 16))]) hx hb dJ6_numberOfTrailingZeros_0f7a4_33 rfl hl (by decide) rfl (fun ls hl => ?_)
      refine lv_iload_n hx hb dJ6_numberOfTrailingZeros_0f7a4_34 rfl (lv_at hl 0 rfl) ?_
      refine lv_sipush (v := 256) hx hb dJ6_numberOfTrailingZeros_0f7a4_35 (by decide) ?_
      refine my_ic_le (tgt := 49) hx hb dJ6_numberOfTrailingZeros_0f7a4_38 (by decide) (fun c10 => ?_) (fun c10 => ?_)
      · rw [if_neg c10] at hf
        refine lv_iload_n hx hb dJ6_numberOfTrailingZeros_0f7a4_49 rfl (lv_at hl 0 rfl) ?_
        refine lv_bipush (v := 16) hx hb dJ6_numberOfTrailingZeros_0f7a4_50 (by decide) ?_
        refine my_ic_le (tgt := 62) hx hb dJ6_numberOfTrailingZeros_0f7a4_52 (by decide) (fun c11 => ?_) (fun c11 => ?_)
        · rw [if_neg c11] at hf
          refine lv_iload_n hx hb dJ6_numberOfTrailingZeros_0f7a4_62 rfl (lv_at hl 0 rfl) ?_
          refine lv_iconst (v := 4) hx hb dJ6_numberOfTrailingZeros_0f7a4_63 (by decide) ?_
          refine my_ic_le (tgt := 74) hx hb dJ6_numberOfTrailingZeros_0f7a4_64 (by decide) (fun c12 => ?_) (fun c12 => ?_)
          · rw [if_neg c12] at hf
            refine lv_iload_n hx hb dJ6_numberOfTrailingZeros_0f7a4_74 rfl (lv_at hl 1 rfl) ?_
            refine lv_iload_n hx hb dJ6_numberOfTrailingZeros_0f7a4_75 rfl (lv_at hl 0 rfl) ?_
            refine lv_iconst (v := 1) hx hb dJ6_numberOfTrailingZeros_0f7a4_76 (by decide) ?_
            refine lv_iushr (v := (jiushr (jiushr ((a0 ^^^ (-1)) &&& (a0 - 1)) 16) 1)) hx hb dJ6_numberOfTrailingZeros_0f7a4_77 rfl ?_
            refine lv_iadd hx hb dJ6_numberOfTrailingZeros_0f7a4_78 ?_
            exact W.iret (v := ((1 + 16) + (jiushr (jiushr ((a0 ^^^ (-1)) &&& (a0 - 1)) 16) 1))) hx hb hr (fun t ht hW => ⟨_, rfl, hf, ht⟩) (fun q hq => absurd hq List.not_mem_nil) dJ6_numberOfTrailingZeros_0f7a4_79
          · rw [if_pos c12] at hf
            refine lv_iinc (v := ((1 + 16) + 2)) (lv' := [(1, .int ((1 + 16) + 2)), (0, .int (jiushr ((a0 ^^^ (-1)) &&& (a0 - 1)) 16))]) hx hb dJ6_numberOfTrailingZeros_0f7a4_67 hl (k := 1) rfl rfl (by decide) rfl (fun ls hl => ?_)
            refine lv_iload_n hx hb dJ6_numberOfTrailingZeros_0f7a4_70 rfl (lv_at hl 1 rfl) ?_
            refine lv_iconst (v := 2) hx hb dJ6_numberOfTrailingZeros_0f7a4_71 (by decide) ?_
            refine lv_iushr (v := (jiushr (jiushr ((a0 ^^^ (-1)) &&& (a0 - 1)) 16) 2)) hx hb dJ6_numberOfTrailingZeros_0f7a4_72 rfl ?_
            refine lv_istore_n (lv' := [(0, .int (jiushr (jiushr ((a0 ^^^ (-1)) &&& (a0 - 1)) 16) 2)), (1, .int ((1 + 16) + 2))]) hx hb dJ6_numberOfTrailingZeros_0f7a4_73 rfl hl (by decide) rfl (fun ls hl => ?_)
            refine lv_iload_n hx hb dJ6_numberOfTrailingZeros_0f7a4_74 rfl (lv_at hl 1 rfl) ?_
            refine lv_iload_n hx hb dJ6_numberOfTrailingZeros_0f7a4_75 rfl (lv_at hl 0 rfl) ?_
            refine lv_iconst (v := 1) hx hb dJ6_numberOfTrailingZeros_0f7a4_76 (by decide) ?_
            refine lv_iushr (v := (jiushr (jiushr (jiushr ((a0 ^^^ (-1)) &&& (a0 - 1)) 16) 2) 1)) hx hb dJ6_numberOfTrailingZeros_0f7a4_77 rfl ?_
            refine lv_iadd hx hb dJ6_numberOfTrailingZeros_0f7a4_78 ?_
            exact W.iret (v := (((1 + 16) + 2) + (jiushr (jiushr (jiushr ((a0 ^^^ (-1)) &&& (a0 - 1)) 16) 2) 1))) hx hb hr (fun t ht hW => ⟨_, rfl, hf, ht⟩) (fun q hq => absurd hq List.not_mem_nil) dJ6_numberOfTrailingZeros_0f7a4_79
        · rw [if_pos c11] at hf
          refine lv_iinc (v := ((1 + 16) + 4)) (lv' := [(1, .int ((1 + 16) + 4)), (0, .int (jiushr ((a0 ^^^ (-1)) &&& (a0 - 1)) 16))]) hx hb dJ6_numberOfTrailingZeros_0f7a4_55 hl (k := 1) rfl rfl (by decide) rfl (fun ls hl => ?_)
          refine lv_iload_n hx hb dJ6_numberOfTrailingZeros_0f7a4_58 rfl (lv_at hl 1 rfl) ?_
          refine lv_iconst (v := 4) hx hb dJ6_numberOfTrailingZeros_0f7a4_59 (by decide) ?_
          refine lv_iushr (v := (jiushr (jiushr ((a0 ^^^ (-1)) &&& (a0 - 1)) 16) 4)) hx hb dJ6_numberOfTrailingZeros_0f7a4_60 rfl ?_
          refine lv_istore_n (lv' := [(0, .int (jiushr (jiushr ((a0 ^^^ (-1)) &&& (a0 - 1)) 16) 4)), (1, .int ((1 + 16) + 4))]) hx hb dJ6_numberOfTrailingZeros_0f7a4_61 rfl hl (by decide) rfl (fun ls hl => ?_)
          refine lv_iload_n hx hb dJ6_numberOfTrailingZeros_0f7a4_62 rfl (lv_at hl 0 rfl) ?_
          refine lv_iconst (v := 4) hx hb dJ6_numberOfTrailingZeros_0f7a4_63 (by decide) ?_
          refine my_ic_le (tgt := 74) hx hb dJ6_numberOfTrailingZeros_0f7a4_64 (by decide) (fun c13 => ?_) (fun c13 => ?_)
          · rw [if_neg c13] at hf
            refine lv_iload_n hx hb dJ6_numberOfTrailingZeros_0f7a4_74 rfl (lv_at hl 1 rfl) ?_
            refine lv_iload_n hx hb dJ6_numberOfTrailingZeros_0f7a4_75 rfl (lv_at hl 0 rfl) ?_
            refine lv_iconst (v := 1) hx hb dJ6_numberOfTrailingZeros_0f7a4_76 (by decide) ?_
            refine lv_iushr (v := (jiushr (jiushr (jiushr ((a0 ^^^ (-1)) &&& (a0 - 1)) 16) 4) 1)) hx hb dJ6_numberOfTrailingZeros_0f7a4_77 rfl ?_
            refine lv_iadd hx hb dJ6_numberOfTrailingZeros_0f7a4_78 ?_
            exact W.iret (v := (((1 + 16) + 4) + (jiushr (jiushr (jiushr ((a0 ^^^ (-1)) &&& (a0 - 1)) 16) 4) 1))) hx hb hr (fun t ht hW => ⟨_, rfl, hf, ht⟩) (fun q hq => absurd hq List.not_mem_nil) dJ6_numberOfTrailingZeros_0f7a4_79
          · rw [if_pos c13] at hf
            refine lv_iinc (v := (((1 + 16) + 4) + 2)) (lv' := [(1, .int (((1 + 16) + 4) + 2)), (0, .int (jiushr (jiushr ((a0 ^^^ (-1)) &&& (a0 - 1)) 16) 4))]) hx hb dJ6_numberOfTrailingZeros_0f7a4_67 hl (k := 1) rfl rfl (by decide) rfl (fun ls hl => ?_)
            refine lv_iload_n hx hb dJ6_numberOfTrailingZeros_0f7a4_70 rfl (lv_at hl 1 rfl) ?_
            refine lv_iconst (v := 2) hx hb dJ6_numberOfTrailingZeros_0f7a4_71 (by decide) ?_
            refine lv_iushr (v := (jiushr (jiushr (jiushr ((a0 ^^^ (-1)) &&& (a0 - 1)) 16) 4) 2)) hx hb dJ6_numberOfTrailingZeros_0f7a4_72 rfl ?_
            refine lv_istore_n (lv' := [(0, .int (jiushr (jiushr (jiushr ((a0 ^^^ (-1)) &&& (a0 - 1)) 16) 4) 2)), (1, .int (((1 + 16) + 4) + 2))]) hx hb dJ6_numberOfTrailingZeros_0f7a4_73 rfl hl (by decide) rfl (fun ls hl => ?_)
            refine lv_iload_n hx hb dJ6_numberOfTrailingZeros_0f7a4_74 rfl (lv_at hl 1 rfl) ?_
            refine lv_iload_n hx hb dJ6_numberOfTrailingZeros_0f7a4_75 rfl (lv_at hl 0 rfl) ?_
            refine lv_iconst (v := 1) hx hb dJ6_numberOfTrailingZeros_0f7a4_76 (by decide) ?_
            refine lv_iushr (v := (jiushr (jiushr (jiushr (jiushr ((a0 ^^^ (-1)) &&& (a0 - 1)) 16) 4) 2) 1)) hx hb dJ6_numberOfTrailingZeros_0f7a4_77 rfl ?_
            refine lv_iadd hx hb dJ6_numberOfTrailingZeros_0f7a4_78 ?_
            exact W.iret (v := ((((1 + 16) + 4) + 2) + (jiushr (jiushr (jiushr (jiushr ((a0 ^^^ (-1)) &&& (a0 - 1)) 16) 4) 2) 1))) hx hb hr (fun t ht hW => ⟨_, rfl, hf, ht⟩) (fun q hq => absurd hq List.not_mem_nil) dJ6_numberOfTrailingZeros_0f7a4_79
      · rw [if_pos c10] at hf
        refine lv_iinc (v := ((1 + 16) + 8)) (lv' := [(1, .int ((1 + 16) + 8)), (0, .int (jiushr ((a0 ^^^ (-1)) &&& (a0 - 1)) 16))]) hx hb dJ6_numberOfTrailingZeros_0f7a4_41 hl (k := 1) rfl rfl (by decide) rfl (fun ls hl => ?_)
        refine lv_iload_n hx hb dJ6_numberOfTrailingZeros_0f7a4_44 rfl (lv_at hl 1 rfl) ?_
        refine lv_bipush (v := 8) hx hb dJ6_numberOfTrailingZeros_0f7a4_45 (by decide) ?_
        refine lv_iushr (v := (jiushr (jiushr ((a0 ^^^ (-1)) &&& (a0 - 1)) 16) 8)) hx hb dJ6_numberOfTrailingZeros_0f7a4_47 rfl ?_
        refine lv_istore_n (lv' := [(0, .int (jiushr (jiushr ((a0 ^^^ (-1)) &&& (a0 - 1)) 16) 8)), (1, .int ((1 + 16) + 8))]) hx hb dJ6_numberOfTrailingZeros_0f7a4_48 rfl hl (by decide) rfl (fun ls hl => ?_)
        refine lv_iload_n hx hb dJ6_numberOfTrailingZeros_0f7a4_49 rfl (lv_at hl 0 rfl) ?_
        refine lv_bipush (v := 16) hx hb dJ6_numberOfTrailingZeros_0f7a4_50 (by decide) ?_
        refine my_ic_le (tgt := 62) hx hb dJ6_numberOfTrailingZeros_0f7a4_52 (by decide) (fun c14 => ?_) (fun c14 => ?_)
        · rw [if_neg c14] at hf
          refine lv_iload_n hx hb dJ6_numberOfTrailingZeros_0f7a4_62 rfl (lv_at hl 0 rfl) ?_
          refine lv_iconst (v := 4) hx hb dJ6_numberOfTrailingZeros_0f7a4_63 (by decide) ?_
          refine my_ic_le (tgt := 74) hx hb dJ6_numberOfTrailingZeros_0f7a4_64 (by decide) (fun c15 => ?_) (fun c15 => ?_)
          · rw [if_neg c15] at hf
            refine lv_iload_n hx hb dJ6_numberOfTrailingZeros_0f7a4_74 rfl (lv_at hl 1 rfl) ?_
            refine lv_iload_n hx hb dJ6_numberOfTrailingZeros_0f7a4_75 rfl (lv_at hl 0 rfl) ?_
            refine lv_iconst (v := 1) hx hb dJ6_numberOfTrailingZeros_0f7a4_76 (by decide) ?_
            refine lv_iushr (v := (jiushr (jiushr (jiushr ((a0 ^^^ (-1)) &&& (a0 - 1)) 16) 8) 1)) hx hb dJ6_numberOfTrailingZeros_0f7a4_77 rfl ?_
            refine lv_iadd hx hb dJ6_numberOfTrailingZeros_0f7a4_78 ?_
            exact W.iret (v := (((1 + 16) + 8) + (jiushr (jiushr (jiushr ((a0 ^^^ (-1)) &&& (a0 - 1)) 16) 8) 1))) hx hb hr (fun t ht hW => ⟨_, rfl, hf, ht⟩) (fun q hq => absurd hq List.not_mem_nil) dJ6_numberOfTrailingZeros_0f7a4_79
          · rw [if_pos c15] at hf
            refine lv_iinc (v := (((1 + 16) + 8) + 2)) (lv' := [(1, .int (((1 + 16) + 8) + 2)), (0, .int (jiushr (jiushr ((a0 ^^^ (-1)) &&& (a0 - 1)) 16) 8))]) hx hb dJ6_numberOfTrailingZeros_0f7a4_67 hl (k := 1) rfl rfl (by decide) rfl (fun ls hl => ?_)
            refine lv_iload_n hx hb dJ6_numberOfTrailingZeros_0f7a4_70 rfl (lv_at hl 1 rfl) ?_
            refine lv_iconst (v := 2) hx hb dJ6_numberOfTrailingZeros_0f7a4_71 (by decide) ?_
            refine lv_iushr (v := (jiushr (jiushr (jiushr ((a0 ^^^ (-1)) &&& (a0 - 1)) 16) 8) 2)) hx hb dJ6_numberOfTrailingZeros_0f7a4_72 rfl ?_
            refine lv_istore_n (lv' := [(0, .int (jiushr (jiushr (jiushr ((a0 ^^^ (-1)) &&& (a0 - 1)) 16) 8) 2)), (1, .int (((1 + 16) + 8) + 2))]) hx hb dJ6_numberOfTrailingZeros_0f7a4_73 rfl hl (by decide) rfl (fun ls hl => ?_)
            refine lv_iload_n hx hb dJ6_numberOfTrailingZeros_0f7a4_74 rfl (lv_at hl 1 rfl) ?_
            refine lv_iload_n hx hb dJ6_numberOfTrailingZeros_0f7a4_75 rfl (lv_at hl 0 rfl) ?_
            refine lv_iconst (v := 1) hx hb dJ6_numberOfTrailingZeros_0f7a4_76 (by decide) ?_
            refine lv_iushr (v := (jiushr (jiushr (jiushr (jiushr ((a0 ^^^ (-1)) &&& (a0 - 1)) 16) 8) 2) 1)) hx hb dJ6_numberOfTrailingZeros_0f7a4_77 rfl ?_
            refine lv_iadd hx hb dJ6_numberOfTrailingZeros_0f7a4_78 ?_
            exact W.iret (v := ((((1 + 16) + 8) + 2) + (jiushr (jiushr (jiushr (jiushr ((a0 ^^^ (-1)) &&& (a0 - 1)) 16) 8) 2) 1))) hx hb hr (fun t ht hW => ⟨_, rfl, hf, ht⟩) (fun q hq => absurd hq List.not_mem_nil) dJ6_numberOfTrailingZeros_0f7a4_79
        · rw [if_pos c14] at hf
          refine lv_iinc (v := (((1 + 16) + 8) + 4)) (lv' := [(1, .int (((1 + 16) + 8) + 4)), (0, .int (jiushr (jiushr ((a0 ^^^ (-1)) &&& (a0 - 1)) 16) 8))]) hx hb dJ6_numberOfTrailingZeros_0f7a4_55 hl (k := 1) rfl rfl (by decide) rfl (fun ls hl => ?_)
          refine lv_iload_n hx hb dJ6_numberOfTrailingZeros_0f7a4_58 rfl (lv_at hl 1 rfl) ?_
          refine lv_iconst (v := 4) hx hb dJ6_numberOfTrailingZeros_0f7a4_59 (by decide) ?_
          refine lv_iushr (v := (jiushr (jiushr (jiushr ((a0 ^^^ (-1)) &&& (a0 - 1)) 16) 8) 4)) hx hb dJ6_numberOfTrailingZeros_0f7a4_60 rfl ?_
          refine lv_istore_n (lv' := [(0, .int (jiushr (jiushr (jiushr ((a0 ^^^ (-1)) &&& (a0 - 1)) 16) 8) 4)), (1, .int (((1 + 16) + 8) + 4))]) hx hb dJ6_numberOfTrailingZeros_0f7a4_61 rfl hl (by decide) rfl (fun ls hl => ?_)
          refine lv_iload_n hx hb dJ6_numberOfTrailingZeros_0f7a4_62 rfl (lv_at hl 0 rfl) ?_
          refine lv_iconst (v := 4) hx hb dJ6_numberOfTrailingZeros_0f7a4_63 (by decide) ?_
          refine my_ic_le (tgt := 74) hx hb dJ6_numberOfTrailingZeros_0f7a4_64 (by decide) (fun c16 => ?_) (fun c16 => ?_)
          · rw [if_neg c16] at hf
            refine lv_iload_n hx hb dJ6_numberOfTrailingZeros_0f7a4_74 rfl (lv_at hl 1 rfl) ?_
            refine lv_iload_n hx hb dJ6_numberOfTrailingZeros_0f7a4_75 rfl (lv_at hl 0 rfl) ?_
            refine lv_iconst (v := 1) hx hb dJ6_numberOfTrailingZeros_0f7a4_76 (by decide) ?_
            refine lv_iushr (v := (jiushr (jiushr (jiushr (jiushr ((a0 ^^^ (-1)) &&& (a0 - 1)) 16) 8) 4) 1)) hx hb dJ6_numberOfTrailingZeros_0f7a4_77 rfl ?_
            refine lv_iadd hx hb dJ6_numberOfTrailingZeros_0f7a4_78 ?_
            exact W.iret (v := ((((1 + 16) + 8) + 4) + (jiushr (jiushr (jiushr (jiushr ((a0 ^^^ (-1)) &&& (a0 - 1)) 16) 8) 4) 1))) hx hb hr (fun t ht hW => ⟨_, rfl, hf, ht⟩) (fun q hq => absurd hq List.not_mem_nil) dJ6_numberOfTrailingZeros_0f7a4_79
          · rw [if_pos c16] at hf
            refine lv_iinc (v := ((((1 + 16) + 8) + 4) + 2)) (lv' := [(1, .int ((((1 + 16) + 8) + 4) + 2)), (0, .int (jiushr (jiushr (jiushr ((a0 ^^^ (-1)) &&& (a0 - 1)) 16) 8) 4))]) hx hb dJ6_numberOfTrailingZeros_0f7a4_67 hl (k := 1) rfl rfl (by decide) rfl (fun ls hl => ?_)
            refine lv_iload_n hx hb dJ6_numberOfTrailingZeros_0f7a4_70 rfl (lv_at hl 1 rfl) ?_
            refine lv_iconst (v := 2) hx hb dJ6_numberOfTrailingZeros_0f7a4_71 (by decide) ?_
            refine lv_iushr (v := (jiushr (jiushr (jiushr (jiushr ((a0 ^^^ (-1)) &&& (a0 - 1)) 16) 8) 4) 2)) hx hb dJ6_numberOfTrailingZeros_0f7a4_72 rfl ?_
            refine lv_istore_n (lv' := [(0, .int (jiushr (jiushr (jiushr (jiushr ((a0 ^^^ (-1)) &&& (a0 - 1)) 16) 8) 4) 2)), (1, .int ((((1 + 16) + 8) + 4) + 2))]) hx hb dJ6_numberOfTrailingZeros_0f7a4_73 rfl hl (by decide) rfl (fun ls hl => ?_)
            refine lv_iload_n hx hb dJ6_numberOfTrailingZeros_0f7a4_74 rfl (lv_at hl 1 rfl) ?_
            refine lv_iload_n hx hb dJ6_numberOfTrailingZeros_0f7a4_75 rfl (lv_at hl 0 rfl) ?_
            refine lv_iconst (v := 1) hx hb dJ6_numberOfTrailingZeros_0f7a4_76 (by decide) ?_
            refine lv_iushr (v := (jiushr (jiushr (jiushr (jiushr (jiushr ((a0 ^^^ (-1)) &&& (a0 - 1)) 16) 8) 4) 2) 1)) hx hb dJ6_numberOfTrailingZeros_0f7a4_77 rfl ?_
            refine lv_iadd hx hb dJ6_numberOfTrailingZeros_0f7a4_78 ?_
            exact W.iret (v := (((((1 + 16) + 8) + 4) + 2) + (jiushr (jiushr (jiushr (jiushr (jiushr ((a0 ^^^ (-1)) &&& (a0 - 1)) 16) 8) 4) 2) 1))) hx hb hr (fun t ht hW => ⟨_, rfl, hf, ht⟩) (fun q hq => absurd hq List.not_mem_nil) dJ6_numberOfTrailingZeros_0f7a4_79
  · rw [if_neg c1] at hf
    refine lv_iload_n hx hb dJ6_numberOfTrailingZeros_0f7a4_12 rfl (lv_at hl 0 rfl) ?_
    refine lv_bipush (v := 32) hx hb dJ6_numberOfTrailingZeros_0f7a4_13 (by decide) ?_
    refine lv_iand hx hb dJ6_numberOfTrailingZeros_0f7a4_15 ?_
    exact W.iret (v := (((a0 ^^^ (-1)) &&& (a0 - 1)) &&& 32)) hx hb hr (fun t ht hW => ⟨_, rfl, hf, ht⟩) (fun q hq => absurd hq List.not_mem_nil) dJ6_numberOfTrailingZeros_0f7a4_16

def f_J13_numberOfTrailingZeros_95d88 (a0 : Int64) : Int32 := (if (a0.toInt32) = 0 then (32 + (f_J6_numberOfTrailingZeros_0f7a4 ((jushr a0 32).toInt32))) else (f_J6_numberOfTrailingZeros_0f7a4 (a0.toInt32)))
abbrev rmJ13_numberOfTrailingZeros_95d88 : Room := { frames := 1, cells := 0, slots := 0, locals := 21 }
set_option maxHeartbeats 4000000 in
set_option maxRecDepth 100000 in
theorem m_J13_numberOfTrailingZeros_95d88 (l : Launch) (a0 : Int64) (res : Int32) (hf : f_J13_numberOfTrailingZeros_95d88 a0 = res) : Met l yJ13_numberOfTrailingZeros_95d88 wsJ13_numberOfTrailingZeros_95d88 rmJ13_numberOfTrailingZeros_95d88 (my_PcP [.long a0]) (vp_Si (fun z => z = res)) 0 0 (fun _ => False) := by
  refine Met.ofW (cc := cJ13_numberOfTrailingZeros_95d88) (maxL := 3) (ret := (some .int)) (by decide) rfl ?_
  intro p e s m args below meth c s₁ B hml hv
  obtain ⟨rfl, -⟩ := hv
  have hx := B.exec
  have hb := B.bytes
  have hr := B.returns
  have hts : ∀ w ∈ wsJ13_numberOfTrailingZeros_95d88, w.before ([.long a0] : List Value).toArray s = true := atoms_spec (ws := wsJ13_numberOfTrailingZeros_95d88) B.pre
  have hown : s.vm.findClass RJ13 = some m.cls := findClass_of_methodNamed B.named
  have hlk : meth.locks = false := B.notSynchronized
  have hl := lv_entry ([.long a0]) (n := 3) (Nat.le_of_ble_eq_true rfl)
  rw [lg_entry_eq]
  generalize (lg_sl ([.long a0]) ++ List.replicate (3 - (lg_sl ([.long a0])).length) Slot.unset).toArray = ls at hl ⊢
  have hl : lv_has ls 3 [(0, .long a0)] := hl
  unfold f_J13_numberOfTrailingZeros_95d88 at hf
  refine lv_lload_n hx hb dJ13_numberOfTrailingZeros_95d88_0 rfl (lv_at hl 0 rfl) ?_
  refine lv_l2i (v := (a0.toInt32)) hx hb dJ13_numberOfTrailingZeros_95d88_1 rfl ?_
  refine lv_istore_n (lv' := [(2, .int (a0.toInt32)), (0, .long a0)]) hx hb dJ13_numberOfTrailingZeros_95d88_2 rfl hl (by decide) rfl (fun ls hl => ?_)
  refine lv_iload_n hx hb dJ13_numberOfTrailingZeros_95d88_3 rfl (lv_at hl 0 rfl) ?_
  refine my_if_ne (tgt := 21) hx hb dJ13_numberOfTrailingZeros_95d88_4 (by decide) (fun c1 => ?_) (fun c1 => ?_)
  · rw [if_neg c1] at hf
    refine lv_iload_n hx hb dJ13_numberOfTrailingZeros_95d88_21 rfl (lv_at hl 0 rfl) ?_
    refine my_callPi (As := [.int (a0.toInt32)]) (rest := []) ⟨hx, hb, hml, hown, hts⟩ (m_J6_numberOfTrailingZeros_0f7a4 l (a0.toInt32) _ rfl) gJ13_numberOfTrailingZeros_95d88_J6_numberOfTrailingZeros_0f7a4 rfl ⟨rfl, rfl⟩ (by decide +kernel) ⟨Nat.le_of_ble_eq_true rfl, Nat.le_of_ble_eq_true rfl⟩ ⟨Nat.le_of_ble_eq_true rfl, Nat.le_of_ble_eq_true rfl⟩ hl.1 rfl rfl (Nat.le_of_ble_eq_true rfl) dJ13_numberOfTrailingZeros_95d88_22 ?_
    exact W.iret (v := (f_J6_numberOfTrailingZeros_0f7a4 (a0.toInt32))) hx hb hr (fun t ht hW => ⟨_, rfl, hf, ht⟩) (fun q hq => absurd hq List.not_mem_nil) dJ13_numberOfTrailingZeros_95d88_25
  · rw [if_pos c1] at hf
    refine lv_bipush (v := 32) hx hb dJ13_numberOfTrailingZeros_95d88_7 (by decide) ?_
    refine lv_lload_n hx hb dJ13_numberOfTrailingZeros_95d88_9 rfl (lv_at hl 1 rfl) ?_
    refine lv_bipush (v := 32) hx hb dJ13_numberOfTrailingZeros_95d88_10 (by decide) ?_
    refine lv_lushr (v := (jushr a0 32)) hx hb dJ13_numberOfTrailingZeros_95d88_12 rfl ?_
    refine lv_l2i (v := ((jushr a0 32).toInt32)) hx hb dJ13_numberOfTrailingZeros_95d88_13 rfl ?_
    refine my_callPi (As := [.int ((jushr a0 32).toInt32)]) (rest := [.int 32]) ⟨hx, hb, hml, hown, hts⟩ (m_J6_numberOfTrailingZeros_0f7a4 l ((jushr a0 32).toInt32) _ rfl) gJ13_numberOfTrailingZeros_95d88_J6_numberOfTrailingZeros_0f7a4 rfl ⟨rfl, rfl⟩ (by decide +kernel) ⟨Nat.le_of_ble_eq_true rfl, Nat.le_of_ble_eq_true rfl⟩ ⟨Nat.le_of_ble_eq_true rfl, Nat.le_of_ble_eq_true rfl⟩ hl.1 rfl rfl (Nat.le_of_ble_eq_true rfl) dJ13_numberOfTrailingZeros_95d88_14 ?_
    refine lv_iadd hx hb dJ13_numberOfTrailingZeros_95d88_17 ?_
    refine lv_goto (tgt := 25) hx hb dJ13_numberOfTrailingZeros_95d88_18 (by decide) ?_
    exact W.iret (v := (32 + (f_J6_numberOfTrailingZeros_0f7a4 ((jushr a0 32).toInt32)))) hx hb hr (fun t ht hW => ⟨_, rfl, hf, ht⟩) (fun q hq => absurd hq List.not_mem_nil) dJ13_numberOfTrailingZeros_95d88_25

def f_X0_shift (a0 : Int64) : Int32 := ((if (f_X0_exponentBits a0) < 1 then 1 else (f_X0_exponentBits a0)) - 1)
abbrev rmX0_shift : Room := { frames := 1, cells := 0, slots := 0, locals := 21 }
set_option maxHeartbeats 4000000 in
set_option maxRecDepth 100000 in
theorem m_X0_shift (l : Launch) (a0 : Int64) (res : Int32) (hf : f_X0_shift a0 = res) : Met l yX0_shift wsX0_shift rmX0_shift (my_PcP [.long a0]) (vp_Si (fun z => z = res)) 0 0 (fun _ => False) := by
  refine Met.ofW (cc := cX0_shift) (maxL := 2) (ret := (some .int)) (by decide) rfl ?_
  intro p e s m args below meth c s₁ B hml hv
  obtain ⟨rfl, -⟩ := hv
  have hx := B.exec
  have hb := B.bytes
  have hr := B.returns
  have hts : ∀ w ∈ wsX0_shift, w.before ([.long a0] : List Value).toArray s = true := atoms_spec (ws := wsX0_shift) B.pre
  have hown : s.vm.findClass RX0 = some m.cls := findClass_of_methodNamed B.named
  have hlk : meth.locks = false := B.notSynchronized
  have q1 := hts (.methodLink RX0 90 Lib.Math.max.name) (by decide +kernel)
  have q2 := hts (.static Lib.Math.max.name) (by decide +kernel)
  have q3 := hts (.initialized "java/lang/Math") (by decide +kernel)
  have q4 := hts (.code Lib.Math.max.name Lib.Math.max.code 2 (some .int)) (by decide +kernel)
  have hl := lv_entry ([.long a0]) (n := 2) (Nat.le_of_ble_eq_true rfl)
  rw [lg_entry_eq]
  generalize (lg_sl ([.long a0]) ++ List.replicate (2 - (lg_sl ([.long a0])).length) Slot.unset).toArray = ls at hl ⊢
  have hl : lv_has ls 2 [(0, .long a0)] := hl
  unfold f_X0_shift at hf
  refine lv_lload_n hx hb dX0_shift_0 rfl (lv_at hl 0 rfl) ?_
  refine my_callPi (As := [.long a0]) (rest := []) ⟨hx, hb, hml, hown, hts⟩ (m_X0_exponentBits l a0 _ rfl) gX0_shift_X0_exponentBits rfl ⟨rfl, rfl⟩ (by decide +kernel) ⟨Nat.le_of_ble_eq_true rfl, Nat.le_of_ble_eq_true rfl⟩ ⟨Nat.le_of_ble_eq_true rfl, Nat.le_of_ble_eq_true rfl⟩ hl.1 rfl rfl (Nat.le_of_ble_eq_true rfl) dX0_shift_1 ?_
  refine lv_iconst (v := 1) hx hb dX0_shift_4 (by decide) ?_
  refine va_mmax hx hb (hml.trans hl.1.symm) hown q1 q2 q3 q4 (Nat.le_of_ble_eq_true rfl) (Nat.le_of_ble_eq_true rfl) (Nat.le_of_ble_eq_true rfl) (Nat.le_of_ble_eq_true rfl) dX0_shift_5 ?_
  refine lv_iconst (v := 1) hx hb dX0_shift_8 (by decide) ?_
  refine lv_isub hx hb dX0_shift_9 ?_
  exact W.iret (v := ((if (f_X0_exponentBits a0) < 1 then 1 else (f_X0_exponentBits a0)) - 1)) hx hb hr (fun t ht hW => ⟨_, rfl, hf, ht⟩) (fun q hq => absurd hq List.not_mem_nil) dX0_shift_10

def f_X0_tailOf (a0 : Int64) : Int32 := (((f_J13_numberOfTrailingZeros_95d88 (f_X0_whole a0)) + (f_X0_shift a0)) + (-1074))
abbrev rmX0_tailOf : Room := { frames := 2, cells := 0, slots := 0, locals := 44 }
set_option maxHeartbeats 4000000 in
set_option maxRecDepth 100000 in
theorem m_X0_tailOf (l : Launch) (a0 : Int64) (res : Int32) (hf : f_X0_tailOf a0 = res) : Met l yX0_tailOf wsX0_tailOf rmX0_tailOf (my_PcP [.long a0]) (vp_Si (fun z => z = res)) 0 0 (fun _ => False) := by
  refine Met.ofW (cc := cX0_tailOf) (maxL := 2) (ret := (some .int)) (by decide) rfl ?_
  intro p e s m args below meth c s₁ B hml hv
  obtain ⟨rfl, -⟩ := hv
  have hx := B.exec
  have hb := B.bytes
  have hr := B.returns
  have hts : ∀ w ∈ wsX0_tailOf, w.before ([.long a0] : List Value).toArray s = true := atoms_spec (ws := wsX0_tailOf) B.pre
  have hown : s.vm.findClass RX0 = some m.cls := findClass_of_methodNamed B.named
  have hlk : meth.locks = false := B.notSynchronized
  have hl := lv_entry ([.long a0]) (n := 2) (Nat.le_of_ble_eq_true rfl)
  rw [lg_entry_eq]
  generalize (lg_sl ([.long a0]) ++ List.replicate (2 - (lg_sl ([.long a0])).length) Slot.unset).toArray = ls at hl ⊢
  have hl : lv_has ls 2 [(0, .long a0)] := hl
  unfold f_X0_tailOf at hf
  refine lv_lload_n hx hb dX0_tailOf_0 rfl (lv_at hl 0 rfl) ?_
  refine my_callPl (As := [.long a0]) (rest := []) ⟨hx, hb, hml, hown, hts⟩ (m_X0_whole l a0 _ rfl) gX0_tailOf_X0_whole rfl ⟨rfl, rfl⟩ (by decide +kernel) ⟨Nat.le_of_ble_eq_true rfl, Nat.le_of_ble_eq_true rfl⟩ ⟨Nat.le_of_ble_eq_true rfl, Nat.le_of_ble_eq_true rfl⟩ hl.1 rfl rfl (Nat.le_of_ble_eq_true rfl) dX0_tailOf_1 ?_
  refine my_callPi (As := [.long (f_X0_whole a0)]) (rest := []) ⟨hx, hb, hml, hown, hts⟩ (m_J13_numberOfTrailingZeros_95d88 l (f_X0_whole a0) _ rfl) gX0_tailOf_J13_numberOfTrailingZeros_95d88 rfl ⟨rfl, rfl⟩ (by decide +kernel) ⟨Nat.le_of_ble_eq_true rfl, Nat.le_of_ble_eq_true rfl⟩ ⟨Nat.le_of_ble_eq_true rfl, Nat.le_of_ble_eq_true rfl⟩ hl.1 rfl rfl (Nat.le_of_ble_eq_true rfl) dX0_tailOf_4 ?_
  refine lv_lload_n hx hb dX0_tailOf_7 rfl (lv_at hl 0 rfl) ?_
  refine my_callPi (As := [.long a0]) (rest := [.int (f_J13_numberOfTrailingZeros_95d88 (f_X0_whole a0))]) ⟨hx, hb, hml, hown, hts⟩ (m_X0_shift l a0 _ rfl) gX0_tailOf_X0_shift rfl ⟨rfl, rfl⟩ (by decide +kernel) ⟨Nat.le_of_ble_eq_true rfl, Nat.le_of_ble_eq_true rfl⟩ ⟨Nat.le_of_ble_eq_true rfl, Nat.le_of_ble_eq_true rfl⟩ hl.1 rfl rfl (Nat.le_of_ble_eq_true rfl) dX0_tailOf_8 ?_
  refine lv_iadd hx hb dX0_tailOf_11 ?_
  refine lv_sipush (v := (-1074)) hx hb dX0_tailOf_12 (by decide) ?_
  refine lv_iadd hx hb dX0_tailOf_15 ?_
  exact W.iret (v := (((f_J13_numberOfTrailingZeros_95d88 (f_X0_whole a0)) + (f_X0_shift a0)) + (-1074))) hx hb hr (fun t ht hW => ⟨_, rfl, hf, ht⟩) (fun q hq => absurd hq List.not_mem_nil) dX0_tailOf_16

def f_X0_hasNoFraction (a0 : Int64) : Bool := (if (f_X0_isZero a0) = false then (if (f_X0_hasNoEnd a0) = false then (if (f_X0_tailOf a0) < 0 then false else true) else false) else true)
abbrev rmX0_hasNoFraction : Room := { frames := 3, cells := 0, slots := 0, locals := 65 }
set_option maxHeartbeats 4000000 in
set_option maxRecDepth 100000 in
theorem m_X0_hasNoFraction (l : Launch) (a0 : Int64) (res : Bool) (hf : f_X0_hasNoFraction a0 = res) : Met l yX0_hasNoFraction wsX0_hasNoFraction rmX0_hasNoFraction (my_PcP [.long a0]) (vp_Si (fun z => z = b2i res)) 0 0 (fun _ => False) := by
  refine Met.ofW (cc := cX0_hasNoFraction) (maxL := 2) (ret := (some .boolean)) (by decide) rfl ?_
  intro p e s m args below meth c s₁ B hml hv
  obtain ⟨rfl, -⟩ := hv
  have hx := B.exec
  have hb := B.bytes
  have hr := B.returns
  have hts : ∀ w ∈ wsX0_hasNoFraction, w.before ([.long a0] : List Value).toArray s = true := atoms_spec (ws := wsX0_hasNoFraction) B.pre
  have hown : s.vm.findClass RX0 = some m.cls := findClass_of_methodNamed B.named
  have hlk : meth.locks = false := B.notSynchronized
  have hl := lv_entry ([.long a0]) (n := 2) (Nat.le_of_ble_eq_true rfl)
  rw [lg_entry_eq]
  generalize (lg_sl ([.long a0]) ++ List.replicate (2 - (lg_sl ([.long a0])).length) Slot.unset).toArray = ls at hl ⊢
  have hl : lv_has ls 2 [(0, .long a0)] := hl
  unfold f_X0_hasNoFraction at hf
  refine lv_lload_n hx hb dX0_hasNoFraction_0 rfl (lv_at hl 0 rfl) ?_
  refine my_callPi (As := [.long a0]) (rest := []) ⟨hx, hb, hml, hown, hts⟩ (m_X0_isZero l a0 _ rfl) gX0_hasNoFraction_X0_isZero rfl ⟨rfl, rfl⟩ (by decide +kernel) ⟨Nat.le_of_ble_eq_true rfl, Nat.le_of_ble_eq_true rfl⟩ ⟨Nat.le_of_ble_eq_true rfl, Nat.le_of_ble_eq_true rfl⟩ hl.1 rfl rfl (Nat.le_of_ble_eq_true rfl) dX0_hasNoFraction_1 ?_
  refine my_bz_ne (x := (f_X0_isZero a0)) (tgt := 21) hx hb dX0_hasNoFraction_4 (by decide) (fun c1 => ?_) (fun c1 => ?_)
  · rw [if_neg c1] at hf
    refine lv_iconst (v := 1) hx hb dX0_hasNoFraction_21 (by decide) ?_
    refine lv_goto (tgt := 26) hx hb dX0_hasNoFraction_22 (by decide) ?_
    exact W.zret (v := b2i true) (ty := .boolean) hx hb hr (b2i_nar _) (fun t ht hW => ⟨_, rfl, congrArg b2i (hf), ht⟩) (fun q hq => absurd hq List.not_mem_nil) dX0_hasNoFraction_26
  · rw [if_pos c1] at hf
    refine lv_lload_n hx hb dX0_hasNoFraction_7 rfl (lv_at hl 0 rfl) ?_
    refine my_callPi (As := [.long a0]) (rest := []) ⟨hx, hb, hml, hown, hts⟩ (m_X0_hasNoEnd l a0 _ rfl) gX0_hasNoFraction_X0_hasNoEnd rfl ⟨rfl, rfl⟩ (by decide +kernel) ⟨Nat.le_of_ble_eq_true rfl, Nat.le_of_ble_eq_true rfl⟩ ⟨Nat.le_of_ble_eq_true rfl, Nat.le_of_ble_eq_true rfl⟩ hl.1 rfl rfl (Nat.le_of_ble_eq_true rfl) dX0_hasNoFraction_8 ?_
    refine my_bz_ne (x := (f_X0_hasNoEnd a0)) (tgt := 25) hx hb dX0_hasNoFraction_11 (by decide) (fun c2 => ?_) (fun c2 => ?_)
    · rw [if_neg c2] at hf
      refine lv_iconst (v := 0) hx hb dX0_hasNoFraction_25 (by decide) ?_
      exact W.zret (v := b2i false) (ty := .boolean) hx hb hr (b2i_nar _) (fun t ht hW => ⟨_, rfl, congrArg b2i (hf), ht⟩) (fun q hq => absurd hq List.not_mem_nil) dX0_hasNoFraction_26
    · rw [if_pos c2] at hf
      refine lv_lload_n hx hb dX0_hasNoFraction_14 rfl (lv_at hl 0 rfl) ?_
      refine my_callPi (As := [.long a0]) (rest := []) ⟨hx, hb, hml, hown, hts⟩ (m_X0_tailOf l a0 _ rfl) gX0_hasNoFraction_X0_tailOf rfl ⟨rfl, rfl⟩ (by decide +kernel) ⟨Nat.le_of_ble_eq_true rfl, Nat.le_of_ble_eq_true rfl⟩ ⟨Nat.le_of_ble_eq_true rfl, Nat.le_of_ble_eq_true rfl⟩ hl.1 rfl rfl (Nat.le_of_ble_eq_true rfl) dX0_hasNoFraction_15 ?_
      refine my_if_lt (tgt := 25) hx hb dX0_hasNoFraction_18 (by decide) (fun c3 => ?_) (fun c3 => ?_)
      · rw [if_pos c3] at hf
        refine lv_iconst (v := 0) hx hb dX0_hasNoFraction_25 (by decide) ?_
        exact W.zret (v := b2i false) (ty := .boolean) hx hb hr (b2i_nar _) (fun t ht hW => ⟨_, rfl, congrArg b2i (hf), ht⟩) (fun q hq => absurd hq List.not_mem_nil) dX0_hasNoFraction_26
      · rw [if_neg c3] at hf
        refine lv_iconst (v := 1) hx hb dX0_hasNoFraction_21 (by decide) ?_
        refine lv_goto (tgt := 26) hx hb dX0_hasNoFraction_22 (by decide) ?_
        exact W.zret (v := b2i true) (ty := .boolean) hx hb hr (b2i_nar _) (fun t ht hW => ⟨_, rfl, congrArg b2i (hf), ht⟩) (fun q hq => absurd hq List.not_mem_nil) dX0_hasNoFraction_26

def f_X0_hasLeastExponent (a0 : Int64) : Bool := (if (f_X0_exponentBits a0) = 0 then true else false)
abbrev rmX0_hasLeastExponent : Room := { frames := 1, cells := 0, slots := 0, locals := 21 }
set_option maxHeartbeats 4000000 in
set_option maxRecDepth 100000 in
theorem m_X0_hasLeastExponent (l : Launch) (a0 : Int64) (res : Bool) (hf : f_X0_hasLeastExponent a0 = res) : Met l yX0_hasLeastExponent wsX0_hasLeastExponent rmX0_hasLeastExponent (my_PcP [.long a0]) (vp_Si (fun z => z = b2i res)) 0 0 (fun _ => False) := by
  refine Met.ofW (cc := cX0_hasLeastExponent) (maxL := 2) (ret := (some .boolean)) (by decide) rfl ?_
  intro p e s m args below meth c s₁ B hml hv
  obtain ⟨rfl, -⟩ := hv
  have hx := B.exec
  have hb := B.bytes
  have hr := B.returns
  have hts : ∀ w ∈ wsX0_hasLeastExponent, w.before ([.long a0] : List Value).toArray s = true := atoms_spec (ws := wsX0_hasLeastExponent) B.pre
  have hown : s.vm.findClass RX0 = some m.cls := findClass_of_methodNamed B.named
  have hlk : meth.locks = false := B.notSynchronized
  have hl := lv_entry ([.long a0]) (n := 2) (Nat.le_of_ble_eq_true rfl)
  rw [lg_entry_eq]
  generalize (lg_sl ([.long a0]) ++ List.replicate (2 - (lg_sl ([.long a0])).length) Slot.unset).toArray = ls at hl ⊢
  have hl : lv_has ls 2 [(0, .long a0)] := hl
  unfold f_X0_hasLeastExponent at hf
  refine lv_lload_n hx hb dX0_hasLeastExponent_0 rfl (lv_at hl 0 rfl) ?_
  refine my_callPi (As := [.long a0]) (rest := []) ⟨hx, hb, hml, hown, hts⟩ (m_X0_exponentBits l a0 _ rfl) gX0_hasLeastExponent_X0_exponentBits rfl ⟨rfl, rfl⟩ (by decide +kernel) ⟨Nat.le_of_ble_eq_true rfl, Nat.le_of_ble_eq_true rfl⟩ ⟨Nat.le_of_ble_eq_true rfl, Nat.le_of_ble_eq_true rfl⟩ hl.1 rfl rfl (Nat.le_of_ble_eq_true rfl) dX0_hasLeastExponent_1 ?_
  refine my_if_ne (tgt := 11) hx hb dX0_hasLeastExponent_4 (by decide) (fun c1 => ?_) (fun c1 => ?_)
  · rw [if_neg c1] at hf
    refine lv_iconst (v := 0) hx hb dX0_hasLeastExponent_11 (by decide) ?_
    exact W.zret (v := b2i false) (ty := .boolean) hx hb hr (b2i_nar _) (fun t ht hW => ⟨_, rfl, congrArg b2i (hf), ht⟩) (fun q hq => absurd hq List.not_mem_nil) dX0_hasLeastExponent_12
  · rw [if_pos c1] at hf
    refine lv_iconst (v := 1) hx hb dX0_hasLeastExponent_7 (by decide) ?_
    refine lv_goto (tgt := 12) hx hb dX0_hasLeastExponent_8 (by decide) ?_
    exact W.zret (v := b2i true) (ty := .boolean) hx hb hr (b2i_nar _) (fun t ht hW => ⟨_, rfl, congrArg b2i (hf), ht⟩) (fun q hq => absurd hq List.not_mem_nil) dX0_hasLeastExponent_12

def f_X0_handedExponent (a0 : Int32) : Int32 := (if a0 < 64 then (a0 - 1074) else (if 191 < a0 then (a0 + 761) else (a0 - 128)))
abbrev rmX0_handedExponent : Room := { frames := 0, cells := 0, slots := 0, locals := 0 }
set_option maxHeartbeats 4000000 in
set_option maxRecDepth 100000 in
theorem m_X0_handedExponent (l : Launch) (a0 : Int32) (res : Int32) (hf : f_X0_handedExponent a0 = res) : Met l yX0_handedExponent wsX0_handedExponent rmX0_handedExponent (my_PcP [.int a0]) (vp_Si (fun z => z = res)) 0 0 (fun _ => False) := by
  refine Met.ofW (cc := cX0_handedExponent) (maxL := 1) (ret := (some .int)) (by decide) rfl ?_
  intro p e s m args below meth c s₁ B hml hv
  obtain ⟨rfl, -⟩ := hv
  have hx := B.exec
  have hb := B.bytes
  have hr := B.returns
  have hts : ∀ w ∈ wsX0_handedExponent, w.before ([.int a0] : List Value).toArray s = true := atoms_spec (ws := wsX0_handedExponent) B.pre
  have hown : s.vm.findClass RX0 = some m.cls := findClass_of_methodNamed B.named
  have hlk : meth.locks = false := B.notSynchronized
  have hl := lv_entry ([.int a0]) (n := 1) (Nat.le_of_ble_eq_true rfl)
  rw [lg_entry_eq]
  generalize (lg_sl ([.int a0]) ++ List.replicate (1 - (lg_sl ([.int a0])).length) Slot.unset).toArray = ls at hl ⊢
  have hl : lv_has ls 1 [(0, .int a0)] := hl
  unfold f_X0_handedExponent at hf
  refine lv_iload_n hx hb dX0_handedExponent_0 rfl (lv_at hl 0 rfl) ?_
  refine lv_bipush (v := 64) hx hb dX0_handedExponent_1 (by decide) ?_
  refine my_ic_ge (tgt := 12) hx hb dX0_handedExponent_3 (by decide) (fun c1 => ?_) (fun c1 => ?_)
  · rw [if_neg c1] at hf
    refine lv_iload_n hx hb dX0_handedExponent_12 rfl (lv_at hl 0 rfl) ?_
    refine lv_sipush (v := 191) hx hb dX0_handedExponent_13 (by decide) ?_
    refine my_ic_gt (tgt := 27) hx hb dX0_handedExponent_16 (by decide) (fun c2 => ?_) (fun c2 => ?_)
    · rw [if_pos c2] at hf
      refine lv_iload_n hx hb dX0_handedExponent_27 rfl (lv_at hl 0 rfl) ?_
      refine lv_sipush (v := 761) hx hb dX0_handedExponent_28 (by decide) ?_
      refine lv_iadd hx hb dX0_handedExponent_31 ?_
      exact W.iret (v := (a0 + 761)) hx hb hr (fun t ht hW => ⟨_, rfl, hf, ht⟩) (fun q hq => absurd hq List.not_mem_nil) dX0_handedExponent_32
    · rw [if_neg c2] at hf
      refine lv_iload_n hx hb dX0_handedExponent_19 rfl (lv_at hl 0 rfl) ?_
      refine lv_sipush (v := 128) hx hb dX0_handedExponent_20 (by decide) ?_
      refine lv_isub hx hb dX0_handedExponent_23 ?_
      refine lv_goto (tgt := 32) hx hb dX0_handedExponent_24 (by decide) ?_
      exact W.iret (v := (a0 - 128)) hx hb hr (fun t ht hW => ⟨_, rfl, hf, ht⟩) (fun q hq => absurd hq List.not_mem_nil) dX0_handedExponent_32
  · rw [if_pos c1] at hf
    refine lv_iload_n hx hb dX0_handedExponent_6 rfl (lv_at hl 0 rfl) ?_
    refine lv_sipush (v := 1074) hx hb dX0_handedExponent_7 (by decide) ?_
    refine lv_isub hx hb dX0_handedExponent_10 ?_
    exact W.iret (v := (a0 - 1074)) hx hb hr (fun t ht hW => ⟨_, rfl, hf, ht⟩) (fun q hq => absurd hq List.not_mem_nil) dX0_handedExponent_11

def f_J6_numberOfLeadingZeros_0f7a4 (a0 : Int32) : Int32 := (if 0 < a0 then (if a0 < 65536 then (if a0 < 256 then (if a0 < 16 then (if a0 < 4 then (31 - (jiushr a0 1)) else ((31 + (-2)) - (jiushr (jiushr a0 2) 1))) else (if (jiushr a0 4) < 4 then ((31 + (-4)) - (jiushr (jiushr a0 4) 1)) else (((31 + (-4)) + (-2)) - (jiushr (jiushr (jiushr a0 4) 2) 1)))) else (if (jiushr a0 8) < 16 then (if (jiushr a0 8) < 4 then ((31 + (-8)) - (jiushr (jiushr a0 8) 1)) else (((31 + (-8)) + (-2)) - (jiushr (jiushr (jiushr a0 8) 2) 1))) else (if (jiushr (jiushr a0 8) 4) < 4 then (((31 + (-8)) + (-4)) - (jiushr (jiushr (jiushr a0 8) 4) 1)) else ((((31 + (-8)) + (-4)) + (-2)) - (jiushr (jiushr (jiushr (jiushr a0 8) 4) 2) 1))))) else (if (jiushr a0 16) < 256 then (if (jiushr a0 16) < 16 then (if (jiushr a0 16) < 4 then ((31 + (-16)) - (jiushr (jiushr a0 16) 1)) else (((31 + (-16)) + (-2)) - (jiushr (jiushr (jiushr a0 16) 2) 1))) else (if (jiushr (jiushr a0 16) 4) < 4 then (((31 + (-16)) + (-4)) - (jiushr (jiushr (jiushr a0 16) 4) 1)) else ((((31 + (-16)) + (-4)) + (-2)) - (jiushr (jiushr (jiushr (jiushr a0 16) 4) 2) 1)))) else (if (jiushr (jiushr a0 16) 8) < 16 then (if (jiushr (jiushr a0 16) 8) < 4 then (((31 + (-16)) + (-8)) - (jiushr (jiushr (jiushr a0 16) 8) 1)) else ((((31 + (-16)) + (-8)) + (-2)) - (jiushr (jiushr (jiushr (jiushr a0 16) 8) 2) 1))) else (if (jiushr (jiushr (jiushr a0 16) 8) 4) < 4 then ((((31 + (-16)) + (-8)) + (-4)) - (jiushr (jiushr (jiushr (jiushr a0 16) 8) 4) 1)) else (((((31 + (-16)) + (-8)) + (-4)) + (-2)) - (jiushr (jiushr (jiushr (jiushr (jiushr a0 16) 8) 4) 2) 1)))))) else (if a0 = 0 then 32 else 0))
abbrev rmJ6_numberOfLeadingZeros_0f7a4 : Room := { frames := 0, cells := 0, slots := 0, locals := 0 }
set_option maxHeartbeats 4000000 in
set_option maxRecDepth 100000 in
theorem m_J6_numberOfLeadingZeros_0f7a4 (l : Launch) (a0 : Int32) (res : Int32) (hf : f_J6_numberOfLeadingZeros_0f7a4 a0 = res) : Met l yJ6_numberOfLeadingZeros_0f7a4 wsJ6_numberOfLeadingZeros_0f7a4 rmJ6_numberOfLeadingZeros_0f7a4 (my_PcP [.int a0]) (vp_Si (fun z => z = res)) 0 0 (fun _ => False) := by
  refine Met.ofW (cc := cJ6_numberOfLeadingZeros_0f7a4) (maxL := 2) (ret := (some .int)) (by decide) rfl ?_
  intro p e s m args below meth c s₁ B hml hv
  obtain ⟨rfl, -⟩ := hv
  have hx := B.exec
  have hb := B.bytes
  have hr := B.returns
  have hts : ∀ w ∈ wsJ6_numberOfLeadingZeros_0f7a4, w.before ([.int a0] : List Value).toArray s = true := atoms_spec (ws := wsJ6_numberOfLeadingZeros_0f7a4) B.pre
  have hown : s.vm.findClass RJ6 = some m.cls := findClass_of_methodNamed B.named
  have hlk : meth.locks = false := B.notSynchronized
  have q1 := hts (.constant RJ6 264 (65536)) (by decide +kernel)
  have hl := lv_entry ([.int a0]) (n := 2) (Nat.le_of_ble_eq_true rfl)
  rw [lg_entry_eq]
  generalize (lg_sl ([.int a0]) ++ List.replicate (2 - (lg_sl ([.int a0])).length) Slot.unset).toArray = ls at hl ⊢
  have hl : lv_has ls 2 [(0, .int a0)] := hl
  unfold f_J6_numberOfLeadingZeros_0f7a4 at hf
  refine lv_iload_n hx hb dJ6_numberOfLeadingZeros_0f7a4_0 rfl (lv_at hl 0 rfl) ?_
  refine my_if_gt (tgt := 15) hx hb dJ6_numberOfLeadingZeros_0f7a4_1 (by decide) (fun c1 => ?_) (fun c1 => ?_)
  · rw [if_pos c1] at hf
    refine lv_bipush (v := 31) hx hb dJ6_numberOfLeadingZeros_0f7a4_15 (by decide) ?_
    refine lv_istore_n (lv' := [(1, .int 31), (0, .int a0)]) hx hb dJ6_numberOfLeadingZeros_0f7a4_17 rfl hl (by decide) rfl (fun ls hl => ?_)
    refine lv_iload_n hx hb dJ6_numberOfLeadingZeros_0f7a4_18 rfl (lv_at hl 1 rfl) ?_
    refine lv_ldcw (v := 65536) hx hb hown q1 dJ6_numberOfLeadingZeros_0f7a4_19 ?_
    refine my_ic_lt (tgt := 33) hx hb dJ6_numberOfLeadingZeros_0f7a4_22 (by decide) (fun c2 => ?_) (fun c2 => ?_)
    · rw [if_pos c2] at hf
      refine lv_iload_n hx hb dJ6_numberOfLeadingZeros_0f7a4_33 rfl (lv_at hl 1 rfl) ?_
      refine lv_sipush (v := 256) hx hb dJ6_numberOfLeadingZeros_0f7a4_34 (by decide) ?_
      refine my_ic_lt (tgt := 48) hx hb dJ6_numberOfLeadingZeros_0f7a4_37 (by decide) (fun c3 => ?_) (fun c3 => ?_)
      · rw [if_pos c3] at hf
        refine lv_iload_n hx hb dJ6_numberOfLeadingZeros_0f7a4_48 rfl (lv_at hl 1 rfl) ?_
        refine lv_bipush (v := 16) hx hb dJ6_numberOfLeadingZeros_0f7a4_49 (by decide) ?_
        refine my_ic_lt (tgt := 61) hx hb dJ6_numberOfLeadingZeros_0f7a4_51 (by decide) (fun c4 => ?_) (fun c4 => ?_)
        · rw [if_pos c4] at hf
          refine lv_iload_n hx hb dJ6_numberOfLeadingZeros_0f7a4_61 rfl (lv_at hl 1 rfl) ?_
          refine lv_iconst (v := 4) hx hb dJ6_numberOfLeadingZeros_0f7a4_62 (by decide) ?_
          refine my_ic_lt (tgt := 73) hx hb dJ6_numberOfLeadingZeros_0f7a4_63 (by decide) (fun c5 => ?_) (fun c5 => ?_)
          · rw [if_pos c5] at hf
            refine lv_iload_n hx hb dJ6_numberOfLeadingZeros_0f7a4_73 rfl (lv_at hl 0 rfl) ?_
            refine lv_iload_n hx hb dJ6_numberOfLeadingZeros_0f7a4_74 rfl (lv_at hl 1 rfl) ?_
            refine lv_iconst (v := 1) hx hb dJ6_numberOfLeadingZeros_0f7a4_75 (by decide) ?_
            refine lv_iushr (v := (jiushr a0 1)) hx hb dJ6_numberOfLeadingZeros_0f7a4_76 rfl ?_
            refine lv_isub hx hb dJ6_numberOfLeadingZeros_0f7a4_77 ?_
            exact W.iret (v := (31 - (jiushr a0 1))) hx hb hr (fun t ht hW => ⟨_, rfl, hf, ht⟩) (fun q hq => absurd hq List.not_mem_nil) dJ6_numberOfLeadingZeros_0f7a4_78
          · rw [if_neg c5] at hf
            refine lv_iinc (v := (31 + (-2))) (lv' := [(1, .int (31 + (-2))), (0, .int a0)]) hx hb dJ6_numberOfLeadingZeros_0f7a4_66 hl (k := 0) rfl rfl (by decide) rfl (fun ls hl => ?_)
            refine lv_iload_n hx hb dJ6_numberOfLeadingZeros_0f7a4_69 rfl (lv_at hl 1 rfl) ?_
            refine lv_iconst (v := 2) hx hb dJ6_numberOfLeadingZeros_0f7a4_70 (by decide) ?_
            refine lv_iushr (v := (jiushr a0 2)) hx hb dJ6_numberOfLeadingZeros_0f7a4_71 rfl ?_
            refine lv_istore_n (lv' := [(0, .int (jiushr a0 2)), (1, .int (31 + (-2)))]) hx hb dJ6_numberOfLeadingZeros_0f7a4_72 rfl hl (by decide) rfl (fun ls hl => ?_)
            refine lv_iload_n hx hb dJ6_numberOfLeadingZeros_0f7a4_73 rfl (lv_at hl 1 rfl) ?_
            refine lv_iload_n hx hb dJ6_numberOfLeadingZeros_0f7a4_74 rfl (lv_at hl 0 rfl) ?_
            refine lv_iconst (v := 1) hx hb dJ6_numberOfLeadingZeros_0f7a4_75 (by decide) ?_
            refine lv_iushr (v := (jiushr (jiushr a0 2) 1)) hx hb dJ6_numberOfLeadingZeros_0f7a4_76 rfl ?_
            refine lv_isub hx hb dJ6_numberOfLeadingZeros_0f7a4_77 ?_
            exact W.iret (v := ((31 + (-2)) - (jiushr (jiushr a0 2) 1))) hx hb hr (fun t ht hW => ⟨_, rfl, hf, ht⟩) (fun q hq => absurd hq List.not_mem_nil) dJ6_numberOfLeadingZeros_0f7a4_78
        · rw [if_neg c4] at hf
          refine lv_iinc (v := (31 + (-4))) (lv' := [(1, .int (31 + (-4))), (0, .int a0)]) hx hb dJ6_numberOfLeadingZeros_0f7a4_54 hl (k := 0) rfl rfl (by decide) rfl (fun ls hl => ?_)
          refine lv_iload_n hx hb dJ6_numberOfLeadingZeros_0f7a4_57 rfl (lv_at hl 1 rfl) ?_
          refine lv_iconst (v := 4) hx hb dJ6_numberOfLeadingZeros_0f7a4_58 (by decide) ?_
          refine lv_iushr (v := (jiushr a0 4)) hx hb dJ6_numberOfLeadingZeros_0f7a4_59 rfl ?_
          refine lv_istore_n (lv' := [(0, .int (jiushr a0 4)), (1, .int (31 + (-4)))]) hx hb dJ6_numberOfLeadingZeros_0f7a4_60 rfl hl (by decide) rfl (fun ls hl => ?_)
          refine lv_iload_n hx hb dJ6_numberOfLeadingZeros_0f7a4_61 rfl (lv_at hl 0 rfl) ?_
          refine lv_iconst (v := 4) hx hb dJ6_numberOfLeadingZeros_0f7a4_62 (by decide) ?_
          refine my_ic_lt (tgt := 73) hx hb dJ6_numberOfLeadingZeros_0f7a4_63 (by decide) (fun c6 => ?_) (fun c6 => ?_)
          · rw [if_pos c6] at hf
            refine lv_iload_n hx hb dJ6_numberOfLeadingZeros_0f7a4_73 rfl (lv_at hl 1 rfl) ?_
            refine lv_iload_n hx hb dJ6_numberOfLeadingZeros_0f7a4_74 rfl (lv_at hl 0 rfl) ?_
            refine lv_iconst (v := 1) hx hb dJ6_numberOfLeadingZeros_0f7a4_75 (by decide) ?_
            refine lv_iushr (v := (jiushr (jiushr a0 4) 1)) hx hb dJ6_numberOfLeadingZeros_0f7a4_76 rfl ?_
            refine lv_isub hx hb dJ6_numberOfLeadingZeros_0f7a4_77 ?_
            exact W.iret (v := ((31 + (-4)) - (jiushr (jiushr a0 4) 1))) hx hb hr (fun t ht hW => ⟨_, rfl, hf, ht⟩) (fun q hq => absurd hq List.not_mem_nil) dJ6_numberOfLeadingZeros_0f7a4_78
          · rw [if_neg c6] at hf
            refine lv_iinc (v := ((31 + (-4)) + (-2))) (lv' := [(1, .int ((31 + (-4)) + (-2))), (0, .int (jiushr a0 4))]) hx hb dJ6_numberOfLeadingZeros_0f7a4_66 hl (k := 1) rfl rfl (by decide) rfl (fun ls hl => ?_)
            refine lv_iload_n hx hb dJ6_numberOfLeadingZeros_0f7a4_69 rfl (lv_at hl 1 rfl) ?_
            refine lv_iconst (v := 2) hx hb dJ6_numberOfLeadingZeros_0f7a4_70 (by decide) ?_
            refine lv_iushr (v := (jiushr (jiushr a0 4) 2)) hx hb dJ6_numberOfLeadingZeros_0f7a4_71 rfl ?_
            refine lv_istore_n (lv' := [(0, .int (jiushr (jiushr a0 4) 2)), (1, .int ((31 + (-4)) + (-2)))]) hx hb dJ6_numberOfLeadingZeros_0f7a4_72 rfl hl (by decide) rfl (fun ls hl => ?_)
            refine lv_iload_n hx hb dJ6_numberOfLeadingZeros_0f7a4_73 rfl (lv_at hl 1 rfl) ?_
            refine lv_iload_n hx hb dJ6_numberOfLeadingZeros_0f7a4_74 rfl (lv_at hl 0 rfl) ?_
            refine lv_iconst (v := 1) hx hb dJ6_numberOfLeadingZeros_0f7a4_75 (by decide) ?_
            refine lv_iushr (v := (jiushr (jiushr (jiushr a0 4) 2) 1)) hx hb dJ6_numberOfLeadingZeros_0f7a4_76 rfl ?_
            refine lv_isub hx hb dJ6_numberOfLeadingZeros_0f7a4_77 ?_
            exact W.iret (v := (((31 + (-4)) + (-2)) - (jiushr (jiushr (jiushr a0 4) 2) 1))) hx hb hr (fun t ht hW => ⟨_, rfl, hf, ht⟩) (fun q hq => absurd hq List.not_mem_nil) dJ6_numberOfLeadingZeros_0f7a4_78
      · rw [if_neg c3] at hf
        refine lv_iinc (v := (31 + (-8))) (lv' := [(1, .int (31 + (-8))), (0, .int a0)]) hx hb dJ6_numberOfLeadingZeros_0f7a4_40 hl (k := 0) rfl rfl (by decide) rfl (fun ls hl => ?_)
        refine lv_iload_n hx hb dJ6_numberOfLeadingZeros_0f7a4_43 rfl (lv_at hl 1 rfl) ?_
        refine lv_bipush (v := 8) hx hb dJ6_numberOfLeadingZeros_0f7a4_44 (by decide) ?_
        refine lv_iushr (v := (jiushr a0 8)) hx hb dJ6_numberOfLeadingZeros_0f7a4_46 rfl ?_
        refine lv_istore_n (lv' := [(0, .int (jiushr a0 8)), (1, .int (31 + (-8)))]) hx hb dJ6_numberOfLeadingZeros_0f7a4_47 rfl hl (by decide) rfl (fun ls hl => ?_)
        refine lv_iload_n hx hb dJ6_numberOfLeadingZeros_0f7a4_48 rfl (lv_at hl 0 rfl) ?_
        refine lv_bipush (v := 16) hx hb dJ6_numberOfLeadingZeros_0f7a4_49 (by decide) ?_
        refine my_ic_lt (tgt := 61) hx hb dJ6_numberOfLeadingZeros_0f7a4_51 (by decide) (fun c7 => ?_) (fun c7 => ?_)
        · rw [if_pos c7] at hf
          refine lv_iload_n hx hb dJ6_numberOfLeadingZeros_0f7a4_61 rfl (lv_at hl 0 rfl) ?_
          refine lv_iconst (v := 4) hx hb dJ6_numberOfLeadingZeros_0f7a4_62 (by decide) ?_
          refine my_ic_lt (tgt := 73) hx hb dJ6_numberOfLeadingZeros_0f7a4_63 (by decide) (fun c8 => ?_) (fun c8 => ?_)
          · rw [if_pos c8] at hf
            refine lv_iload_n hx hb dJ6_numberOfLeadingZeros_0f7a4_73 rfl (lv_at hl 1 rfl) ?_
            refine lv_iload_n hx hb dJ6_numberOfLeadingZeros_0f7a4_74 rfl (lv_at hl 0 rfl) ?_
            refine lv_iconst (v := 1) hx hb dJ6_numberOfLeadingZeros_0f7a4_75 (by decide) ?_
            refine lv_iushr (v := (jiushr (jiushr a0 8) 1)) hx hb dJ6_numberOfLeadingZeros_0f7a4_76 rfl ?_
            refine lv_isub hx hb dJ6_numberOfLeadingZeros_0f7a4_77 ?_
            exact W.iret (v := ((31 + (-8)) - (jiushr (jiushr a0 8) 1))) hx hb hr (fun t ht hW => ⟨_, rfl, hf, ht⟩) (fun q hq => absurd hq List.not_mem_nil) dJ6_numberOfLeadingZeros_0f7a4_78
          · rw [if_neg c8] at hf
            refine lv_iinc (v := ((31 + (-8)) + (-2))) (lv' := [(1, .int ((31 + (-8)) + (-2))), (0, .int (jiushr a0 8))]) hx hb dJ6_numberOfLeadingZeros_0f7a4_66 hl (k := 1) rfl rfl (by decide) rfl (fun ls hl => ?_)
            refine lv_iload_n hx hb dJ6_numberOfLeadingZeros_0f7a4_69 rfl (lv_at hl 1 rfl) ?_
            refine lv_iconst (v := 2) hx hb dJ6_numberOfLeadingZeros_0f7a4_70 (by decide) ?_
            refine lv_iushr (v := (jiushr (jiushr a0 8) 2)) hx hb dJ6_numberOfLeadingZeros_0f7a4_71 rfl ?_
            refine lv_istore_n (lv' := [(0, .int (jiushr (jiushr a0 8) 2)), (1, .int ((31 + (-8)) + (-2)))]) hx hb dJ6_numberOfLeadingZeros_0f7a4_72 rfl hl (by decide) rfl (fun ls hl => ?_)
            refine lv_iload_n hx hb dJ6_numberOfLeadingZeros_0f7a4_73 rfl (lv_at hl 1 rfl) ?_
            refine lv_iload_n hx hb dJ6_numberOfLeadingZeros_0f7a4_74 rfl (lv_at hl 0 rfl) ?_
            refine lv_iconst (v := 1) hx hb dJ6_numberOfLeadingZeros_0f7a4_75 (by decide) ?_
            refine lv_iushr (v := (jiushr (jiushr (jiushr a0 8) 2) 1)) hx hb dJ6_numberOfLeadingZeros_0f7a4_76 rfl ?_
            refine lv_isub hx hb dJ6_numberOfLeadingZeros_0f7a4_77 ?_
            exact W.iret (v := (((31 + (-8)) + (-2)) - (jiushr (jiushr (jiushr a0 8) 2) 1))) hx hb hr (fun t ht hW => ⟨_, rfl, hf, ht⟩) (fun q hq => absurd hq List.not_mem_nil) dJ6_numberOfLeadingZeros_0f7a4_78
        · rw [if_neg c7] at hf
          refine lv_iinc (v := ((31 + (-8)) + (-4))) (lv' := [(1, .int ((31 + (-8)) + (-4))), (0, .int (jiushr a0 8))]) hx hb dJ6_numberOfLeadingZeros_0f7a4_54 hl (k := 1) rfl rfl (by decide) rfl (fun ls hl => ?_)
          refine lv_iload_n hx hb dJ6_numberOfLeadingZeros_0f7a4_57 rfl (lv_at hl 1 rfl) ?_
          refine lv_iconst (v := 4) hx hb dJ6_numberOfLeadingZeros_0f7a4_58 (by decide) ?_
          refine lv_iushr (v := (jiushr (jiushr a0 8) 4)) hx hb dJ6_numberOfLeadingZeros_0f7a4_59 rfl ?_
          refine lv_istore_n (lv' := [(0, .int (jiushr (jiushr a0 8) 4)), (1, .int ((31 + (-8)) + (-4)))]) hx hb dJ6_numberOfLeadingZeros_0f7a4_60 rfl hl (by decide) rfl (fun ls hl => ?_)
          refine lv_iload_n hx hb dJ6_numberOfLeadingZeros_0f7a4_61 rfl (lv_at hl 0 rfl) ?_
          refine lv_iconst (v := 4) hx hb dJ6_numberOfLeadingZeros_0f7a4_62 (by decide) ?_
          refine my_ic_lt (tgt := 73) hx hb dJ6_numberOfLeadingZeros_0f7a4_63 (by decide) (fun c9 => ?_) (fun c9 => ?_)
          · rw [if_pos c9] at hf
            refine lv_iload_n hx hb dJ6_numberOfLeadingZeros_0f7a4_73 rfl (lv_at hl 1 rfl) ?_
            refine lv_iload_n hx hb dJ6_numberOfLeadingZeros_0f7a4_74 rfl (lv_at hl 0 rfl) ?_
            refine lv_iconst (v := 1) hx hb dJ6_numberOfLeadingZeros_0f7a4_75 (by decide) ?_
            refine lv_iushr (v := (jiushr (jiushr (jiushr a0 8) 4) 1)) hx hb dJ6_numberOfLeadingZeros_0f7a4_76 rfl ?_
            refine lv_isub hx hb dJ6_numberOfLeadingZeros_0f7a4_77 ?_
            exact W.iret (v := (((31 + (-8)) + (-4)) - (jiushr (jiushr (jiushr a0 8) 4) 1))) hx hb hr (fun t ht hW => ⟨_, rfl, hf, ht⟩) (fun q hq => absurd hq List.not_mem_nil) dJ6_numberOfLeadingZeros_0f7a4_78
          · rw [if_neg c9] at hf
            refine lv_iinc (v := (((31 + (-8)) + (-4)) + (-2))) (lv' := [(1, .int (((31 + (-8)) + (-4)) + (-2))), (0, .int (jiushr (jiushr a0 8) 4))]) hx hb dJ6_numberOfLeadingZeros_0f7a4_66 hl (k := 1) rfl rfl (by decide) rfl (fun ls hl => ?_)
            refine lv_iload_n hx hb dJ6_numberOfLeadingZeros_0f7a4_69 rfl (lv_at hl 1 rfl) ?_
            refine lv_iconst (v := 2) hx hb dJ6_numberOfLeadingZeros_0f7a4_70 (by decide) ?_
            refine lv_iushr (v := (jiushr (jiushr (jiushr a0 8) 4) 2)) hx hb dJ6_numberOfLeadingZeros_0f7a4_71 rfl ?_
            refine lv_istore_n (lv' := [(0, .int (jiushr (jiushr (jiushr a0 8) 4) 2)), (1, .int (((31 + (-8)) + (-4)) + (-2)))]) hx hb dJ6_numberOfLeadingZeros_0f7a4_72 rfl hl (by decide) rfl (fun ls hl => ?_)
            refine lv_iload_n hx hb dJ6_numberOfLeadingZeros_0f7a4_73 rfl (lv_at hl 1 rfl) ?_
            refine lv_iload_n hx hb dJ6_numberOfLeadingZeros_0f7a4_74 rfl (lv_at hl 0 rfl) ?_
            refine lv_iconst (v := 1) hx hb dJ6_numberOfLeadingZeros_0f7a4_75 (by decide) ?_
            refine lv_iushr (v := (jiushr (jiushr (jiushr (jiushr a0 8) 4) 2) 1)) hx hb dJ6_numberOfLeadingZeros_0f7a4_76 rfl ?_
            refine lv_isub hx hb dJ6_numberOfLeadingZeros_0f7a4_77 ?_
            exact W.iret (v := ((((31 + (-8)) + (-4)) + (-2)) - (jiushr (jiushr (jiushr (jiushr a0 8) 4) 2) 1))) hx hb hr (fun t ht hW => ⟨_, rfl, hf, ht⟩) (fun q hq => absurd hq List.not_mem_nil) dJ6_numberOfLeadingZeros_0f7a4_78
    · rw [if_neg c2] at hf
      refine lv_iinc (v := (31 + (-16))) (lv' := [(1, .int (31 + (-16))), (0, .int a0)]) hx hb dJ6_numberOfLeadingZeros_0f7a4_25 hl (k := 0) rfl rfl (by decide) rfl (fun ls hl => ?_)
      refine lv_iload_n hx hb dJ6_numberOfLeadingZeros_0f7a4_28 rfl (lv_at hl 1 rfl) ?_
      refine lv_bipush (v := 16) hx hb dJ6_numberOfLeadingZeros_0f7a4_29 (by decide) ?_
      refine lv_iushr (v := (jiushr a0 16)) hx hb dJ6_numberOfLeadingZeros_0f7a4_31 rfl ?_
      refine lv_istore_n (lv' := [(0, .int (jiushr a0 16)), (1, .int (31 + (-16)))]) hx hb dJ6_numberOfLeadingZeros_0f7a4_32 rfl hl (by decide) rfl (fun ls hl => ?_)
      refine lv_iload_n hx hb dJ6_numberOfLeadingZeros_0f7a4_33 rfl (lv_at hl 0 rfl) ?_
      refine lv_sipush (v := 256) hx hb dJ6_numberOfLeadingZeros_0f7a4_34 (by decide) ?_
      refine my_ic_lt (tgt := 48) hx hb dJ6_numberOfLeadingZeros_0f7a4_37 (by decide) (fun c10 => ?_) (fun c10 => ?_)
      · rw [if_pos c10] at hf
        refine lv_iload_n hx hb dJ6_numberOfLeadingZeros_0f7a4_48 rfl (lv_at hl 0 rfl) ?_
        refine lv_bipush (v := 16) hx hb dJ6_numberOfLeadingZeros_0f7a4_49 (by decide) ?_
        refine my_ic_lt (tgt := 61) hx hb dJ6_numberOfLeadingZeros_0f7a4_51 (by decide) (fun c11 => ?_) (fun c11 => ?_)
        · rw [if_pos c11] at hf
          refine lv_iload_n hx hb dJ6_numberOfLeadingZeros_0f7a4_61 rfl (lv_at hl 0 rfl) ?_
          refine lv_iconst (v := 4) hx hb dJ6_numberOfLeadingZeros_0f7a4_62 (by decide) ?_
          refine my_ic_lt (tgt := 73) hx hb dJ6_numberOfLeadingZeros_0f7a4_63 (by decide) (fun c12 => ?_) (fun c12 => ?_)
          · rw [if_pos c12] at hf
            refine lv_iload_n hx hb dJ6_numberOfLeadingZeros_0f7a4_73 rfl (lv_at hl 1 rfl) ?_
            refine lv_iload_n hx hb dJ6_numberOfLeadingZeros_0f7a4_74 rfl (lv_at hl 0 rfl) ?_
            refine lv_iconst (v := 1) hx hb dJ6_numberOfLeadingZeros_0f7a4_75 (by decide) ?_
            refine lv_iushr (v := (jiushr (jiushr a0 16) 1)) hx hb dJ6_numberOfLeadingZeros_0f7a4_76 rfl ?_
            refine lv_isub hx hb dJ6_numberOfLeadingZeros_0f7a4_77 ?_
            exact W.iret (v := ((31 + (-16)) - (jiushr (jiushr a0 16) 1))) hx hb hr (fun t ht hW => ⟨_, rfl, hf, ht⟩) (fun q hq => absurd hq List.not_mem_nil) dJ6_numberOfLeadingZeros_0f7a4_78
          · rw [if_neg c12] at hf
            refine lv_iinc (v := ((31 + (-16)) + (-2))) (lv' := [(1, .int ((31 + (-16)) + (-2))), (0, .int (jiushr a0 16))]) hx hb dJ6_numberOfLeadingZeros_0f7a4_66 hl (k := 1) rfl rfl (by decide) rfl (fun ls hl => ?_)
            refine lv_iload_n hx hb dJ6_numberOfLeadingZeros_0f7a4_69 rfl (lv_at hl 1 rfl) ?_
            refine lv_iconst (v := 2) hx hb dJ6_numberOfLeadingZeros_0f7a4_70 (by decide) ?_
            refine lv_iushr (v := (jiushr (jiushr a0 16) 2)) hx hb dJ6_numberOfLeadingZeros_0f7a4_71 rfl ?_
            refine lv_istore_n (lv' := [(0, .int (jiushr (jiushr a0 16) 2)), (1, .int ((31 + (-16)) + (-2)))]) hx hb dJ6_numberOfLeadingZeros_0f7a4_72 rfl hl (by decide) rfl (fun ls hl => ?_)
            refine lv_iload_n hx hb dJ6_numberOfLeadingZeros_0f7a4_73 rfl (lv_at hl 1 rfl) ?_
            refine lv_iload_n hx hb dJ6_numberOfLeadingZeros_0f7a4_74 rfl (lv_at hl 0 rfl) ?_
            refine lv_iconst (v := 1) hx hb dJ6_numberOfLeadingZeros_0f7a4_75 (by decide) ?_
            refine lv_iushr (v := (jiushr (jiushr (jiushr a0 16) 2) 1)) hx hb dJ6_numberOfLeadingZeros_0f7a4_76 rfl ?_
            refine lv_isub hx hb dJ6_numberOfLeadingZeros_0f7a4_77 ?_
            exact W.iret (v := (((31 + (-16)) + (-2)) - (jiushr (jiushr (jiushr a0 16) 2) 1))) hx hb hr (fun t ht hW => ⟨_, rfl, hf, ht⟩) (fun q hq => absurd hq List.not_mem_nil) dJ6_numberOfLeadingZeros_0f7a4_78
        · rw [if_neg c11] at hf
          refine lv_iinc (v := ((31 + (-16)) + (-4))) (lv' := [(1, .int ((31 + (-16)) + (-4))), (0, .int (jiushr a0 16))]) hx hb dJ6_numberOfLeadingZeros_0f7a4_54 hl (k := 1) rfl rfl (by decide) rfl (fun ls hl => ?_)
          refine lv_iload_n hx hb dJ6_numberOfLeadingZeros_0f7a4_57 rfl (lv_at hl 1 rfl) ?_
          refine lv_iconst (v := 4) hx hb dJ6_numberOfLeadingZeros_0f7a4_58 (by decide) ?_
          refine lv_iushr (v := (jiushr (jiushr a0 16) 4)) hx hb dJ6_numberOfLeadingZeros_0f7a4_59 rfl ?_
          refine lv_istore_n (lv' := [(0, .int (jiushr (jiushr a0 16) 4)), (1, .int ((31 + (-16)) + (-4)))]) hx hb dJ6_numberOfLeadingZeros_0f7a4_60 rfl hl (by decide) rfl (fun ls hl => ?_)
          refine lv_iload_n hx hb dJ6_numberOfLeadingZeros_0f7a4_61 rfl (lv_at hl 0 rfl) ?_
          refine lv_iconst (v := 4) hx hb dJ6_numberOfLeadingZeros_0f7a4_62 (by decide) ?_
          refine my_ic_lt (tgt := 73) hx hb dJ6_numberOfLeadingZeros_0f7a4_63 (by decide) (fun c13 => ?_) (fun c13 => ?_)
          · rw [if_pos c13] at hf
            refine lv_iload_n hx hb dJ6_numberOfLeadingZeros_0f7a4_73 rfl (lv_at hl 1 rfl) ?_
            refine lv_iload_n hx hb dJ6_numberOfLeadingZeros_0f7a4_74 rfl (lv_at hl 0 rfl) ?_
            refine lv_iconst (v := 1) hx hb dJ6_numberOfLeadingZeros_0f7a4_75 (by decide) ?_
            refine lv_iushr (v := (jiushr (jiushr (jiushr a0 16) 4) 1)) hx hb dJ6_numberOfLeadingZeros_0f7a4_76 rfl ?_
            refine lv_isub hx hb dJ6_numberOfLeadingZeros_0f7a4_77 ?_
            exact W.iret (v := (((31 + (-16)) + (-4)) - (jiushr (jiushr (jiushr a0 16) 4) 1))) hx hb hr (fun t ht hW => ⟨_, rfl, hf, ht⟩) (fun q hq => absurd hq List.not_mem_nil) dJ6_numberOfLeadingZeros_0f7a4_78
          · rw [if_neg c13] at hf
            refine lv_iinc (v := (((31 + (-16)) + (-4)) + (-2))) (lv' := [(1, .int (((31 + (-16)) + (-4)) + (-2))), (0, .int (jiushr (jiushr a0 16) 4))]) hx hb dJ6_numberOfLeadingZeros_0f7a4_66 hl (k := 1) rfl rfl (by decide) rfl (fun ls hl => ?_)
            refine lv_iload_n hx hb dJ6_numberOfLeadingZeros_0f7a4_69 rfl (lv_at hl 1 rfl) ?_
            refine lv_iconst (v := 2) hx hb dJ6_numberOfLeadingZeros_0f7a4_70 (by decide) ?_
            refine lv_iushr (v := (jiushr (jiushr (jiushr a0 16) 4) 2)) hx hb dJ6_numberOfLeadingZeros_0f7a4_71 rfl ?_
            refine lv_istore_n (lv' := [(0, .int (jiushr (jiushr (jiushr a0 16) 4) 2)), (1, .int (((31 + (-16)) + (-4)) + (-2)))]) hx hb dJ6_numberOfLeadingZeros_0f7a4_72 rfl hl (by decide) rfl (fun ls hl => ?_)
            refine lv_iload_n hx hb dJ6_numberOfLeadingZeros_0f7a4_73 rfl (lv_at hl 1 rfl) ?_
            refine lv_iload_n hx hb dJ6_numberOfLeadingZeros_0f7a4_74 rfl (lv_at hl 0 rfl) ?_
            refine lv_iconst (v := 1) hx hb dJ6_numberOfLeadingZeros_0f7a4_75 (by decide) ?_
            refine lv_iushr (v := (jiushr (jiushr (jiushr (jiushr a0 16) 4) 2) 1)) hx hb dJ6_numberOfLeadingZeros_0f7a4_76 rfl ?_
            refine lv_isub hx hb dJ6_numberOfLeadingZeros_0f7a4_77 ?_
            exact W.iret (v := ((((31 + (-16)) + (-4)) + (-2)) - (jiushr (jiushr (jiushr (jiushr a0 16) 4) 2) 1))) hx hb hr (fun t ht hW => ⟨_, rfl, hf, ht⟩) (fun q hq => absurd hq List.not_mem_nil) dJ6_numberOfLeadingZeros_0f7a4_78
      · rw [if_neg c10] at hf
        refine lv_iinc (v := ((31 + (-16)) + (-8))) (lv' := [(1, .int ((31 + (-16)) + (-8))), (0, .int (jiushr a0 16))]) hx hb dJ6_numberOfLeadingZeros_0f7a4_40 hl (k := 1) rfl rfl (by decide) rfl (fun ls hl => ?_)
        refine lv_iload_n hx hb dJ6_numberOfLeadingZeros_0f7a4_43 rfl (lv_at hl 1 rfl) ?_
        refine lv_bipush (v := 8) hx hb dJ6_numberOfLeadingZeros_0f7a4_44 (by decide) ?_
        refine lv_iushr (v := (jiushr (jiushr a0 16) 8)) hx hb dJ6_numberOfLeadingZeros_0f7a4_46 rfl ?_
        refine lv_istore_n (lv' := [(0, .int (jiushr (jiushr a0 16) 8)), (1, .int ((31 + (-16)) + (-8)))]) hx hb dJ6_numberOfLeadingZeros_0f7a4_47 rfl hl (by decide) rfl (fun ls hl => ?_)
        refine lv_iload_n hx hb dJ6_numberOfLeadingZeros_0f7a4_48 rfl (lv_at hl 0 rfl) ?_
        refine lv_bipush (v := 16) hx hb dJ6_numberOfLeadingZeros_0f7a4_49 (by decide) ?_
        refine my_ic_lt (tgt := 61) hx hb dJ6_numberOfLeadingZeros_0f7a4_51 (by decide) (fun c14 => ?_) (fun c14 => ?_)
        · rw [if_pos c14] at hf
          refine lv_iload_n hx hb dJ6_numberOfLeadingZeros_0f7a4_61 rfl (lv_at hl 0 rfl) ?_
          refine lv_iconst (v := 4) hx hb dJ6_numberOfLeadingZeros_0f7a4_62 (by decide) ?_
          refine my_ic_lt (tgt := 73) hx hb dJ6_numberOfLeadingZeros_0f7a4_63 (by decide) (fun c15 => ?_) (fun c15 => ?_)
          · rw [if_pos c15] at hf
            refine lv_iload_n hx hb dJ6_numberOfLeadingZeros_0f7a4_73 rfl (lv_at hl 1 rfl) ?_
            refine lv_iload_n hx hb dJ6_numberOfLeadingZeros_0f7a4_74 rfl (lv_at hl 0 rfl) ?_
            refine lv_iconst (v := 1) hx hb dJ6_numberOfLeadingZeros_0f7a4_75 (by decide) ?_
            refine lv_iushr (v := (jiushr (jiushr (jiushr a0 16) 8) 1)) hx hb dJ6_numberOfLeadingZeros_0f7a4_76 rfl ?_
            refine lv_isub hx hb dJ6_numberOfLeadingZeros_0f7a4_77 ?_
            exact W.iret (v := (((31 + (-16)) + (-8)) - (jiushr (jiushr (jiushr a0 16) 8) 1))) hx hb hr (fun t ht hW => ⟨_, rfl, hf, ht⟩) (fun q hq => absurd hq List.not_mem_nil) dJ6_numberOfLeadingZeros_0f7a4_78
          · rw [if_neg c15] at hf
            refine lv_iinc (v := (((31 + (-16)) + (-8)) + (-2))) (lv' := [(1, .int (((31 + (-16)) + (-8)) + (-2))), (0, .int (jiushr (jiushr a0 16) 8))]) hx hb dJ6_numberOfLeadingZeros_0f7a4_66 hl (k := 1) rfl rfl (by decide) rfl (fun ls hl => ?_)
            refine lv_iload_n hx hb dJ6_numberOfLeadingZeros_0f7a4_69 rfl (lv_at hl 1 rfl) ?_
            refine lv_iconst (v := 2) hx hb dJ6_numberOfLeadingZeros_0f7a4_70 (by decide) ?_
            refine lv_iushr (v := (jiushr (jiushr (jiushr a0 16) 8) 2)) hx hb dJ6_numberOfLeadingZeros_0f7a4_71 rfl ?_
            refine lv_istore_n (lv' := [(0, .int (jiushr (jiushr (jiushr a0 16) 8) 2)), (1, .int (((31 + (-16)) + (-8)) + (-2)))]) hx hb dJ6_numberOfLeadingZeros_0f7a4_72 rfl hl (by decide) rfl (fun ls hl => ?_)
            refine lv_iload_n hx hb dJ6_numberOfLeadingZeros_0f7a4_73 rfl (lv_at hl 1 rfl) ?_
            refine lv_iload_n hx hb dJ6_numberOfLeadingZeros_0f7a4_74 rfl (lv_at hl 0 rfl) ?_
            refine lv_iconst (v := 1) hx hb dJ6_numberOfLeadingZeros_0f7a4_75 (by decide) ?_
            refine lv_iushr (v := (jiushr (jiushr (jiushr (jiushr a0 16) 8) 2) 1)) hx hb dJ6_numberOfLeadingZeros_0f7a4_76 rfl ?_
            refine lv_isub hx hb dJ6_numberOfLeadingZeros_0f7a4_77 ?_
            exact W.iret (v := ((((31 + (-16)) + (-8)) + (-2)) - (jiushr (jiushr (jiushr (jiushr a0 16) 8) 2) 1))) hx hb hr (fun t ht hW => ⟨_, rfl, hf, ht⟩) (fun q hq => absurd hq List.not_mem_nil) dJ6_numberOfLeadingZeros_0f7a4_78
        · rw [if_neg c14] at hf
          refine lv_iinc (v := (((31 + (-16)) + (-8)) + (-4))) (lv' := [(1, .int (((31 + (-16)) + (-8)) + (-4))), (0, .int (jiushr (jiushr a0 16) 8))]) hx hb dJ6_numberOfLeadingZeros_0f7a4_54 hl (k := 1) rfl rfl (by decide) rfl (fun ls hl => ?_)
          refine lv_iload_n hx hb dJ6_numberOfLeadingZeros_0f7a4_57 rfl (lv_at hl 1 rfl) ?_
          refine lv_iconst (v := 4) hx hb dJ6_numberOfLeadingZeros_0f7a4_58 (by decide) ?_
          refine lv_iushr (v := (jiushr (jiushr (jiushr a0 16) 8) 4)) hx hb dJ6_numberOfLeadingZeros_0f7a4_59 rfl ?_
          refine lv_istore_n (lv' := [(0, .int (jiushr (jiushr (jiushr a0 16) 8) 4)), (1, .int (((31 + (-16)) + (-8)) + (-4)))]) hx hb dJ6_numberOfLeadingZeros_0f7a4_60 rfl hl (by decide) rfl (fun ls hl => ?_)
          refine lv_iload_n hx hb dJ6_numberOfLeadingZeros_0f7a4_61 rfl (lv_at hl 0 rfl) ?_
          refine lv_iconst (v := 4) hx hb dJ6_numberOfLeadingZeros_0f7a4_62 (by decide) ?_
          refine my_ic_lt (tgt := 73) hx hb dJ6_numberOfLeadingZeros_0f7a4_63 (by decide) (fun c16 => ?_) (fun c16 => ?_)
          · rw [if_pos c16] at hf
            refine lv_iload_n hx hb dJ6_numberOfLeadingZeros_0f7a4_73 rfl (lv_at hl 1 rfl) ?_
            refine lv_iload_n hx hb dJ6_numberOfLeadingZeros_0f7a4_74 rfl (lv_at hl 0 rfl) ?_
            refine lv_iconst (v := 1) hx hb dJ6_numberOfLeadingZeros_0f7a4_75 (by decide) ?_
            refine lv_iushr (v := (jiushr (jiushr (jiushr (jiushr a0 16) 8) 4) 1)) hx hb dJ6_numberOfLeadingZeros_0f7a4_76 rfl ?_
            refine lv_isub hx hb dJ6_numberOfLeadingZeros_0f7a4_77 ?_
            exact W.iret (v := ((((31 + (-16)) + (-8)) + (-4)) - (jiushr (jiushr (jiushr (jiushr a0 16) 8) 4) 1))) hx hb hr (fun t ht hW => ⟨_, rfl, hf, ht⟩) (fun q hq => absurd hq List.not_mem_nil) dJ6_numberOfLeadingZeros_0f7a4_78
          · rw [if_neg c16] at hf
            refine lv_iinc (v := ((((31 + (-16)) + (-8)) + (-4)) + (-2))) (lv' := [(1, .int ((((31 + (-16)) + (-8)) + (-4)) + (-2))), (0, .int (jiushr (jiushr (jiushr a0 16) 8) 4))]) hx hb dJ6_numberOfLeadingZeros_0f7a4_66 hl (k := 1) rfl rfl (by decide) rfl (fun ls hl => ?_)
            refine lv_iload_n hx hb dJ6_numberOfLeadingZeros_0f7a4_69 rfl (lv_at hl 1 rfl) ?_
            refine lv_iconst (v := 2) hx hb dJ6_numberOfLeadingZeros_0f7a4_70 (by decide) ?_
            refine lv_iushr (v := (jiushr (jiushr (jiushr (jiushr a0 16) 8) 4) 2)) hx hb dJ6_numberOfLeadingZeros_0f7a4_71 rfl ?_
            refine lv_istore_n (lv' := [(0, .int (jiushr (jiushr (jiushr (jiushr a0 16) 8) 4) 2)), (1, .int ((((31 + (-16)) + (-8)) + (-4)) + (-2)))]) hx hb dJ6_numberOfLeadingZeros_0f7a4_72 rfl hl (by decide) rfl (fun ls hl => ?_)
            refine lv_iload_n hx hb dJ6_numberOfLeadingZeros_0f7a4_73 rfl (lv_at hl 1 rfl) ?_
            refine lv_iload_n hx hb dJ6_numberOfLeadingZeros_0f7a4_74 rfl (lv_at hl 0 rfl) ?_
            refine lv_iconst (v := 1) hx hb dJ6_numberOfLeadingZeros_0f7a4_75 (by decide) ?_
            refine lv_iushr (v := (jiushr (jiushr (jiushr (jiushr (jiushr a0 16) 8) 4) 2) 1)) hx hb dJ6_numberOfLeadingZeros_0f7a4_76 rfl ?_
            refine lv_isub hx hb dJ6_numberOfLeadingZeros_0f7a4_77 ?_
            exact W.iret (v := (((((31 + (-16)) + (-8)) + (-4)) + (-2)) - (jiushr (jiushr (jiushr (jiushr (jiushr a0 16) 8) 4) 2) 1))) hx hb hr (fun t ht hW => ⟨_, rfl, hf, ht⟩) (fun q hq => absurd hq List.not_mem_nil) dJ6_numberOfLeadingZeros_0f7a4_78
  · rw [if_neg c1] at hf
    refine lv_iload_n hx hb dJ6_numberOfLeadingZeros_0f7a4_4 rfl (lv_at hl 0 rfl) ?_
    refine my_if_ne (tgt := 13) hx hb dJ6_numberOfLeadingZeros_0f7a4_5 (by decide) (fun c17 => ?_) (fun c17 => ?_)
    · rw [if_neg c17] at hf
      refine lv_iconst (v := 0) hx hb dJ6_numberOfLeadingZeros_0f7a4_13 (by decide) ?_
      exact W.iret (v := 0) hx hb hr (fun t ht hW => ⟨_, rfl, hf, ht⟩) (fun q hq => absurd hq List.not_mem_nil) dJ6_numberOfLeadingZeros_0f7a4_14
    · rw [if_pos c17] at hf
      refine lv_bipush (v := 32) hx hb dJ6_numberOfLeadingZeros_0f7a4_8 (by decide) ?_
      refine lv_goto (tgt := 14) hx hb dJ6_numberOfLeadingZeros_0f7a4_10 (by decide) ?_
      exact W.iret (v := 32) hx hb hr (fun t ht hW => ⟨_, rfl, hf, ht⟩) (fun q hq => absurd hq List.not_mem_nil) dJ6_numberOfLeadingZeros_0f7a4_14

def f_J13_numberOfLeadingZeros_95d88 (a0 : Int64) : Int32 := (if ((jushr a0 32).toInt32) = 0 then (32 + (f_J6_numberOfLeadingZeros_0f7a4 (a0.toInt32))) else (f_J6_numberOfLeadingZeros_0f7a4 ((jushr a0 32).toInt32)))
abbrev rmJ13_numberOfLeadingZeros_95d88 : Room := { frames := 1, cells := 0, slots := 0, locals := 21 }
set_option maxHeartbeats 4000000 in
set_option maxRecDepth 100000 in
theorem m_J13_numberOfLeadingZeros_95d88 (l : Launch) (a0 : Int64) (res : Int32) (hf : f_J13_numberOfLeadingZeros_95d88 a0 = res) : Met l yJ13_numberOfLeadingZeros_95d88 wsJ13_numberOfLeadingZeros_95d88 rmJ13_numberOfLeadingZeros_95d88 (my_PcP [.long a0]) (vp_Si (fun z => z = res)) 0 0 (fun _ => False) := by
  refine Met.ofW (cc := cJ13_numberOfLeadingZeros_95d88) (maxL := 3) (ret := (some .int)) (by decide) rfl ?_
  intro p e s m args below meth c s₁ B hml hv
  obtain ⟨rfl, -⟩ := hv
  have hx := B.exec
  have hb := B.bytes
  have hr := B.returns
  have hts : ∀ w ∈ wsJ13_numberOfLeadingZeros_95d88, w.before ([.long a0] : List Value).toArray s = true := atoms_spec (ws := wsJ13_numberOfLeadingZeros_95d88) B.pre
  have hown : s.vm.findClass RJ13 = some m.cls := findClass_of_methodNamed B.named
  have hlk : meth.locks = false := B.notSynchronized
  have hl := lv_entry ([.long a0]) (n := 3) (Nat.le_of_ble_eq_true rfl)
  rw [lg_entry_eq]
  generalize (lg_sl ([.long a0]) ++ List.replicate (3 - (lg_sl ([.long a0])).length) Slot.unset).toArray = ls at hl ⊢
  have hl : lv_has ls 3 [(0, .long a0)] := hl
  unfold f_J13_numberOfLeadingZeros_95d88 at hf
  refine lv_lload_n hx hb dJ13_numberOfLeadingZeros_95d88_0 rfl (lv_at hl 0 rfl) ?_
  refine lv_bipush (v := 32) hx hb dJ13_numberOfLeadingZeros_95d88_1 (by decide) ?_
  refine lv_lushr (v := (jushr a0 32)) hx hb dJ13_numberOfLeadingZeros_95d88_3 rfl ?_
  refine lv_l2i (v := ((jushr a0 32).toInt32)) hx hb dJ13_numberOfLeadingZeros_95d88_4 rfl ?_
  refine lv_istore_n (lv' := [(2, .int ((jushr a0 32).toInt32)), (0, .long a0)]) hx hb dJ13_numberOfLeadingZeros_95d88_5 rfl hl (by decide) rfl (fun ls hl => ?_)
  refine lv_iload_n hx hb dJ13_numberOfLeadingZeros_95d88_6 rfl (lv_at hl 0 rfl) ?_
  refine my_if_ne (tgt := 21) hx hb dJ13_numberOfLeadingZeros_95d88_7 (by decide) (fun c1 => ?_) (fun c1 => ?_)
  · rw [if_neg c1] at hf
    refine lv_iload_n hx hb dJ13_numberOfLeadingZeros_95d88_21 rfl (lv_at hl 0 rfl) ?_
    refine my_callPi (As := [.int ((jushr a0 32).toInt32)]) (rest := []) ⟨hx, hb, hml, hown, hts⟩ (m_J6_numberOfLeadingZeros_0f7a4 l ((jushr a0 32).toInt32) _ rfl) gJ13_numberOfLeadingZeros_95d88_J6_numberOfLeadingZeros_0f7a4 rfl ⟨rfl, rfl⟩ (by decide +kernel) ⟨Nat.le_of_ble_eq_true rfl, Nat.le_of_ble_eq_true rfl⟩ ⟨Nat.le_of_ble_eq_true rfl, Nat.le_of_ble_eq_true rfl⟩ hl.1 rfl rfl (Nat.le_of_ble_eq_true rfl) dJ13_numberOfLeadingZeros_95d88_22 ?_
    exact W.iret (v := (f_J6_numberOfLeadingZeros_0f7a4 ((jushr a0 32).toInt32))) hx hb hr (fun t ht hW => ⟨_, rfl, hf, ht⟩) (fun q hq => absurd hq List.not_mem_nil) dJ13_numberOfLeadingZeros_95d88_25
  · rw [if_pos c1] at hf
    refine lv_bipush (v := 32) hx hb dJ13_numberOfLeadingZeros_95d88_10 (by decide) ?_
    refine lv_lload_n hx hb dJ13_numberOfLeadingZeros_95d88_12 rfl (lv_at hl 1 rfl) ?_
    refine lv_l2i (v := (a0.toInt32)) hx hb dJ13_numberOfLeadingZeros_95d88_13 rfl ?_
    refine my_callPi (As := [.int (a0.toInt32)]) (rest := [.int 32]) ⟨hx, hb, hml, hown, hts⟩ (m_J6_numberOfLeadingZeros_0f7a4 l (a0.toInt32) _ rfl) gJ13_numberOfLeadingZeros_95d88_J6_numberOfLeadingZeros_0f7a4 rfl ⟨rfl, rfl⟩ (by decide +kernel) ⟨Nat.le_of_ble_eq_true rfl, Nat.le_of_ble_eq_true rfl⟩ ⟨Nat.le_of_ble_eq_true rfl, Nat.le_of_ble_eq_true rfl⟩ hl.1 rfl rfl (Nat.le_of_ble_eq_true rfl) dJ13_numberOfLeadingZeros_95d88_14 ?_
    refine lv_iadd hx hb dJ13_numberOfLeadingZeros_95d88_17 ?_
    refine lv_goto (tgt := 25) hx hb dJ13_numberOfLeadingZeros_95d88_18 (by decide) ?_
    exact W.iret (v := (32 + (f_J6_numberOfLeadingZeros_0f7a4 (a0.toInt32)))) hx hb hr (fun t ht hW => ⟨_, rfl, hf, ht⟩) (fun q hq => absurd hq List.not_mem_nil) dJ13_numberOfLeadingZeros_95d88_25

def f_X0_halved (a0 : Int64) (a1 : Int32) : Int64 := (if 54 < a1 then 0 else (if (jshl 1 (a1 - 1)) < (a0 - (jshl (jshr a0 a1) a1)) then (if 1 = 0 then (jshr a0 a1) else ((jshr a0 a1) + 1)) else (if (a0 - (jshl (jshr a0 a1) a1)) = (jshl 1 (a1 - 1)) then (if ((jshr a0 a1) &&& 1) = 1 then (if 1 = 0 then (jshr a0 a1) else ((jshr a0 a1) + 1)) else (if 0 = 0 then (jshr a0 a1) else ((jshr a0 a1) + 1))) else (if 0 = 0 then (jshr a0 a1) else ((jshr a0 a1) + 1)))))
abbrev rmX0_halved : Room := { frames := 0, cells := 0, slots := 0, locals := 0 }
set_option maxHeartbeats 4000000 in
set_option maxRecDepth 100000 in
theorem m_X0_halved (l : Launch) (a0 : Int64) (a1 : Int32) (res : Int64) (hf : f_X0_halved a0 a1 = res) : Met l yX0_halved wsX0_halved rmX0_halved (my_PcP [.long a0, .int a1]) (vp_Sl (fun z => z = res)) 0 0 (fun _ => False) := by
  refine Met.ofW (cc := cX0_halved) (maxL := 10) (ret := (some .long)) (by decide) rfl ?_
  intro p e s m args below meth c s₁ B hml hv
  obtain ⟨rfl, -⟩ := hv
  have hx := B.exec
  have hb := B.bytes
  have hr := B.returns
  have hts : ∀ w ∈ wsX0_halved, w.before ([.long a0, .int a1] : List Value).toArray s = true := atoms_spec (ws := wsX0_halved) B.pre
  have hown : s.vm.findClass RX0 = some m.cls := findClass_of_methodNamed B.named
  have hlk : meth.locks = false := B.notSynchronized
  have hl := lv_entry ([.long a0, .int a1]) (n := 10) (Nat.le_of_ble_eq_true rfl)
  rw [lg_entry_eq]
  generalize (lg_sl ([.long a0, .int a1]) ++ List.replicate (10 - (lg_sl ([.long a0, .int a1])).length) Slot.unset).toArray = ls at hl ⊢
  have hl : lv_has ls 10 [(0, .long a0), (2, .int a1)] := hl
  unfold f_X0_halved at hf
  refine lv_iload_n hx hb dX0_halved_0 rfl (lv_at hl 1 rfl) ?_
  refine lv_bipush (v := 54) hx hb dX0_halved_1 (by decide) ?_
  refine my_ic_le (tgt := 8) hx hb dX0_halved_3 (by decide) (fun c1 => ?_) (fun c1 => ?_)
  · rw [if_neg c1] at hf
    refine lv_lload_n hx hb dX0_halved_8 rfl (lv_at hl 0 rfl) ?_
    refine lv_iload_n hx hb dX0_halved_9 rfl (lv_at hl 1 rfl) ?_
    refine lv_lshr (v := (jshr a0 a1)) hx hb dX0_halved_10 rfl ?_
    refine lv_lstore_n (lv' := [(3, .long (jshr a0 a1)), (0, .long a0), (2, .int a1)]) hx hb dX0_halved_11 rfl hl (by decide) rfl (fun ls hl => ?_)
    refine lv_lload_n hx hb dX0_halved_12 rfl (lv_at hl 1 rfl) ?_
    refine lv_lload_n hx hb dX0_halved_13 rfl (lv_at hl 0 rfl) ?_
    refine lv_iload_n hx hb dX0_halved_14 rfl (lv_at hl 2 rfl) ?_
    refine lv_lshl (v := (jshl (jshr a0 a1) a1)) hx hb dX0_halved_15 rfl ?_
    refine lv_lsub hx hb dX0_halved_16 ?_
    refine lv_lstore (lv' := [(5, .long (a0 - (jshl (jshr a0 a1) a1))), (3, .long (jshr a0 a1)), (0, .long a0), (2, .int a1)]) hx hb dX0_halved_17 hl (by decide) rfl (fun ls hl => ?_)
    refine lv_lconst (v := 1) hx hb dX0_halved_19 (by decide) ?_
    refine lv_iload_n hx hb dX0_halved_20 rfl (lv_at hl 3 rfl) ?_
    refine lv_iconst (v := 1) hx hb dX0_halved_21 (by decide) ?_
    refine lv_isub hx hb dX0_halved_22 ?_
    refine lv_lshl (v := (jshl 1 (a1 - 1))) hx hb dX0_halved_23 rfl ?_
    refine lv_lstore (lv' := [(7, .long (jshl 1 (a1 - 1))), (5, .long (a0 - (jshl (jshr a0 a1) a1))), (3, .long (jshr a0 a1)), (0, .long a0), (2, .int a1)]) hx hb dX0_halved_24 hl (by decide) rfl (fun ls hl => ?_)
    refine lv_lload hx hb dX0_halved_26 (lv_at hl 1 rfl) ?_
    refine lv_lload hx hb dX0_halved_28 (lv_at hl 0 rfl) ?_
    refine my_lc_gt (tgt := 50) hx hb dX0_halved_30 dX0_halved_31 (by decide) (fun c2 => ?_) (fun c2 => ?_)
    · rw [if_pos c2] at hf
      refine lv_iconst (v := 1) hx hb dX0_halved_50 (by decide) ?_
      refine lv_goto (tgt := 55) hx hb dX0_halved_51 (by decide) ?_
      refine lv_istore (lv' := [(9, .int 1), (7, .long (jshl 1 (a1 - 1))), (5, .long (a0 - (jshl (jshr a0 a1) a1))), (3, .long (jshr a0 a1)), (0, .long a0), (2, .int a1)]) hx hb dX0_halved_55 hl (by decide) rfl (fun ls hl => ?_)
      refine lv_iload hx hb dX0_halved_57 (lv_at hl 0 rfl) ?_
      refine my_if_eq (tgt := 68) hx hb dX0_halved_59 (by decide) (fun c3 => ?_) (fun c3 => ?_)
      · rw [if_pos c3] at hf
        refine lv_lload_n hx hb dX0_halved_68 rfl (lv_at hl 3 rfl) ?_
        exact W.lret (v := (jshr a0 a1)) hx hb hr (fun t ht hW => ⟨_, rfl, hf, ht⟩) (fun q hq => absurd hq List.not_mem_nil) dX0_halved_69
      · rw [if_neg c3] at hf
        refine lv_lload_n hx hb dX0_halved_62 rfl (lv_at hl 3 rfl) ?_
        refine lv_lconst (v := 1) hx hb dX0_halved_63 (by decide) ?_
        refine lv_ladd hx hb dX0_halved_64 ?_
        refine lv_goto (tgt := 69) hx hb dX0_halved_65 (by decide) ?_
        exact W.lret (v := ((jshr a0 a1) + 1)) hx hb hr (fun t ht hW => ⟨_, rfl, hf, ht⟩) (fun q hq => absurd hq List.not_mem_nil) dX0_halved_69
    · rw [if_neg c2] at hf
      refine lv_lload hx hb dX0_halved_34 (lv_at hl 1 rfl) ?_
      refine lv_lload hx hb dX0_halved_36 (lv_at hl 0 rfl) ?_
      refine my_lc_ne (tgt := 54) hx hb dX0_halved_38 dX0_halved_39 (by decide) (fun c4 => ?_) (fun c4 => ?_)
      · rw [if_neg c4] at hf
        refine lv_iconst (v := 0) hx hb dX0_halved_54 (by decide) ?_
        refine lv_istore (lv' := [(9, .int 0), (7, .long (jshl 1 (a1 - 1))), (5, .long (a0 - (jshl (jshr a0 a1) a1))), (3, .long (jshr a0 a1)), (0, .long a0), (2, .int a1)]) hx hb dX0_halved_55 hl (by decide) rfl (fun ls hl => ?_)
        refine lv_iload hx hb dX0_halved_57 (lv_at hl 0 rfl) ?_
        refine my_if_eq (tgt := 68) hx hb dX0_halved_59 (by decide) (fun c5 => ?_) (fun c5 => ?_)
        · rw [if_pos c5] at hf
          refine lv_lload_n hx hb dX0_halved_68 rfl (lv_at hl 3 rfl) ?_
          exact W.lret (v := (jshr a0 a1)) hx hb hr (fun t ht hW => ⟨_, rfl, hf, ht⟩) (fun q hq => absurd hq List.not_mem_nil) dX0_halved_69
        · rw [if_neg c5] at hf
          refine lv_lload_n hx hb dX0_halved_62 rfl (lv_at hl 3 rfl) ?_
          refine lv_lconst (v := 1) hx hb dX0_halved_63 (by decide) ?_
          refine lv_ladd hx hb dX0_halved_64 ?_
          refine lv_goto (tgt := 69) hx hb dX0_halved_65 (by decide) ?_
          exact W.lret (v := ((jshr a0 a1) + 1)) hx hb hr (fun t ht hW => ⟨_, rfl, hf, ht⟩) (fun q hq => absurd hq List.not_mem_nil) dX0_halved_69
      · rw [if_pos c4] at hf
        refine lv_lload_n hx hb dX0_halved_42 rfl (lv_at hl 2 rfl) ?_
        refine lv_lconst (v := 1) hx hb dX0_halved_43 (by decide) ?_
        refine lv_land hx hb dX0_halved_44 ?_
        refine lv_lconst (v := 1) hx hb dX0_halved_45 (by decide) ?_
        refine my_lc_ne (tgt := 54) hx hb dX0_halved_46 dX0_halved_47 (by decide) (fun c6 => ?_) (fun c6 => ?_)
        · rw [if_neg c6] at hf
          refine lv_iconst (v := 0) hx hb dX0_halved_54 (by decide) ?_
          refine lv_istore (lv' := [(9, .int 0), (7, .long (jshl 1 (a1 - 1))), (5, .long (a0 - (jshl (jshr a0 a1) a1))), (3, .long (jshr a0 a1)), (0, .long a0), (2, .int a1)]) hx hb dX0_halved_55 hl (by decide) rfl (fun ls hl => ?_)
          refine lv_iload hx hb dX0_halved_57 (lv_at hl 0 rfl) ?_
          refine my_if_eq (tgt := 68) hx hb dX0_halved_59 (by decide) (fun c7 => ?_) (fun c7 => ?_)
          · rw [if_pos c7] at hf
            refine lv_lload_n hx hb dX0_halved_68 rfl (lv_at hl 3 rfl) ?_
            exact W.lret (v := (jshr a0 a1)) hx hb hr (fun t ht hW => ⟨_, rfl, hf, ht⟩) (fun q hq => absurd hq List.not_mem_nil) dX0_halved_69
          · rw [if_neg c7] at hf
            refine lv_lload_n hx hb dX0_halved_62 rfl (lv_at hl 3 rfl) ?_
            refine lv_lconst (v := 1) hx hb dX0_halved_63 (by decide) ?_
            refine lv_ladd hx hb dX0_halved_64 ?_
            refine lv_goto (tgt := 69) hx hb dX0_halved_65 (by decide) ?_
            exact W.lret (v := ((jshr a0 a1) + 1)) hx hb hr (fun t ht hW => ⟨_, rfl, hf, ht⟩) (fun q hq => absurd hq List.not_mem_nil) dX0_halved_69
        · rw [if_pos c6] at hf
          refine lv_iconst (v := 1) hx hb dX0_halved_50 (by decide) ?_
          refine lv_goto (tgt := 55) hx hb dX0_halved_51 (by decide) ?_
          refine lv_istore (lv' := [(9, .int 1), (7, .long (jshl 1 (a1 - 1))), (5, .long (a0 - (jshl (jshr a0 a1) a1))), (3, .long (jshr a0 a1)), (0, .long a0), (2, .int a1)]) hx hb dX0_halved_55 hl (by decide) rfl (fun ls hl => ?_)
          refine lv_iload hx hb dX0_halved_57 (lv_at hl 0 rfl) ?_
          refine my_if_eq (tgt := 68) hx hb dX0_halved_59 (by decide) (fun c8 => ?_) (fun c8 => ?_)
          · rw [if_pos c8] at hf
            refine lv_lload_n hx hb dX0_halved_68 rfl (lv_at hl 3 rfl) ?_
            exact W.lret (v := (jshr a0 a1)) hx hb hr (fun t ht hW => ⟨_, rfl, hf, ht⟩) (fun q hq => absurd hq List.not_mem_nil) dX0_halved_69
          · rw [if_neg c8] at hf
            refine lv_lload_n hx hb dX0_halved_62 rfl (lv_at hl 3 rfl) ?_
            refine lv_lconst (v := 1) hx hb dX0_halved_63 (by decide) ?_
            refine lv_ladd hx hb dX0_halved_64 ?_
            refine lv_goto (tgt := 69) hx hb dX0_halved_65 (by decide) ?_
            exact W.lret (v := ((jshr a0 a1) + 1)) hx hb hr (fun t ht hW => ⟨_, rfl, hf, ht⟩) (fun q hq => absurd hq List.not_mem_nil) dX0_halved_69
  · rw [if_pos c1] at hf
    refine lv_lconst (v := 0) hx hb dX0_halved_6 (by decide) ?_
    exact W.lret (v := 0) hx hb hr (fun t ht hW => ⟨_, rfl, hf, ht⟩) (fun q hq => absurd hq List.not_mem_nil) dX0_halved_7

def f_X0_nearest (a0 : Int64) (a1 : Int32) : Int64 := (if 2097 < ((63 - (f_J13_numberOfLeadingZeros_95d88 a0)) + a1) then 9218868437227405312 else (if a1 < 0 then (f_X0_halved a0 (-a1)) else (if (52 - (63 - (f_J13_numberOfLeadingZeros_95d88 a0))) < a1 then ((jshl ((a1 - (52 - (63 - (f_J13_numberOfLeadingZeros_95d88 a0)))).toInt64) 52) + (jshl a0 (52 - (63 - (f_J13_numberOfLeadingZeros_95d88 a0))))) else (jshl a0 a1))))
abbrev rmX0_nearest : Room := { frames := 2, cells := 0, slots := 0, locals := 43 }
set_option maxHeartbeats 4000000 in
set_option maxRecDepth 100000 in
theorem m_X0_nearest (l : Launch) (a0 : Int64) (a1 : Int32) (res : Int64) (hf : f_X0_nearest a0 a1 = res) : Met l yX0_nearest wsX0_nearest rmX0_nearest (my_PcP [.long a0, .int a1]) (vp_Sl (fun z => z = res)) 0 0 (fun _ => False) := by
  refine Met.ofW (cc := cX0_nearest) (maxL := 5) (ret := (some .long)) (by decide) rfl ?_
  intro p e s m args below meth c s₁ B hml hv
  obtain ⟨rfl, -⟩ := hv
  have hx := B.exec
  have hb := B.bytes
  have hr := B.returns
  have hts : ∀ w ∈ wsX0_nearest, w.before ([.long a0, .int a1] : List Value).toArray s = true := atoms_spec (ws := wsX0_nearest) B.pre
  have hown : s.vm.findClass RX0 = some m.cls := findClass_of_methodNamed B.named
  have hlk : meth.locks = false := B.notSynchronized
  have q1 := hts (.constantLong RX0 17 (9218868437227405312)) (by decide +kernel)
  have hl := lv_entry ([.long a0, .int a1]) (n := 5) (Nat.le_of_ble_eq_true rfl)
  rw [lg_entry_eq]
  generalize (lg_sl ([.long a0, .int a1]) ++ List.replicate (5 - (lg_sl ([.long a0, .int a1])).length) Slot.unset).toArray = ls at hl ⊢
  have hl : lv_has ls 5 [(0, .long a0), (2, .int a1)] := hl
  unfold f_X0_nearest at hf
  refine lv_bipush (v := 63) hx hb dX0_nearest_0 (by decide) ?_
  refine lv_lload_n hx hb dX0_nearest_2 rfl (lv_at hl 0 rfl) ?_
  refine my_callPi (As := [.long a0]) (rest := [.int 63]) ⟨hx, hb, hml, hown, hts⟩ (m_J13_numberOfLeadingZeros_95d88 l a0 _ rfl) gX0_nearest_J13_numberOfLeadingZeros_95d88 rfl ⟨rfl, rfl⟩ (by decide +kernel) ⟨Nat.le_of_ble_eq_true rfl, Nat.le_of_ble_eq_true rfl⟩ ⟨Nat.le_of_ble_eq_true rfl, Nat.le_of_ble_eq_true rfl⟩ hl.1 rfl rfl (Nat.le_of_ble_eq_true rfl) dX0_nearest_3 ?_
  refine lv_isub hx hb dX0_nearest_6 ?_
  refine lv_istore_n (lv' := [(3, .int (63 - (f_J13_numberOfLeadingZeros_95d88 a0))), (0, .long a0), (2, .int a1)]) hx hb dX0_nearest_7 rfl hl (by decide) rfl (fun ls hl => ?_)
  refine lv_iload_n hx hb dX0_nearest_8 rfl (lv_at hl 0 rfl) ?_
  refine lv_iload_n hx hb dX0_nearest_9 rfl (lv_at hl 2 rfl) ?_
  refine lv_iadd hx hb dX0_nearest_10 ?_
  refine lv_sipush (v := 2097) hx hb dX0_nearest_11 (by decide) ?_
  refine my_ic_le (tgt := 21) hx hb dX0_nearest_14 (by decide) (fun c1 => ?_) (fun c1 => ?_)
  · rw [if_neg c1] at hf
    refine lv_iload_n hx hb dX0_nearest_21 rfl (lv_at hl 2 rfl) ?_
    refine my_if_ge (tgt := 32) hx hb dX0_nearest_22 (by decide) (fun c2 => ?_) (fun c2 => ?_)
    · rw [if_neg c2] at hf
      refine lv_bipush (v := 52) hx hb dX0_nearest_32 (by decide) ?_
      refine lv_iload_n hx hb dX0_nearest_34 rfl (lv_at hl 0 rfl) ?_
      refine lv_isub hx hb dX0_nearest_35 ?_
      refine lv_istore (lv' := [(4, .int (52 - (63 - (f_J13_numberOfLeadingZeros_95d88 a0)))), (3, .int (63 - (f_J13_numberOfLeadingZeros_95d88 a0))), (0, .long a0), (2, .int a1)]) hx hb dX0_nearest_36 hl (by decide) rfl (fun ls hl => ?_)
      refine lv_iload_n hx hb dX0_nearest_38 rfl (lv_at hl 3 rfl) ?_
      refine lv_iload hx hb dX0_nearest_39 (lv_at hl 0 rfl) ?_
      refine my_ic_gt (tgt := 48) hx hb dX0_nearest_41 (by decide) (fun c3 => ?_) (fun c3 => ?_)
      · rw [if_pos c3] at hf
        refine lv_iload_n hx hb dX0_nearest_48 rfl (lv_at hl 3 rfl) ?_
        refine lv_iload hx hb dX0_nearest_49 (lv_at hl 0 rfl) ?_
        refine lv_isub hx hb dX0_nearest_51 ?_
        refine lv_i2l (v := ((a1 - (52 - (63 - (f_J13_numberOfLeadingZeros_95d88 a0)))).toInt64)) hx hb dX0_nearest_52 rfl ?_
        refine lv_bipush (v := 52) hx hb dX0_nearest_53 (by decide) ?_
        refine lv_lshl (v := (jshl ((a1 - (52 - (63 - (f_J13_numberOfLeadingZeros_95d88 a0)))).toInt64) 52)) hx hb dX0_nearest_55 rfl ?_
        refine lv_lload_n hx hb dX0_nearest_56 rfl (lv_at hl 2 rfl) ?_
        refine lv_iload hx hb dX0_nearest_57 (lv_at hl 0 rfl) ?_
        refine lv_lshl (v := (jshl a0 (52 - (63 - (f_J13_numberOfLeadingZeros_95d88 a0))))) hx hb dX0_nearest_59 rfl ?_
        refine lv_ladd hx hb dX0_nearest_60 ?_
        exact W.lret (v := ((jshl ((a1 - (52 - (63 - (f_J13_numberOfLeadingZeros_95d88 a0)))).toInt64) 52) + (jshl a0 (52 - (63 - (f_J13_numberOfLeadingZeros_95d88 a0)))))) hx hb hr (fun t ht hW => ⟨_, rfl, hf, ht⟩) (fun q hq => absurd hq List.not_mem_nil) dX0_nearest_61
      · rw [if_neg c3] at hf
        refine lv_lload_n hx hb dX0_nearest_44 rfl (lv_at hl 2 rfl) ?_
        refine lv_iload_n hx hb dX0_nearest_45 rfl (lv_at hl 3 rfl) ?_
        refine lv_lshl (v := (jshl a0 a1)) hx hb dX0_nearest_46 rfl ?_
        exact W.lret (v := (jshl a0 a1)) hx hb hr (fun t ht hW => ⟨_, rfl, hf, ht⟩) (fun q hq => absurd hq List.not_mem_nil) dX0_nearest_47
    · rw [if_pos c2] at hf
      refine lv_lload_n hx hb dX0_nearest_25 rfl (lv_at hl 1 rfl) ?_
      refine lv_iload_n hx hb dX0_nearest_26 rfl (lv_at hl 2 rfl) ?_
      refine lv_ineg hx hb dX0_nearest_27 ?_
      refine my_callPl (As := [.long a0, .int (-a1)]) (rest := []) ⟨hx, hb, hml, hown, hts⟩ (m_X0_halved l a0 (-a1) _ rfl) gX0_nearest_X0_halved rfl ⟨rfl, rfl⟩ (by decide +kernel) ⟨Nat.le_of_ble_eq_true rfl, Nat.le_of_ble_eq_true rfl⟩ ⟨Nat.le_of_ble_eq_true rfl, Nat.le_of_ble_eq_true rfl⟩ hl.1 rfl rfl (Nat.le_of_ble_eq_true rfl) dX0_nearest_28 ?_
      exact W.lret (v := (f_X0_halved a0 (-a1))) hx hb hr (fun t ht hW => ⟨_, rfl, hf, ht⟩) (fun q hq => absurd hq List.not_mem_nil) dX0_nearest_31
  · rw [if_pos c1] at hf
    refine lv_ldc2 (v := 9218868437227405312) hx hb hown q1 dX0_nearest_17 ?_
    exact W.lret (v := 9218868437227405312) hx hb hr (fun t ht hW => ⟨_, rfl, hf, ht⟩) (fun q hq => absurd hq List.not_mem_nil) dX0_nearest_20

def f_X0_handed (a0 : Int32) (a1 : Int32) : Int64 := (if a0 = 0 then 0 else (if a0 < 0 then (f_X0_opposite (f_X0_nearest ((if 0 ≤ a0 then a0 else 0 - a0).toInt64) ((f_X0_handedExponent a1) - (-1074)))) else (f_X0_nearest ((if 0 ≤ a0 then a0 else 0 - a0).toInt64) ((f_X0_handedExponent a1) - (-1074)))))
abbrev rmX0_handed : Room := { frames := 3, cells := 0, slots := 0, locals := 67 }
set_option maxHeartbeats 4000000 in
set_option maxRecDepth 100000 in
theorem m_X0_handed (l : Launch) (a0 : Int32) (a1 : Int32) (res : Int64) (hf : f_X0_handed a0 a1 = res) : Met l yX0_handed wsX0_handed rmX0_handed (my_PcP [.int a0, .int a1]) (vp_Sl (fun z => z = res)) 0 0 (fun _ => False) := by
  refine Met.ofW (cc := cX0_handed) (maxL := 4) (ret := (some .long)) (by decide) rfl ?_
  intro p e s m args below meth c s₁ B hml hv
  obtain ⟨rfl, -⟩ := hv
  have hx := B.exec
  have hb := B.bytes
  have hr := B.returns
  have hts : ∀ w ∈ wsX0_handed, w.before ([.int a0, .int a1] : List Value).toArray s = true := atoms_spec (ws := wsX0_handed) B.pre
  have hown : s.vm.findClass RX0 = some m.cls := findClass_of_methodNamed B.named
  have hlk : meth.locks = false := B.notSynchronized
  have q1 := hts (.methodLink RX0 33 Lib.Math.abs.name) (by decide +kernel)
  have q2 := hts (.static Lib.Math.abs.name) (by decide +kernel)
  have q3 := hts (.initialized "java/lang/Math") (by decide +kernel)
  have q4 := hts (.code Lib.Math.abs.name Lib.Math.abs.code 1 (some .int)) (by decide +kernel)
  have hl := lv_entry ([.int a0, .int a1]) (n := 4) (Nat.le_of_ble_eq_true rfl)
  rw [lg_entry_eq]
  generalize (lg_sl ([.int a0, .int a1]) ++ List.replicate (4 - (lg_sl ([.int a0, .int a1])).length) Slot.unset).toArray = ls at hl ⊢
  have hl : lv_has ls 4 [(0, .int a0), (1, .int a1)] := hl
  unfold f_X0_handed at hf
  refine lv_iload_n hx hb dX0_handed_0 rfl (lv_at hl 0 rfl) ?_
  refine my_if_ne (tgt := 6) hx hb dX0_handed_1 (by decide) (fun c1 => ?_) (fun c1 => ?_)
  · rw [if_neg c1] at hf
    refine lv_iload_n hx hb dX0_handed_6 rfl (lv_at hl 0 rfl) ?_
    refine va_mabs hx hb (hml.trans hl.1.symm) hown q1 q2 q3 q4 (Nat.le_of_ble_eq_true rfl) (Nat.le_of_ble_eq_true rfl) (Nat.le_of_ble_eq_true rfl) (Nat.le_of_ble_eq_true rfl) dX0_handed_7 ?_
    refine lv_i2l (v := ((if 0 ≤ a0 then a0 else 0 - a0).toInt64)) hx hb dX0_handed_10 rfl ?_
    refine lv_iload_n hx hb dX0_handed_11 rfl (lv_at hl 1 rfl) ?_
    refine my_callPi (As := [.int a1]) (rest := [.long ((if 0 ≤ a0 then a0 else 0 - a0).toInt64)]) ⟨hx, hb, hml, hown, hts⟩ (m_X0_handedExponent l a1 _ rfl) gX0_handed_X0_handedExponent rfl ⟨rfl, rfl⟩ (by decide +kernel) ⟨Nat.le_of_ble_eq_true rfl, Nat.le_of_ble_eq_true rfl⟩ ⟨Nat.le_of_ble_eq_true rfl, Nat.le_of_ble_eq_true rfl⟩ hl.1 rfl rfl (Nat.le_of_ble_eq_true rfl) dX0_handed_12 ?_
    refine lv_sipush (v := (-1074)) hx hb dX0_handed_15 (by decide) ?_
    refine lv_isub hx hb dX0_handed_18 ?_
    refine my_callPl (As := [.long ((if 0 ≤ a0 then a0 else 0 - a0).toInt64), .int ((f_X0_handedExponent a1) - (-1074))]) (rest := []) ⟨hx, hb, hml, hown, hts⟩ (m_X0_nearest l ((if 0 ≤ a0 then a0 else 0 - a0).toInt64) ((f_X0_handedExponent a1) - (-1074)) _ rfl) gX0_handed_X0_nearest rfl ⟨rfl, rfl⟩ (by decide +kernel) ⟨Nat.le_of_ble_eq_true rfl, Nat.le_of_ble_eq_true rfl⟩ ⟨Nat.le_of_ble_eq_true rfl, Nat.le_of_ble_eq_true rfl⟩ hl.1 rfl rfl (Nat.le_of_ble_eq_true rfl) dX0_handed_19 ?_
    refine lv_lstore_n (lv' := [(2, .long (f_X0_nearest ((if 0 ≤ a0 then a0 else 0 - a0).toInt64) ((f_X0_handedExponent a1) - (-1074)))), (0, .int a0), (1, .int a1)]) hx hb dX0_handed_22 rfl hl (by decide) rfl (fun ls hl => ?_)
    refine lv_iload_n hx hb dX0_handed_23 rfl (lv_at hl 1 rfl) ?_
    refine my_if_ge (tgt := 34) hx hb dX0_handed_24 (by decide) (fun c2 => ?_) (fun c2 => ?_)
    · rw [if_neg c2] at hf
      refine lv_lload_n hx hb dX0_handed_34 rfl (lv_at hl 0 rfl) ?_
      exact W.lret (v := (f_X0_nearest ((if 0 ≤ a0 then a0 else 0 - a0).toInt64) ((f_X0_handedExponent a1) - (-1074)))) hx hb hr (fun t ht hW => ⟨_, rfl, hf, ht⟩) (fun q hq => absurd hq List.not_mem_nil) dX0_handed_35
    · rw [if_pos c2] at hf
      refine lv_lload_n hx hb dX0_handed_27 rfl (lv_at hl 0 rfl) ?_
      refine my_callPl (As := [.long (f_X0_nearest ((if 0 ≤ a0 then a0 else 0 - a0).toInt64) ((f_X0_handedExponent a1) - (-1074)))]) (rest := []) ⟨hx, hb, hml, hown, hts⟩ (m_X0_opposite l (f_X0_nearest ((if 0 ≤ a0 then a0 else 0 - a0).toInt64) ((f_X0_handedExponent a1) - (-1074))) _ rfl) gX0_handed_X0_opposite rfl ⟨rfl, rfl⟩ (by decide +kernel) ⟨Nat.le_of_ble_eq_true rfl, Nat.le_of_ble_eq_true rfl⟩ ⟨Nat.le_of_ble_eq_true rfl, Nat.le_of_ble_eq_true rfl⟩ hl.1 rfl rfl (Nat.le_of_ble_eq_true rfl) dX0_handed_28 ?_
      refine lv_goto (tgt := 35) hx hb dX0_handed_31 (by decide) ?_
      exact W.lret (v := (f_X0_opposite (f_X0_nearest ((if 0 ≤ a0 then a0 else 0 - a0).toInt64) ((f_X0_handedExponent a1) - (-1074))))) hx hb hr (fun t ht hW => ⟨_, rfl, hf, ht⟩) (fun q hq => absurd hq List.not_mem_nil) dX0_handed_35
  · rw [if_pos c1] at hf
    refine lv_lconst (v := 0) hx hb dX0_handed_4 (by decide) ?_
    exact W.lret (v := 0) hx hb hr (fun t ht hW => ⟨_, rfl, hf, ht⟩) (fun q hq => absurd hq List.not_mem_nil) dX0_handed_5

def f_X0_raised (a0 : Int64) (a1 : Int32) : Int64 := (if (9218868437227405312 - (a1.toInt64)) < (f_X0_placeOf a0) then 9218868437227405312 else (if 0 < a1 then (if ((f_X0_placeOf a0) + (a1.toInt64)) = 0 then (-9223372036854775808) else (if a1 = 0 then a0 else (f_X0_atPlace ((f_X0_placeOf a0) + (a1.toInt64))))) else (if a1 = 0 then a0 else (f_X0_atPlace ((f_X0_placeOf a0) + (a1.toInt64))))))
abbrev rmX0_raised : Room := { frames := 1, cells := 0, slots := 0, locals := 21 }
set_option maxHeartbeats 4000000 in
set_option maxRecDepth 100000 in
theorem m_X0_raised (l : Launch) (a0 : Int64) (a1 : Int32) (res : Int64) (hf : f_X0_raised a0 a1 = res) : Met l yX0_raised wsX0_raised rmX0_raised (my_PcP [.long a0, .int a1]) (vp_Sl (fun z => z = res)) 0 0 (fun _ => False) := by
  refine Met.ofW (cc := cX0_raised) (maxL := 5) (ret := (some .long)) (by decide) rfl ?_
  intro p e s m args below meth c s₁ B hml hv
  obtain ⟨rfl, -⟩ := hv
  have hx := B.exec
  have hb := B.bytes
  have hr := B.returns
  have hts : ∀ w ∈ wsX0_raised, w.before ([.long a0, .int a1] : List Value).toArray s = true := atoms_spec (ws := wsX0_raised) B.pre
  have hown : s.vm.findClass RX0 = some m.cls := findClass_of_methodNamed B.named
  have hlk : meth.locks = false := B.notSynchronized
  have q1 := hts (.constantLong RX0 17 (9218868437227405312)) (by decide +kernel)
  have q2 := hts (.constantLong RX0 9 (-9223372036854775808)) (by decide +kernel)
  have hl := lv_entry ([.long a0, .int a1]) (n := 5) (Nat.le_of_ble_eq_true rfl)
  rw [lg_entry_eq]
  generalize (lg_sl ([.long a0, .int a1]) ++ List.replicate (5 - (lg_sl ([.long a0, .int a1])).length) Slot.unset).toArray = ls at hl ⊢
  have hl : lv_has ls 5 [(0, .long a0), (2, .int a1)] := hl
  unfold f_X0_raised at hf
  refine lv_lload_n hx hb dX0_raised_0 rfl (lv_at hl 0 rfl) ?_
  refine my_callPl (As := [.long a0]) (rest := []) ⟨hx, hb, hml, hown, hts⟩ (m_X0_placeOf l a0 _ rfl) gX0_raised_X0_placeOf rfl ⟨rfl, rfl⟩ (by decide +kernel) ⟨Nat.le_of_ble_eq_true rfl, Nat.le_of_ble_eq_true rfl⟩ ⟨Nat.le_of_ble_eq_true rfl, Nat.le_of_ble_eq_true rfl⟩ hl.1 rfl rfl (Nat.le_of_ble_eq_true rfl) dX0_raised_1 ?_
  refine lv_lstore_n (lv' := [(3, .long (f_X0_placeOf a0)), (0, .long a0), (2, .int a1)]) hx hb dX0_raised_4 rfl hl (by decide) rfl (fun ls hl => ?_)
  refine lv_lload_n hx hb dX0_raised_5 rfl (lv_at hl 0 rfl) ?_
  refine lv_ldc2 (v := 9218868437227405312) hx hb hown q1 dX0_raised_6 ?_
  refine lv_iload_n hx hb dX0_raised_9 rfl (lv_at hl 2 rfl) ?_
  refine lv_i2l (v := (a1.toInt64)) hx hb dX0_raised_10 rfl ?_
  refine lv_lsub hx hb dX0_raised_11 ?_
  refine my_lc_le (tgt := 20) hx hb dX0_raised_12 dX0_raised_13 (by decide) (fun c1 => ?_) (fun c1 => ?_)
  · rw [if_neg c1] at hf
    refine lv_iload_n hx hb dX0_raised_20 rfl (lv_at hl 2 rfl) ?_
    refine my_if_le (tgt := 37) hx hb dX0_raised_21 (by decide) (fun c2 => ?_) (fun c2 => ?_)
    · rw [if_neg c2] at hf
      refine lv_iload_n hx hb dX0_raised_37 rfl (lv_at hl 2 rfl) ?_
      refine my_if_ne (tgt := 45) hx hb dX0_raised_38 (by decide) (fun c3 => ?_) (fun c3 => ?_)
      · rw [if_neg c3] at hf
        refine lv_lload_n hx hb dX0_raised_45 rfl (lv_at hl 0 rfl) ?_
        refine lv_iload_n hx hb dX0_raised_46 rfl (lv_at hl 2 rfl) ?_
        refine lv_i2l (v := (a1.toInt64)) hx hb dX0_raised_47 rfl ?_
        refine lv_ladd hx hb dX0_raised_48 ?_
        refine my_callPl (As := [.long ((f_X0_placeOf a0) + (a1.toInt64))]) (rest := []) ⟨hx, hb, hml, hown, hts⟩ (m_X0_atPlace l ((f_X0_placeOf a0) + (a1.toInt64)) _ rfl) gX0_raised_X0_atPlace rfl ⟨rfl, rfl⟩ (by decide +kernel) ⟨Nat.le_of_ble_eq_true rfl, Nat.le_of_ble_eq_true rfl⟩ ⟨Nat.le_of_ble_eq_true rfl, Nat.le_of_ble_eq_true rfl⟩ hl.1 rfl rfl (Nat.le_of_ble_eq_true rfl) dX0_raised_49 ?_
        exact W.lret (v := (f_X0_atPlace ((f_X0_placeOf a0) + (a1.toInt64)))) hx hb hr (fun t ht hW => ⟨_, rfl, hf, ht⟩) (fun q hq => absurd hq List.not_mem_nil) dX0_raised_52
      · rw [if_pos c3] at hf
        refine lv_lload_n hx hb dX0_raised_41 rfl (lv_at hl 1 rfl) ?_
        refine lv_goto (tgt := 52) hx hb dX0_raised_42 (by decide) ?_
        exact W.lret (v := a0) hx hb hr (fun t ht hW => ⟨_, rfl, hf, ht⟩) (fun q hq => absurd hq List.not_mem_nil) dX0_raised_52
    · rw [if_pos c2] at hf
      refine lv_lload_n hx hb dX0_raised_24 rfl (lv_at hl 0 rfl) ?_
      refine lv_iload_n hx hb dX0_raised_25 rfl (lv_at hl 2 rfl) ?_
      refine lv_i2l (v := (a1.toInt64)) hx hb dX0_raised_26 rfl ?_
      refine lv_ladd hx hb dX0_raised_27 ?_
      refine lv_lconst (v := 0) hx hb dX0_raised_28 (by decide) ?_
      refine my_lc_ne (tgt := 37) hx hb dX0_raised_29 dX0_raised_30 (by decide) (fun c4 => ?_) (fun c4 => ?_)
      · rw [if_neg c4] at hf
        refine lv_iload_n hx hb dX0_raised_37 rfl (lv_at hl 2 rfl) ?_
        refine my_if_ne (tgt := 45) hx hb dX0_raised_38 (by decide) (fun c5 => ?_) (fun c5 => ?_)
        · rw [if_neg c5] at hf
          refine lv_lload_n hx hb dX0_raised_45 rfl (lv_at hl 0 rfl) ?_
          refine lv_iload_n hx hb dX0_raised_46 rfl (lv_at hl 2 rfl) ?_
          refine lv_i2l (v := (a1.toInt64)) hx hb dX0_raised_47 rfl ?_
          refine lv_ladd hx hb dX0_raised_48 ?_
          refine my_callPl (As := [.long ((f_X0_placeOf a0) + (a1.toInt64))]) (rest := []) ⟨hx, hb, hml, hown, hts⟩ (m_X0_atPlace l ((f_X0_placeOf a0) + (a1.toInt64)) _ rfl) gX0_raised_X0_atPlace rfl ⟨rfl, rfl⟩ (by decide +kernel) ⟨Nat.le_of_ble_eq_true rfl, Nat.le_of_ble_eq_true rfl⟩ ⟨Nat.le_of_ble_eq_true rfl, Nat.le_of_ble_eq_true rfl⟩ hl.1 rfl rfl (Nat.le_of_ble_eq_true rfl) dX0_raised_49 ?_
          exact W.lret (v := (f_X0_atPlace ((f_X0_placeOf a0) + (a1.toInt64)))) hx hb hr (fun t ht hW => ⟨_, rfl, hf, ht⟩) (fun q hq => absurd hq List.not_mem_nil) dX0_raised_52
        · rw [if_pos c5] at hf
          refine lv_lload_n hx hb dX0_raised_41 rfl (lv_at hl 1 rfl) ?_
          refine lv_goto (tgt := 52) hx hb dX0_raised_42 (by decide) ?_
          exact W.lret (v := a0) hx hb hr (fun t ht hW => ⟨_, rfl, hf, ht⟩) (fun q hq => absurd hq List.not_mem_nil) dX0_raised_52
      · rw [if_pos c4] at hf
        refine lv_ldc2 (v := (-9223372036854775808)) hx hb hown q2 dX0_raised_33 ?_
        exact W.lret (v := (-9223372036854775808)) hx hb hr (fun t ht hW => ⟨_, rfl, hf, ht⟩) (fun q hq => absurd hq List.not_mem_nil) dX0_raised_36
  · rw [if_pos c1] at hf
    refine lv_ldc2 (v := 9218868437227405312) hx hb hown q1 dX0_raised_16 ?_
    exact W.lret (v := 9218868437227405312) hx hb hr (fun t ht hW => ⟨_, rfl, hf, ht⟩) (fun q hq => absurd hq List.not_mem_nil) dX0_raised_19

def f_X0_lowered (a0 : Int64) (a1 : Int32) : Int64 := (f_X0_opposite (f_X0_raised (f_X0_opposite a0) a1))
abbrev rmX0_lowered : Room := { frames := 2, cells := 0, slots := 0, locals := 45 }
set_option maxHeartbeats 4000000 in
set_option maxRecDepth 100000 in
theorem m_X0_lowered (l : Launch) (a0 : Int64) (a1 : Int32) (res : Int64) (hf : f_X0_lowered a0 a1 = res) : Met l yX0_lowered wsX0_lowered rmX0_lowered (my_PcP [.long a0, .int a1]) (vp_Sl (fun z => z = res)) 0 0 (fun _ => False) := by
  refine Met.ofW (cc := cX0_lowered) (maxL := 3) (ret := (some .long)) (by decide) rfl ?_
  intro p e s m args below meth c s₁ B hml hv
  obtain ⟨rfl, -⟩ := hv
  have hx := B.exec
  have hb := B.bytes
  have hr := B.returns
  have hts : ∀ w ∈ wsX0_lowered, w.before ([.long a0, .int a1] : List Value).toArray s = true := atoms_spec (ws := wsX0_lowered) B.pre
  have hown : s.vm.findClass RX0 = some m.cls := findClass_of_methodNamed B.named
  have hlk : meth.locks = false := B.notSynchronized
  have hl := lv_entry ([.long a0, .int a1]) (n := 3) (Nat.le_of_ble_eq_true rfl)
  rw [lg_entry_eq]
  generalize (lg_sl ([.long a0, .int a1]) ++ List.replicate (3 - (lg_sl ([.long a0, .int a1])).length) Slot.unset).toArray = ls at hl ⊢
  have hl : lv_has ls 3 [(0, .long a0), (2, .int a1)] := hl
  unfold f_X0_lowered at hf
  refine lv_lload_n hx hb dX0_lowered_0 rfl (lv_at hl 0 rfl) ?_
  refine my_callPl (As := [.long a0]) (rest := []) ⟨hx, hb, hml, hown, hts⟩ (m_X0_opposite l a0 _ rfl) gX0_lowered_X0_opposite rfl ⟨rfl, rfl⟩ (by decide +kernel) ⟨Nat.le_of_ble_eq_true rfl, Nat.le_of_ble_eq_true rfl⟩ ⟨Nat.le_of_ble_eq_true rfl, Nat.le_of_ble_eq_true rfl⟩ hl.1 rfl rfl (Nat.le_of_ble_eq_true rfl) dX0_lowered_1 ?_
  refine lv_iload_n hx hb dX0_lowered_4 rfl (lv_at hl 1 rfl) ?_
  refine my_callPl (As := [.long (f_X0_opposite a0), .int a1]) (rest := []) ⟨hx, hb, hml, hown, hts⟩ (m_X0_raised l (f_X0_opposite a0) a1 _ rfl) gX0_lowered_X0_raised rfl ⟨rfl, rfl⟩ (by decide +kernel) ⟨Nat.le_of_ble_eq_true rfl, Nat.le_of_ble_eq_true rfl⟩ ⟨Nat.le_of_ble_eq_true rfl, Nat.le_of_ble_eq_true rfl⟩ hl.1 rfl rfl (Nat.le_of_ble_eq_true rfl) dX0_lowered_5 ?_
  refine my_callPl (As := [.long (f_X0_raised (f_X0_opposite a0) a1)]) (rest := []) ⟨hx, hb, hml, hown, hts⟩ (m_X0_opposite l (f_X0_raised (f_X0_opposite a0) a1) _ rfl) gX0_lowered_X0_opposite rfl ⟨rfl, rfl⟩ (by decide +kernel) ⟨Nat.le_of_ble_eq_true rfl, Nat.le_of_ble_eq_true rfl⟩ ⟨Nat.le_of_ble_eq_true rfl, Nat.le_of_ble_eq_true rfl⟩ hl.1 rfl rfl (Nat.le_of_ble_eq_true rfl) dX0_lowered_8 ?_
  exact W.lret (v := (f_X0_opposite (f_X0_raised (f_X0_opposite a0) a1))) hx hb hr (fun t ht hW => ⟨_, rfl, hf, ht⟩) (fun q hq => absurd hq List.not_mem_nil) dX0_lowered_11

def f_J13_compare_74951 (a0 : Int64) (a1 : Int64) : Int32 := (if a0 < a1 then (-1) else (if a0 = a1 then 0 else 1))
abbrev rmJ13_compare_74951 : Room := { frames := 0, cells := 0, slots := 0, locals := 0 }
set_option maxHeartbeats 4000000 in
set_option maxRecDepth 100000 in
theorem m_J13_compare_74951 (l : Launch) (a0 : Int64) (a1 : Int64) (res : Int32) (hf : f_J13_compare_74951 a0 a1 = res) : Met l yJ13_compare_74951 wsJ13_compare_74951 rmJ13_compare_74951 (my_PcP [.long a0, .long a1]) (vp_Si (fun z => z = res)) 0 0 (fun _ => False) := by
  refine Met.ofW (cc := cJ13_compare_74951) (maxL := 4) (ret := (some .int)) (by decide) rfl ?_
  intro p e s m args below meth c s₁ B hml hv
  obtain ⟨rfl, -⟩ := hv
  have hx := B.exec
  have hb := B.bytes
  have hr := B.returns
  have hts : ∀ w ∈ wsJ13_compare_74951, w.before ([.long a0, .long a1] : List Value).toArray s = true := atoms_spec (ws := wsJ13_compare_74951) B.pre
  have hown : s.vm.findClass RJ13 = some m.cls := findClass_of_methodNamed B.named
  have hlk : meth.locks = false := B.notSynchronized
  have hl := lv_entry ([.long a0, .long a1]) (n := 4) (Nat.le_of_ble_eq_true rfl)
  rw [lg_entry_eq]
  generalize (lg_sl ([.long a0, .long a1]) ++ List.replicate (4 - (lg_sl ([.long a0, .long a1])).length) Slot.unset).toArray = ls at hl ⊢
  have hl : lv_has ls 4 [(0, .long a0), (2, .long a1)] := hl
  unfold f_J13_compare_74951 at hf
  refine lv_lload_n hx hb dJ13_compare_74951_0 rfl (lv_at hl 0 rfl) ?_
  refine lv_lload_n hx hb dJ13_compare_74951_1 rfl (lv_at hl 1 rfl) ?_
  refine my_lc_ge (tgt := 10) hx hb dJ13_compare_74951_2 dJ13_compare_74951_3 (by decide) (fun c1 => ?_) (fun c1 => ?_)
  · rw [if_neg c1] at hf
    refine lv_lload_n hx hb dJ13_compare_74951_10 rfl (lv_at hl 0 rfl) ?_
    refine lv_lload_n hx hb dJ13_compare_74951_11 rfl (lv_at hl 1 rfl) ?_
    refine my_lc_ne (tgt := 20) hx hb dJ13_compare_74951_12 dJ13_compare_74951_13 (by decide) (fun c2 => ?_) (fun c2 => ?_)
    · rw [if_neg c2] at hf
      refine lv_iconst (v := 1) hx hb dJ13_compare_74951_20 (by decide) ?_
      exact W.iret (v := 1) hx hb hr (fun t ht hW => ⟨_, rfl, hf, ht⟩) (fun q hq => absurd hq List.not_mem_nil) dJ13_compare_74951_21
    · rw [if_pos c2] at hf
      refine lv_iconst (v := 0) hx hb dJ13_compare_74951_16 (by decide) ?_
      refine lv_goto (tgt := 21) hx hb dJ13_compare_74951_17 (by decide) ?_
      exact W.iret (v := 0) hx hb hr (fun t ht hW => ⟨_, rfl, hf, ht⟩) (fun q hq => absurd hq List.not_mem_nil) dJ13_compare_74951_21
  · rw [if_pos c1] at hf
    refine lv_iconst (v := (-1)) hx hb dJ13_compare_74951_6 (by decide) ?_
    refine lv_goto (tgt := 21) hx hb dJ13_compare_74951_7 (by decide) ?_
    exact W.iret (v := (-1)) hx hb hr (fun t ht hW => ⟨_, rfl, hf, ht⟩) (fun q hq => absurd hq List.not_mem_nil) dJ13_compare_74951_21

def f_X0_order (a0 : Int64) (a1 : Int64) : Int32 := (f_J13_compare_74951 (f_X0_placeOf a0) (f_X0_placeOf a1))
abbrev rmX0_order : Room := { frames := 1, cells := 0, slots := 0, locals := 23 }
set_option maxHeartbeats 4000000 in
set_option maxRecDepth 100000 in
theorem m_X0_order (l : Launch) (a0 : Int64) (a1 : Int64) (res : Int32) (hf : f_X0_order a0 a1 = res) : Met l yX0_order wsX0_order rmX0_order (my_PcP [.long a0, .long a1]) (vp_Si (fun z => z = res)) 0 0 (fun _ => False) := by
  refine Met.ofW (cc := cX0_order) (maxL := 4) (ret := (some .int)) (by decide) rfl ?_
  intro p e s m args below meth c s₁ B hml hv
  obtain ⟨rfl, -⟩ := hv
  have hx := B.exec
  have hb := B.bytes
  have hr := B.returns
  have hts : ∀ w ∈ wsX0_order, w.before ([.long a0, .long a1] : List Value).toArray s = true := atoms_spec (ws := wsX0_order) B.pre
  have hown : s.vm.findClass RX0 = some m.cls := findClass_of_methodNamed B.named
  have hlk : meth.locks = false := B.notSynchronized
  have hl := lv_entry ([.long a0, .long a1]) (n := 4) (Nat.le_of_ble_eq_true rfl)
  rw [lg_entry_eq]
  generalize (lg_sl ([.long a0, .long a1]) ++ List.replicate (4 - (lg_sl ([.long a0, .long a1])).length) Slot.unset).toArray = ls at hl ⊢
  have hl : lv_has ls 4 [(0, .long a0), (2, .long a1)] := hl
  unfold f_X0_order at hf
  refine lv_lload_n hx hb dX0_order_0 rfl (lv_at hl 0 rfl) ?_
  refine my_callPl (As := [.long a0]) (rest := []) ⟨hx, hb, hml, hown, hts⟩ (m_X0_placeOf l a0 _ rfl) gX0_order_X0_placeOf rfl ⟨rfl, rfl⟩ (by decide +kernel) ⟨Nat.le_of_ble_eq_true rfl, Nat.le_of_ble_eq_true rfl⟩ ⟨Nat.le_of_ble_eq_true rfl, Nat.le_of_ble_eq_true rfl⟩ hl.1 rfl rfl (Nat.le_of_ble_eq_true rfl) dX0_order_1 ?_
  refine lv_lload_n hx hb dX0_order_4 rfl (lv_at hl 1 rfl) ?_
  refine my_callPl (As := [.long a1]) (rest := [.long (f_X0_placeOf a0)]) ⟨hx, hb, hml, hown, hts⟩ (m_X0_placeOf l a1 _ rfl) gX0_order_X0_placeOf rfl ⟨rfl, rfl⟩ (by decide +kernel) ⟨Nat.le_of_ble_eq_true rfl, Nat.le_of_ble_eq_true rfl⟩ ⟨Nat.le_of_ble_eq_true rfl, Nat.le_of_ble_eq_true rfl⟩ hl.1 rfl rfl (Nat.le_of_ble_eq_true rfl) dX0_order_5 ?_
  refine my_callPi (As := [.long (f_X0_placeOf a0), .long (f_X0_placeOf a1)]) (rest := []) ⟨hx, hb, hml, hown, hts⟩ (m_J13_compare_74951 l (f_X0_placeOf a0) (f_X0_placeOf a1) _ rfl) gX0_order_J13_compare_74951 rfl ⟨rfl, rfl⟩ (by decide +kernel) ⟨Nat.le_of_ble_eq_true rfl, Nat.le_of_ble_eq_true rfl⟩ ⟨Nat.le_of_ble_eq_true rfl, Nat.le_of_ble_eq_true rfl⟩ hl.1 rfl rfl (Nat.le_of_ble_eq_true rfl) dX0_order_8 ?_
  exact W.iret (v := (f_J13_compare_74951 (f_X0_placeOf a0) (f_X0_placeOf a1))) hx hb hr (fun t ht hW => ⟨_, rfl, hf, ht⟩) (fun q hq => absurd hq List.not_mem_nil) dX0_order_11

def f_X0_nearer (a0 : Int64) (a1 : Int64) : Int64 := (if (f_X0_order a0 a1) = 0 then a1 else (if (f_X0_order a0 a1) < 0 then (f_X0_raised a0 1) else (f_X0_lowered a0 1)))
abbrev rmX0_nearer : Room := { frames := 3, cells := 0, slots := 0, locals := 67 }
set_option maxHeartbeats 4000000 in
set_option maxRecDepth 100000 in
theorem m_X0_nearer (l : Launch) (a0 : Int64) (a1 : Int64) (res : Int64) (hf : f_X0_nearer a0 a1 = res) : Met l yX0_nearer wsX0_nearer rmX0_nearer (my_PcP [.long a0, .long a1]) (vp_Sl (fun z => z = res)) 0 0 (fun _ => False) := by
  refine Met.ofW (cc := cX0_nearer) (maxL := 5) (ret := (some .long)) (by decide) rfl ?_
  intro p e s m args below meth c s₁ B hml hv
  obtain ⟨rfl, -⟩ := hv
  have hx := B.exec
  have hb := B.bytes
  have hr := B.returns
  have hts : ∀ w ∈ wsX0_nearer, w.before ([.long a0, .long a1] : List Value).toArray s = true := atoms_spec (ws := wsX0_nearer) B.pre
  have hown : s.vm.findClass RX0 = some m.cls := findClass_of_methodNamed B.named
  have hlk : meth.locks = false := B.notSynchronized
  have hl := lv_entry ([.long a0, .long a1]) (n := 5) (Nat.le_of_ble_eq_true rfl)
  rw [lg_entry_eq]
  generalize (lg_sl ([.long a0, .long a1]) ++ List.replicate (5 - (lg_sl ([.long a0, .long a1])).length) Slot.unset).toArray = ls at hl ⊢
  have hl : lv_has ls 5 [(0, .long a0), (2, .long a1)] := hl
  unfold f_X0_nearer at hf
  refine lv_lload_n hx hb dX0_nearer_0 rfl (lv_at hl 0 rfl) ?_
  refine lv_lload_n hx hb dX0_nearer_1 rfl (lv_at hl 1 rfl) ?_
  refine my_callPi (As := [.long a0, .long a1]) (rest := []) ⟨hx, hb, hml, hown, hts⟩ (m_X0_order l a0 a1 _ rfl) gX0_nearer_X0_order rfl ⟨rfl, rfl⟩ (by decide +kernel) ⟨Nat.le_of_ble_eq_true rfl, Nat.le_of_ble_eq_true rfl⟩ ⟨Nat.le_of_ble_eq_true rfl, Nat.le_of_ble_eq_true rfl⟩ hl.1 rfl rfl (Nat.le_of_ble_eq_true rfl) dX0_nearer_2 ?_
  refine lv_istore (lv' := [(4, .int (f_X0_order a0 a1)), (0, .long a0), (2, .long a1)]) hx hb dX0_nearer_5 hl (by decide) rfl (fun ls hl => ?_)
  refine lv_iload hx hb dX0_nearer_7 (lv_at hl 0 rfl) ?_
  refine my_if_ne (tgt := 14) hx hb dX0_nearer_9 (by decide) (fun c1 => ?_) (fun c1 => ?_)
  · rw [if_neg c1] at hf
    refine lv_iload hx hb dX0_nearer_14 (lv_at hl 0 rfl) ?_
    refine my_if_ge (tgt := 27) hx hb dX0_nearer_16 (by decide) (fun c2 => ?_) (fun c2 => ?_)
    · rw [if_neg c2] at hf
      refine lv_lload_n hx hb dX0_nearer_27 rfl (lv_at hl 1 rfl) ?_
      refine lv_iconst (v := 1) hx hb dX0_nearer_28 (by decide) ?_
      refine my_callPl (As := [.long a0, .int 1]) (rest := []) ⟨hx, hb, hml, hown, hts⟩ (m_X0_lowered l a0 1 _ rfl) gX0_nearer_X0_lowered rfl ⟨rfl, rfl⟩ (by decide +kernel) ⟨Nat.le_of_ble_eq_true rfl, Nat.le_of_ble_eq_true rfl⟩ ⟨Nat.le_of_ble_eq_true rfl, Nat.le_of_ble_eq_true rfl⟩ hl.1 rfl rfl (Nat.le_of_ble_eq_true rfl) dX0_nearer_29 ?_
      exact W.lret (v := (f_X0_lowered a0 1)) hx hb hr (fun t ht hW => ⟨_, rfl, hf, ht⟩) (fun q hq => absurd hq List.not_mem_nil) dX0_nearer_32
    · rw [if_pos c2] at hf
      refine lv_lload_n hx hb dX0_nearer_19 rfl (lv_at hl 1 rfl) ?_
      refine lv_iconst (v := 1) hx hb dX0_nearer_20 (by decide) ?_
      refine my_callPl (As := [.long a0, .int 1]) (rest := []) ⟨hx, hb, hml, hown, hts⟩ (m_X0_raised l a0 1 _ rfl) gX0_nearer_X0_raised rfl ⟨rfl, rfl⟩ (by decide +kernel) ⟨Nat.le_of_ble_eq_true rfl, Nat.le_of_ble_eq_true rfl⟩ ⟨Nat.le_of_ble_eq_true rfl, Nat.le_of_ble_eq_true rfl⟩ hl.1 rfl rfl (Nat.le_of_ble_eq_true rfl) dX0_nearer_21 ?_
      refine lv_goto (tgt := 32) hx hb dX0_nearer_24 (by decide) ?_
      exact W.lret (v := (f_X0_raised a0 1)) hx hb hr (fun t ht hW => ⟨_, rfl, hf, ht⟩) (fun q hq => absurd hq List.not_mem_nil) dX0_nearer_32
  · rw [if_pos c1] at hf
    refine lv_lload_n hx hb dX0_nearer_12 rfl (lv_at hl 2 rfl) ?_
    exact W.lret (v := a1) hx hb hr (fun t ht hW => ⟨_, rfl, hf, ht⟩) (fun q hq => absurd hq List.not_mem_nil) dX0_nearer_13

def f_X0_distance (a0 : Int64) (a1 : Int64) : Int64 := (if (f_X0_order a0 a1) < 0 then (-((f_X0_placeOf a0) - (f_X0_placeOf a1))) else ((f_X0_placeOf a0) - (f_X0_placeOf a1)))
abbrev rmX0_distance : Room := { frames := 2, cells := 0, slots := 0, locals := 46 }
set_option maxHeartbeats 4000000 in
set_option maxRecDepth 100000 in
theorem m_X0_distance (l : Launch) (a0 : Int64) (a1 : Int64) (res : Int64) (hf : f_X0_distance a0 a1 = res) : Met l yX0_distance wsX0_distance rmX0_distance (my_PcP [.long a0, .long a1]) (vp_Sl (fun z => z = res)) 0 0 (fun _ => False) := by
  refine Met.ofW (cc := cX0_distance) (maxL := 6) (ret := (some .long)) (by decide) rfl ?_
  intro p e s m args below meth c s₁ B hml hv
  obtain ⟨rfl, -⟩ := hv
  have hx := B.exec
  have hb := B.bytes
  have hr := B.returns
  have hts : ∀ w ∈ wsX0_distance, w.before ([.long a0, .long a1] : List Value).toArray s = true := atoms_spec (ws := wsX0_distance) B.pre
  have hown : s.vm.findClass RX0 = some m.cls := findClass_of_methodNamed B.named
  have hlk : meth.locks = false := B.notSynchronized
  have hl := lv_entry ([.long a0, .long a1]) (n := 6) (Nat.le_of_ble_eq_true rfl)
  rw [lg_entry_eq]
  generalize (lg_sl ([.long a0, .long a1]) ++ List.replicate (6 - (lg_sl ([.long a0, .long a1])).length) Slot.unset).toArray = ls at hl ⊢
  have hl : lv_has ls 6 [(0, .long a0), (2, .long a1)] := hl
  unfold f_X0_distance at hf
  refine lv_lload_n hx hb dX0_distance_0 rfl (lv_at hl 0 rfl) ?_
  refine my_callPl (As := [.long a0]) (rest := []) ⟨hx, hb, hml, hown, hts⟩ (m_X0_placeOf l a0 _ rfl) gX0_distance_X0_placeOf rfl ⟨rfl, rfl⟩ (by decide +kernel) ⟨Nat.le_of_ble_eq_true rfl, Nat.le_of_ble_eq_true rfl⟩ ⟨Nat.le_of_ble_eq_true rfl, Nat.le_of_ble_eq_true rfl⟩ hl.1 rfl rfl (Nat.le_of_ble_eq_true rfl) dX0_distance_1 ?_
  refine lv_lload_n hx hb dX0_distance_4 rfl (lv_at hl 1 rfl) ?_
  refine my_callPl (As := [.long a1]) (rest := [.long (f_X0_placeOf a0)]) ⟨hx, hb, hml, hown, hts⟩ (m_X0_placeOf l a1 _ rfl) gX0_distance_X0_placeOf rfl ⟨rfl, rfl⟩ (by decide +kernel) ⟨Nat.le_of_ble_eq_true rfl, Nat.le_of_ble_eq_true rfl⟩ ⟨Nat.le_of_ble_eq_true rfl, Nat.le_of_ble_eq_true rfl⟩ hl.1 rfl rfl (Nat.le_of_ble_eq_true rfl) dX0_distance_5 ?_
  refine lv_lsub hx hb dX0_distance_8 ?_
  refine lv_lstore (lv' := [(4, .long ((f_X0_placeOf a0) - (f_X0_placeOf a1))), (0, .long a0), (2, .long a1)]) hx hb dX0_distance_9 hl (by decide) rfl (fun ls hl => ?_)
  refine lv_lload_n hx hb dX0_distance_11 rfl (lv_at hl 1 rfl) ?_
  refine lv_lload_n hx hb dX0_distance_12 rfl (lv_at hl 2 rfl) ?_
  refine my_callPi (As := [.long a0, .long a1]) (rest := []) ⟨hx, hb, hml, hown, hts⟩ (m_X0_order l a0 a1 _ rfl) gX0_distance_X0_order rfl ⟨rfl, rfl⟩ (by decide +kernel) ⟨Nat.le_of_ble_eq_true rfl, Nat.le_of_ble_eq_true rfl⟩ ⟨Nat.le_of_ble_eq_true rfl, Nat.le_of_ble_eq_true rfl⟩ hl.1 rfl rfl (Nat.le_of_ble_eq_true rfl) dX0_distance_13 ?_
  refine my_if_ge (tgt := 25) hx hb dX0_distance_16 (by decide) (fun c1 => ?_) (fun c1 => ?_)
  · rw [if_neg c1] at hf
    refine lv_lload hx hb dX0_distance_25 (lv_at hl 0 rfl) ?_
    exact W.lret (v := ((f_X0_placeOf a0) - (f_X0_placeOf a1))) hx hb hr (fun t ht hW => ⟨_, rfl, hf, ht⟩) (fun q hq => absurd hq List.not_mem_nil) dX0_distance_27
  · rw [if_pos c1] at hf
    refine lv_lload hx hb dX0_distance_19 (lv_at hl 0 rfl) ?_
    refine lv_lneg hx hb dX0_distance_21 ?_
    refine lv_goto (tgt := 27) hx hb dX0_distance_22 (by decide) ?_
    exact W.lret (v := (-((f_X0_placeOf a0) - (f_X0_placeOf a1)))) hx hb hr (fun t ht hW => ⟨_, rfl, hf, ht⟩) (fun q hq => absurd hq List.not_mem_nil) dX0_distance_27

def f_X0_isMoreThan (a0 : Int64) (a1 : Int32) : Bool := (if a0 < 0 then true else (if (a1.toInt64) < a0 then true else false))
abbrev rmX0_isMoreThan : Room := { frames := 0, cells := 0, slots := 0, locals := 0 }
set_option maxHeartbeats 4000000 in
set_option maxRecDepth 100000 in
theorem m_X0_isMoreThan (l : Launch) (a0 : Int64) (a1 : Int32) (res : Bool) (hf : f_X0_isMoreThan a0 a1 = res) : Met l yX0_isMoreThan wsX0_isMoreThan rmX0_isMoreThan (my_PcP [.long a0, .int a1]) (vp_Si (fun z => z = b2i res)) 0 0 (fun _ => False) := by
  refine Met.ofW (cc := cX0_isMoreThan) (maxL := 3) (ret := (some .boolean)) (by decide) rfl ?_
  intro p e s m args below meth c s₁ B hml hv
  obtain ⟨rfl, -⟩ := hv
  have hx := B.exec
  have hb := B.bytes
  have hr := B.returns
  have hts : ∀ w ∈ wsX0_isMoreThan, w.before ([.long a0, .int a1] : List Value).toArray s = true := atoms_spec (ws := wsX0_isMoreThan) B.pre
  have hown : s.vm.findClass RX0 = some m.cls := findClass_of_methodNamed B.named
  have hlk : meth.locks = false := B.notSynchronized
  have hl := lv_entry ([.long a0, .int a1]) (n := 3) (Nat.le_of_ble_eq_true rfl)
  rw [lg_entry_eq]
  generalize (lg_sl ([.long a0, .int a1]) ++ List.replicate (3 - (lg_sl ([.long a0, .int a1])).length) Slot.unset).toArray = ls at hl ⊢
  have hl : lv_has ls 3 [(0, .long a0), (2, .int a1)] := hl
  unfold f_X0_isMoreThan at hf
  refine lv_lload_n hx hb dX0_isMoreThan_0 rfl (lv_at hl 0 rfl) ?_
  refine lv_lconst (v := 0) hx hb dX0_isMoreThan_1 (by decide) ?_
  refine my_lc_lt (tgt := 13) hx hb dX0_isMoreThan_2 dX0_isMoreThan_3 (by decide) (fun c1 => ?_) (fun c1 => ?_)
  · rw [if_pos c1] at hf
    refine lv_iconst (v := 1) hx hb dX0_isMoreThan_13 (by decide) ?_
    refine lv_goto (tgt := 18) hx hb dX0_isMoreThan_14 (by decide) ?_
    exact W.zret (v := b2i true) (ty := .boolean) hx hb hr (b2i_nar _) (fun t ht hW => ⟨_, rfl, congrArg b2i (hf), ht⟩) (fun q hq => absurd hq List.not_mem_nil) dX0_isMoreThan_18
  · rw [if_neg c1] at hf
    refine lv_lload_n hx hb dX0_isMoreThan_6 rfl (lv_at hl 0 rfl) ?_
    refine lv_iload_n hx hb dX0_isMoreThan_7 rfl (lv_at hl 1 rfl) ?_
    refine lv_i2l (v := (a1.toInt64)) hx hb dX0_isMoreThan_8 rfl ?_
    refine my_lc_le (tgt := 17) hx hb dX0_isMoreThan_9 dX0_isMoreThan_10 (by decide) (fun c2 => ?_) (fun c2 => ?_)
    · rw [if_neg c2] at hf
      refine lv_iconst (v := 0) hx hb dX0_isMoreThan_17 (by decide) ?_
      exact W.zret (v := b2i false) (ty := .boolean) hx hb hr (b2i_nar _) (fun t ht hW => ⟨_, rfl, congrArg b2i (hf), ht⟩) (fun q hq => absurd hq List.not_mem_nil) dX0_isMoreThan_18
    · rw [if_pos c2] at hf
      refine lv_iconst (v := 1) hx hb dX0_isMoreThan_13 (by decide) ?_
      refine lv_goto (tgt := 18) hx hb dX0_isMoreThan_14 (by decide) ?_
      exact W.zret (v := b2i true) (ty := .boolean) hx hb hr (b2i_nar _) (fun t ht hW => ⟨_, rfl, congrArg b2i (hf), ht⟩) (fun q hq => absurd hq List.not_mem_nil) dX0_isMoreThan_18

def f_X0_between (a0 : Int64) (a1 : Int64) : Int64 := (f_X0_atPlace (((f_X0_placeOf a0) &&& (f_X0_placeOf a1)) + (jshr ((f_X0_placeOf a0) ^^^ (f_X0_placeOf a1)) 1)))
abbrev rmX0_between : Room := { frames := 1, cells := 0, slots := 0, locals := 21 }
set_option maxHeartbeats 4000000 in
set_option maxRecDepth 100000 in
theorem m_X0_between (l : Launch) (a0 : Int64) (a1 : Int64) (res : Int64) (hf : f_X0_between a0 a1 = res) : Met l yX0_between wsX0_between rmX0_between (my_PcP [.long a0, .long a1]) (vp_Sl (fun z => z = res)) 0 0 (fun _ => False) := by
  refine Met.ofW (cc := cX0_between) (maxL := 8) (ret := (some .long)) (by decide) rfl ?_
  intro p e s m args below meth c s₁ B hml hv
  obtain ⟨rfl, -⟩ := hv
  have hx := B.exec
  have hb := B.bytes
  have hr := B.returns
  have hts : ∀ w ∈ wsX0_between, w.before ([.long a0, .long a1] : List Value).toArray s = true := atoms_spec (ws := wsX0_between) B.pre
  have hown : s.vm.findClass RX0 = some m.cls := findClass_of_methodNamed B.named
  have hlk : meth.locks = false := B.notSynchronized
  have hl := lv_entry ([.long a0, .long a1]) (n := 8) (Nat.le_of_ble_eq_true rfl)
  rw [lg_entry_eq]
  generalize (lg_sl ([.long a0, .long a1]) ++ List.replicate (8 - (lg_sl ([.long a0, .long a1])).length) Slot.unset).toArray = ls at hl ⊢
  have hl : lv_has ls 8 [(0, .long a0), (2, .long a1)] := hl
  unfold f_X0_between at hf
  refine lv_lload_n hx hb dX0_between_0 rfl (lv_at hl 0 rfl) ?_
  refine my_callPl (As := [.long a0]) (rest := []) ⟨hx, hb, hml, hown, hts⟩ (m_X0_placeOf l a0 _ rfl) gX0_between_X0_placeOf rfl ⟨rfl, rfl⟩ (by decide +kernel) ⟨Nat.le_of_ble_eq_true rfl, Nat.le_of_ble_eq_true rfl⟩ ⟨Nat.le_of_ble_eq_true rfl, Nat.le_of_ble_eq_true rfl⟩ hl.1 rfl rfl (Nat.le_of_ble_eq_true rfl) dX0_between_1 ?_
  refine lv_lstore (lv' := [(4, .long (f_X0_placeOf a0)), (0, .long a0), (2, .long a1)]) hx hb dX0_between_4 hl (by decide) rfl (fun ls hl => ?_)
  refine lv_lload_n hx hb dX0_between_6 rfl (lv_at hl 2 rfl) ?_
  refine my_callPl (As := [.long a1]) (rest := []) ⟨hx, hb, hml, hown, hts⟩ (m_X0_placeOf l a1 _ rfl) gX0_between_X0_placeOf rfl ⟨rfl, rfl⟩ (by decide +kernel) ⟨Nat.le_of_ble_eq_true rfl, Nat.le_of_ble_eq_true rfl⟩ ⟨Nat.le_of_ble_eq_true rfl, Nat.le_of_ble_eq_true rfl⟩ hl.1 rfl rfl (Nat.le_of_ble_eq_true rfl) dX0_between_7 ?_
  refine lv_lstore (lv' := [(6, .long (f_X0_placeOf a1)), (4, .long (f_X0_placeOf a0)), (0, .long a0), (2, .long a1)]) hx hb dX0_between_10 hl (by decide) rfl (fun ls hl => ?_)
  refine lv_lload hx hb dX0_between_12 (lv_at hl 1 rfl) ?_
  refine lv_lload hx hb dX0_between_14 (lv_at hl 0 rfl) ?_
  refine lv_land hx hb dX0_between_16 ?_
  refine lv_lload hx hb dX0_between_17 (lv_at hl 1 rfl) ?_
  refine lv_lload hx hb dX0_between_19 (lv_at hl 0 rfl) ?_
  refine lv_lxor hx hb dX0_between_21 ?_
  refine lv_iconst (v := 1) hx hb dX0_between_22 (by decide) ?_
  refine lv_lshr (v := (jshr ((f_X0_placeOf a0) ^^^ (f_X0_placeOf a1)) 1)) hx hb dX0_between_23 rfl ?_
  refine lv_ladd hx hb dX0_between_24 ?_
  refine my_callPl (As := [.long (((f_X0_placeOf a0) &&& (f_X0_placeOf a1)) + (jshr ((f_X0_placeOf a0) ^^^ (f_X0_placeOf a1)) 1))]) (rest := []) ⟨hx, hb, hml, hown, hts⟩ (m_X0_atPlace l (((f_X0_placeOf a0) &&& (f_X0_placeOf a1)) + (jshr ((f_X0_placeOf a0) ^^^ (f_X0_placeOf a1)) 1)) _ rfl) gX0_between_X0_atPlace rfl ⟨rfl, rfl⟩ (by decide +kernel) ⟨Nat.le_of_ble_eq_true rfl, Nat.le_of_ble_eq_true rfl⟩ ⟨Nat.le_of_ble_eq_true rfl, Nat.le_of_ble_eq_true rfl⟩ hl.1 rfl rfl (Nat.le_of_ble_eq_true rfl) dX0_between_25 ?_
  exact W.lret (v := (f_X0_atPlace (((f_X0_placeOf a0) &&& (f_X0_placeOf a1)) + (jshr ((f_X0_placeOf a0) ^^^ (f_X0_placeOf a1)) 1)))) hx hb hr (fun t ht hW => ⟨_, rfl, hf, ht⟩) (fun q hq => absurd hq List.not_mem_nil) dX0_between_28

def f_X0_scaled (a0 : Int64) (a1 : Int32) : Int64 := (if (f_X0_isZero a0) = false then (if (f_X0_hasNoEnd a0) = false then ((a0 &&& (-9223372036854775808)) ||| (f_X0_nearest (f_X0_whole a0) ((f_X0_shift a0) + a1))) else a0) else a0)
abbrev rmX0_scaled : Room := { frames := 3, cells := 0, slots := 0, locals := 67 }
set_option maxHeartbeats 4000000 in
set_option maxRecDepth 100000 in
theorem m_X0_scaled (l : Launch) (a0 : Int64) (a1 : Int32) (res : Int64) (hf : f_X0_scaled a0 a1 = res) : Met l yX0_scaled wsX0_scaled rmX0_scaled (my_PcP [.long a0, .int a1]) (vp_Sl (fun z => z = res)) 0 0 (fun _ => False) := by
  refine Met.ofW (cc := cX0_scaled) (maxL := 3) (ret := (some .long)) (by decide) rfl ?_
  intro p e s m args below meth c s₁ B hml hv
  obtain ⟨rfl, -⟩ := hv
  have hx := B.exec
  have hb := B.bytes
  have hr := B.returns
  have hts : ∀ w ∈ wsX0_scaled, w.before ([.long a0, .int a1] : List Value).toArray s = true := atoms_spec (ws := wsX0_scaled) B.pre
  have hown : s.vm.findClass RX0 = some m.cls := findClass_of_methodNamed B.named
  have hlk : meth.locks = false := B.notSynchronized
  have q1 := hts (.constantLong RX0 9 (-9223372036854775808)) (by decide +kernel)
  have hl := lv_entry ([.long a0, .int a1]) (n := 3) (Nat.le_of_ble_eq_true rfl)
  rw [lg_entry_eq]
  generalize (lg_sl ([.long a0, .int a1]) ++ List.replicate (3 - (lg_sl ([.long a0, .int a1])).length) Slot.unset).toArray = ls at hl ⊢
  have hl : lv_has ls 3 [(0, .long a0), (2, .int a1)] := hl
  unfold f_X0_scaled at hf
  refine lv_lload_n hx hb dX0_scaled_0 rfl (lv_at hl 0 rfl) ?_
  refine my_callPi (As := [.long a0]) (rest := []) ⟨hx, hb, hml, hown, hts⟩ (m_X0_isZero l a0 _ rfl) gX0_scaled_X0_isZero rfl ⟨rfl, rfl⟩ (by decide +kernel) ⟨Nat.le_of_ble_eq_true rfl, Nat.le_of_ble_eq_true rfl⟩ ⟨Nat.le_of_ble_eq_true rfl, Nat.le_of_ble_eq_true rfl⟩ hl.1 rfl rfl (Nat.le_of_ble_eq_true rfl) dX0_scaled_1 ?_
  refine my_bz_ne (x := (f_X0_isZero a0)) (tgt := 14) hx hb dX0_scaled_4 (by decide) (fun c1 => ?_) (fun c1 => ?_)
  · rw [if_neg c1] at hf
    refine lv_lload_n hx hb dX0_scaled_14 rfl (lv_at hl 0 rfl) ?_
    exact W.lret (v := a0) hx hb hr (fun t ht hW => ⟨_, rfl, hf, ht⟩) (fun q hq => absurd hq List.not_mem_nil) dX0_scaled_15
  · rw [if_pos c1] at hf
    refine lv_lload_n hx hb dX0_scaled_7 rfl (lv_at hl 0 rfl) ?_
    refine my_callPi (As := [.long a0]) (rest := []) ⟨hx, hb, hml, hown, hts⟩ (m_X0_hasNoEnd l a0 _ rfl) gX0_scaled_X0_hasNoEnd rfl ⟨rfl, rfl⟩ (by decide +kernel) ⟨Nat.le_of_ble_eq_true rfl, Nat.le_of_ble_eq_true rfl⟩ ⟨Nat.le_of_ble_eq_true rfl, Nat.le_of_ble_eq_true rfl⟩ hl.1 rfl rfl (Nat.le_of_ble_eq_true rfl) dX0_scaled_8 ?_
    refine my_bz_eq (x := (f_X0_hasNoEnd a0)) (tgt := 16) hx hb dX0_scaled_11 (by decide) (fun c2 => ?_) (fun c2 => ?_)
    · rw [if_pos c2] at hf
      refine lv_lload_n hx hb dX0_scaled_16 rfl (lv_at hl 0 rfl) ?_
      refine lv_ldc2 (v := (-9223372036854775808)) hx hb hown q1 dX0_scaled_17 ?_
      refine lv_land hx hb dX0_scaled_20 ?_
      refine lv_lload_n hx hb dX0_scaled_21 rfl (lv_at hl 0 rfl) ?_
      refine my_callPl (As := [.long a0]) (rest := [.long (a0 &&& (-9223372036854775808))]) ⟨hx, hb, hml, hown, hts⟩ (m_X0_whole l a0 _ rfl) gX0_scaled_X0_whole rfl ⟨rfl, rfl⟩ (by decide +kernel) ⟨Nat.le_of_ble_eq_true rfl, Nat.le_of_ble_eq_true rfl⟩ ⟨Nat.le_of_ble_eq_true rfl, Nat.le_of_ble_eq_true rfl⟩ hl.1 rfl rfl (Nat.le_of_ble_eq_true rfl) dX0_scaled_22 ?_
      refine lv_lload_n hx hb dX0_scaled_25 rfl (lv_at hl 0 rfl) ?_
      refine my_callPi (As := [.long a0]) (rest := [.long (f_X0_whole a0), .long (a0 &&& (-9223372036854775808))]) ⟨hx, hb, hml, hown, hts⟩ (m_X0_shift l a0 _ rfl) gX0_scaled_X0_shift rfl ⟨rfl, rfl⟩ (by decide +kernel) ⟨Nat.le_of_ble_eq_true rfl, Nat.le_of_ble_eq_true rfl⟩ ⟨Nat.le_of_ble_eq_true rfl, Nat.le_of_ble_eq_true rfl⟩ hl.1 rfl rfl (Nat.le_of_ble_eq_true rfl) dX0_scaled_26 ?_
      refine lv_iload_n hx hb dX0_scaled_29 rfl (lv_at hl 1 rfl) ?_
      refine lv_iadd hx hb dX0_scaled_30 ?_
      refine my_callPl (As := [.long (f_X0_whole a0), .int ((f_X0_shift a0) + a1)]) (rest := [.long (a0 &&& (-9223372036854775808))]) ⟨hx, hb, hml, hown, hts⟩ (m_X0_nearest l (f_X0_whole a0) ((f_X0_shift a0) + a1) _ rfl) gX0_scaled_X0_nearest rfl ⟨rfl, rfl⟩ (by decide +kernel) ⟨Nat.le_of_ble_eq_true rfl, Nat.le_of_ble_eq_true rfl⟩ ⟨Nat.le_of_ble_eq_true rfl, Nat.le_of_ble_eq_true rfl⟩ hl.1 rfl rfl (Nat.le_of_ble_eq_true rfl) dX0_scaled_31 ?_
      refine lv_lor hx hb dX0_scaled_34 ?_
      exact W.lret (v := ((a0 &&& (-9223372036854775808)) ||| (f_X0_nearest (f_X0_whole a0) ((f_X0_shift a0) + a1)))) hx hb hr (fun t ht hW => ⟨_, rfl, hf, ht⟩) (fun q hq => absurd hq List.not_mem_nil) dX0_scaled_35
    · rw [if_neg c2] at hf
      refine lv_lload_n hx hb dX0_scaled_14 rfl (lv_at hl 0 rfl) ?_
      exact W.lret (v := a0) hx hb hr (fun t ht hW => ⟨_, rfl, hf, ht⟩) (fun q hq => absurd hq List.not_mem_nil) dX0_scaled_15

def f_X0_exponentOf (a0 : Int64) : Int32 := ((f_X0_exponentBits a0) - 1023)
abbrev rmX0_exponentOf : Room := { frames := 1, cells := 0, slots := 0, locals := 21 }
set_option maxHeartbeats 4000000 in
set_option maxRecDepth 100000 in
theorem m_X0_exponentOf (l : Launch) (a0 : Int64) (res : Int32) (hf : f_X0_exponentOf a0 = res) : Met l yX0_exponentOf wsX0_exponentOf rmX0_exponentOf (my_PcP [.long a0]) (vp_Si (fun z => z = res)) 0 0 (fun _ => False) := by
  refine Met.ofW (cc := cX0_exponentOf) (maxL := 2) (ret := (some .int)) (by decide) rfl ?_
  intro p e s m args below meth c s₁ B hml hv
  obtain ⟨rfl, -⟩ := hv
  have hx := B.exec
  have hb := B.bytes
  have hr := B.returns
  have hts : ∀ w ∈ wsX0_exponentOf, w.before ([.long a0] : List Value).toArray s = true := atoms_spec (ws := wsX0_exponentOf) B.pre
  have hown : s.vm.findClass RX0 = some m.cls := findClass_of_methodNamed B.named
  have hlk : meth.locks = false := B.notSynchronized
  have hl := lv_entry ([.long a0]) (n := 2) (Nat.le_of_ble_eq_true rfl)
  rw [lg_entry_eq]
  generalize (lg_sl ([.long a0]) ++ List.replicate (2 - (lg_sl ([.long a0])).length) Slot.unset).toArray = ls at hl ⊢
  have hl : lv_has ls 2 [(0, .long a0)] := hl
  unfold f_X0_exponentOf at hf
  refine lv_lload_n hx hb dX0_exponentOf_0 rfl (lv_at hl 0 rfl) ?_
  refine my_callPi (As := [.long a0]) (rest := []) ⟨hx, hb, hml, hown, hts⟩ (m_X0_exponentBits l a0 _ rfl) gX0_exponentOf_X0_exponentBits rfl ⟨rfl, rfl⟩ (by decide +kernel) ⟨Nat.le_of_ble_eq_true rfl, Nat.le_of_ble_eq_true rfl⟩ ⟨Nat.le_of_ble_eq_true rfl, Nat.le_of_ble_eq_true rfl⟩ hl.1 rfl rfl (Nat.le_of_ble_eq_true rfl) dX0_exponentOf_1 ?_
  refine lv_sipush (v := 1023) hx hb dX0_exponentOf_4 (by decide) ?_
  refine lv_isub hx hb dX0_exponentOf_7 ?_
  exact W.iret (v := ((f_X0_exponentBits a0) - 1023)) hx hb hr (fun t ht hW => ⟨_, rfl, hf, ht⟩) (fun q hq => absurd hq List.not_mem_nil) dX0_exponentOf_8

def f_X0_powerOfTwo (a0 : Int32) : Int64 := (f_X0_nearest 1 (a0 - (-1074)))
abbrev rmX0_powerOfTwo : Room := { frames := 3, cells := 0, slots := 0, locals := 67 }
set_option maxHeartbeats 4000000 in
set_option maxRecDepth 100000 in
theorem m_X0_powerOfTwo (l : Launch) (a0 : Int32) (res : Int64) (hf : f_X0_powerOfTwo a0 = res) : Met l yX0_powerOfTwo wsX0_powerOfTwo rmX0_powerOfTwo (my_PcP [.int a0]) (vp_Sl (fun z => z = res)) 0 0 (fun _ => False) := by
  refine Met.ofW (cc := cX0_powerOfTwo) (maxL := 1) (ret := (some .long)) (by decide) rfl ?_
  intro p e s m args below meth c s₁ B hml hv
  obtain ⟨rfl, -⟩ := hv
  have hx := B.exec
  have hb := B.bytes
  have hr := B.returns
  have hts : ∀ w ∈ wsX0_powerOfTwo, w.before ([.int a0] : List Value).toArray s = true := atoms_spec (ws := wsX0_powerOfTwo) B.pre
  have hown : s.vm.findClass RX0 = some m.cls := findClass_of_methodNamed B.named
  have hlk : meth.locks = false := B.notSynchronized
  have hl := lv_entry ([.int a0]) (n := 1) (Nat.le_of_ble_eq_true rfl)
  rw [lg_entry_eq]
  generalize (lg_sl ([.int a0]) ++ List.replicate (1 - (lg_sl ([.int a0])).length) Slot.unset).toArray = ls at hl ⊢
  have hl : lv_has ls 1 [(0, .int a0)] := hl
  unfold f_X0_powerOfTwo at hf
  refine lv_lconst (v := 1) hx hb dX0_powerOfTwo_0 (by decide) ?_
  refine lv_iload_n hx hb dX0_powerOfTwo_1 rfl (lv_at hl 0 rfl) ?_
  refine lv_sipush (v := (-1074)) hx hb dX0_powerOfTwo_2 (by decide) ?_
  refine lv_isub hx hb dX0_powerOfTwo_5 ?_
  refine my_callPl (As := [.long 1, .int (a0 - (-1074))]) (rest := []) ⟨hx, hb, hml, hown, hts⟩ (m_X0_nearest l 1 (a0 - (-1074)) _ rfl) gX0_powerOfTwo_X0_nearest rfl ⟨rfl, rfl⟩ (by decide +kernel) ⟨Nat.le_of_ble_eq_true rfl, Nat.le_of_ble_eq_true rfl⟩ ⟨Nat.le_of_ble_eq_true rfl, Nat.le_of_ble_eq_true rfl⟩ hl.1 rfl rfl (Nat.le_of_ble_eq_true rfl) dX0_powerOfTwo_6 ?_
  exact W.lret (v := (f_X0_nearest 1 (a0 - (-1074)))) hx hb hr (fun t ht hW => ⟨_, rfl, hf, ht⟩) (fun q hq => absurd hq List.not_mem_nil) dX0_powerOfTwo_9

def f_X0_unitOf (a0 : Int64) : Int64 := (if (f_X0_hasNoEnd a0) = false then (f_X0_powerOfTwo ((-1074) + (f_X0_shift a0))) else 9218868437227405312)
abbrev rmX0_unitOf : Room := { frames := 4, cells := 0, slots := 0, locals := 87 }
set_option maxHeartbeats 4000000 in
set_option maxRecDepth 100000 in
theorem m_X0_unitOf (l : Launch) (a0 : Int64) (res : Int64) (hf : f_X0_unitOf a0 = res) : Met l yX0_unitOf wsX0_unitOf rmX0_unitOf (my_PcP [.long a0]) (vp_Sl (fun z => z = res)) 0 0 (fun _ => False) := by
  refine Met.ofW (cc := cX0_unitOf) (maxL := 2) (ret := (some .long)) (by decide) rfl ?_
  intro p e s m args below meth c s₁ B hml hv
  obtain ⟨rfl, -⟩ := hv
  have hx := B.exec
  have hb := B.bytes
  have hr := B.returns
  have hts : ∀ w ∈ wsX0_unitOf, w.before ([.long a0] : List Value).toArray s = true := atoms_spec (ws := wsX0_unitOf) B.pre
  have hown : s.vm.findClass RX0 = some m.cls := findClass_of_methodNamed B.named
  have hlk : meth.locks = false := B.notSynchronized
  have q1 := hts (.constantLong RX0 17 (9218868437227405312)) (by decide +kernel)
  have hl := lv_entry ([.long a0]) (n := 2) (Nat.le_of_ble_eq_true rfl)
  rw [lg_entry_eq]
  generalize (lg_sl ([.long a0]) ++ List.replicate (2 - (lg_sl ([.long a0])).length) Slot.unset).toArray = ls at hl ⊢
  have hl : lv_has ls 2 [(0, .long a0)] := hl
  unfold f_X0_unitOf at hf
  refine lv_lload_n hx hb dX0_unitOf_0 rfl (lv_at hl 0 rfl) ?_
  refine my_callPi (As := [.long a0]) (rest := []) ⟨hx, hb, hml, hown, hts⟩ (m_X0_hasNoEnd l a0 _ rfl) gX0_unitOf_X0_hasNoEnd rfl ⟨rfl, rfl⟩ (by decide +kernel) ⟨Nat.le_of_ble_eq_true rfl, Nat.le_of_ble_eq_true rfl⟩ ⟨Nat.le_of_ble_eq_true rfl, Nat.le_of_ble_eq_true rfl⟩ hl.1 rfl rfl (Nat.le_of_ble_eq_true rfl) dX0_unitOf_1 ?_
  refine my_bz_eq (x := (f_X0_hasNoEnd a0)) (tgt := 13) hx hb dX0_unitOf_4 (by decide) (fun c1 => ?_) (fun c1 => ?_)
  · rw [if_pos c1] at hf
    refine lv_sipush (v := (-1074)) hx hb dX0_unitOf_13 (by decide) ?_
    refine lv_lload_n hx hb dX0_unitOf_16 rfl (lv_at hl 0 rfl) ?_
    refine my_callPi (As := [.long a0]) (rest := [.int (-1074)]) ⟨hx, hb, hml, hown, hts⟩ (m_X0_shift l a0 _ rfl) gX0_unitOf_X0_shift rfl ⟨rfl, rfl⟩ (by decide +kernel) ⟨Nat.le_of_ble_eq_true rfl, Nat.le_of_ble_eq_true rfl⟩ ⟨Nat.le_of_ble_eq_true rfl, Nat.le_of_ble_eq_true rfl⟩ hl.1 rfl rfl (Nat.le_of_ble_eq_true rfl) dX0_unitOf_17 ?_
    refine lv_iadd hx hb dX0_unitOf_20 ?_
    refine my_callPl (As := [.int ((-1074) + (f_X0_shift a0))]) (rest := []) ⟨hx, hb, hml, hown, hts⟩ (m_X0_powerOfTwo l ((-1074) + (f_X0_shift a0)) _ rfl) gX0_unitOf_X0_powerOfTwo rfl ⟨rfl, rfl⟩ (by decide +kernel) ⟨Nat.le_of_ble_eq_true rfl, Nat.le_of_ble_eq_true rfl⟩ ⟨Nat.le_of_ble_eq_true rfl, Nat.le_of_ble_eq_true rfl⟩ hl.1 rfl rfl (Nat.le_of_ble_eq_true rfl) dX0_unitOf_21 ?_
    exact W.lret (v := (f_X0_powerOfTwo ((-1074) + (f_X0_shift a0)))) hx hb hr (fun t ht hW => ⟨_, rfl, hf, ht⟩) (fun q hq => absurd hq List.not_mem_nil) dX0_unitOf_24
  · rw [if_neg c1] at hf
    refine lv_ldc2 (v := 9218868437227405312) hx hb hown q1 dX0_unitOf_7 ?_
    refine lv_goto (tgt := 24) hx hb dX0_unitOf_10 (by decide) ?_
    exact W.lret (v := 9218868437227405312) hx hb hr (fun t ht hW => ⟨_, rfl, hf, ht⟩) (fun q hq => absurd hq List.not_mem_nil) dX0_unitOf_24

def f_X0_leadOf (a0 : Int64) : Int32 := (((63 - (f_J13_numberOfLeadingZeros_95d88 (f_X0_whole a0))) + (f_X0_shift a0)) + (-1074))
abbrev rmX0_leadOf : Room := { frames := 2, cells := 0, slots := 0, locals := 44 }
set_option maxHeartbeats 4000000 in
set_option maxRecDepth 100000 in
theorem m_X0_leadOf (l : Launch) (a0 : Int64) (res : Int32) (hf : f_X0_leadOf a0 = res) : Met l yX0_leadOf wsX0_leadOf rmX0_leadOf (my_PcP [.long a0]) (vp_Si (fun z => z = res)) 0 0 (fun _ => False) := by
  refine Met.ofW (cc := cX0_leadOf) (maxL := 2) (ret := (some .int)) (by decide) rfl ?_
  intro p e s m args below meth c s₁ B hml hv
  obtain ⟨rfl, -⟩ := hv
  have hx := B.exec
  have hb := B.bytes
  have hr := B.returns
  have hts : ∀ w ∈ wsX0_leadOf, w.before ([.long a0] : List Value).toArray s = true := atoms_spec (ws := wsX0_leadOf) B.pre
  have hown : s.vm.findClass RX0 = some m.cls := findClass_of_methodNamed B.named
  have hlk : meth.locks = false := B.notSynchronized
  have hl := lv_entry ([.long a0]) (n := 2) (Nat.le_of_ble_eq_true rfl)
  rw [lg_entry_eq]
  generalize (lg_sl ([.long a0]) ++ List.replicate (2 - (lg_sl ([.long a0])).length) Slot.unset).toArray = ls at hl ⊢
  have hl : lv_has ls 2 [(0, .long a0)] := hl
  unfold f_X0_leadOf at hf
  refine lv_bipush (v := 63) hx hb dX0_leadOf_0 (by decide) ?_
  refine lv_lload_n hx hb dX0_leadOf_2 rfl (lv_at hl 0 rfl) ?_
  refine my_callPl (As := [.long a0]) (rest := [.int 63]) ⟨hx, hb, hml, hown, hts⟩ (m_X0_whole l a0 _ rfl) gX0_leadOf_X0_whole rfl ⟨rfl, rfl⟩ (by decide +kernel) ⟨Nat.le_of_ble_eq_true rfl, Nat.le_of_ble_eq_true rfl⟩ ⟨Nat.le_of_ble_eq_true rfl, Nat.le_of_ble_eq_true rfl⟩ hl.1 rfl rfl (Nat.le_of_ble_eq_true rfl) dX0_leadOf_3 ?_
  refine my_callPi (As := [.long (f_X0_whole a0)]) (rest := [.int 63]) ⟨hx, hb, hml, hown, hts⟩ (m_J13_numberOfLeadingZeros_95d88 l (f_X0_whole a0) _ rfl) gX0_leadOf_J13_numberOfLeadingZeros_95d88 rfl ⟨rfl, rfl⟩ (by decide +kernel) ⟨Nat.le_of_ble_eq_true rfl, Nat.le_of_ble_eq_true rfl⟩ ⟨Nat.le_of_ble_eq_true rfl, Nat.le_of_ble_eq_true rfl⟩ hl.1 rfl rfl (Nat.le_of_ble_eq_true rfl) dX0_leadOf_6 ?_
  refine lv_isub hx hb dX0_leadOf_9 ?_
  refine lv_lload_n hx hb dX0_leadOf_10 rfl (lv_at hl 0 rfl) ?_
  refine my_callPi (As := [.long a0]) (rest := [.int (63 - (f_J13_numberOfLeadingZeros_95d88 (f_X0_whole a0)))]) ⟨hx, hb, hml, hown, hts⟩ (m_X0_shift l a0 _ rfl) gX0_leadOf_X0_shift rfl ⟨rfl, rfl⟩ (by decide +kernel) ⟨Nat.le_of_ble_eq_true rfl, Nat.le_of_ble_eq_true rfl⟩ ⟨Nat.le_of_ble_eq_true rfl, Nat.le_of_ble_eq_true rfl⟩ hl.1 rfl rfl (Nat.le_of_ble_eq_true rfl) dX0_leadOf_11 ?_
  refine lv_iadd hx hb dX0_leadOf_14 ?_
  refine lv_sipush (v := (-1074)) hx hb dX0_leadOf_15 (by decide) ?_
  refine lv_iadd hx hb dX0_leadOf_18 ?_
  exact W.iret (v := (((63 - (f_J13_numberOfLeadingZeros_95d88 (f_X0_whole a0))) + (f_X0_shift a0)) + (-1074))) hx hb hr (fun t ht hW => ⟨_, rfl, hf, ht⟩) (fun q hq => absurd hq List.not_mem_nil) dX0_leadOf_19

def f_X1_powerRest_L14 (a0 : Int32) (a1 : Int32)   : Nat → Int32 → Int64 → Int64 → Option (Int64)
  | 0, _, _, _ => none
  | n + 1, v14_6, v14_4, v14_2 => (if 0 < v14_6 then (if (v14_6 &&& 1) = 1 then (if (a1.toInt64) = 0 then none else (if (a1.toInt64) = 0 then none else (f_X1_powerRest_L14 a0 a1 n (v14_6 >>> (1 &&& 31)) ((v14_4 * v14_4) - (v14_4 * v14_4) / (a1.toInt64) * (a1.toInt64)) ((v14_2 * v14_4) - (v14_2 * v14_4) / (a1.toInt64) * (a1.toInt64))))) else (if (a1.toInt64) = 0 then none else (f_X1_powerRest_L14 a0 a1 n (v14_6 >>> (1 &&& 31)) ((v14_4 * v14_4) - (v14_4 * v14_4) / (a1.toInt64) * (a1.toInt64)) v14_2))) else some v14_2)
def f_X1_powerRest (a0 : Int32) (a1 : Int32) : Option (Int64) := (if a1 = 0 then none else (if a1 = 0 then none else (f_X1_powerRest_L14 a0 a1 100 a0 (((2 - 2 / a1 * a1) : Int32).toInt64) (((1 - 1 / a1 * a1) : Int32).toInt64))))
abbrev rmX1_powerRest : Room := { frames := 0, cells := 0, slots := 0, locals := 0 }
set_option maxHeartbeats 4000000 in
set_option maxRecDepth 100000 in
theorem m_X1_powerRest (l : Launch) (a0 : Int32) (a1 : Int32) (res : Int64) (hf : f_X1_powerRest a0 a1 = some res) : Met l yX1_powerRest wsX1_powerRest rmX1_powerRest (my_PcP [.int a0, .int a1]) (vp_Sl (fun z => z = res)) 0 0 (fun _ => False) := by
  refine Met.ofW (cc := cX1_powerRest) (maxL := 7) (ret := (some .long)) (by decide) rfl ?_
  intro p e s m args below meth c s₁ B hml hv
  obtain ⟨rfl, -⟩ := hv
  have hx := B.exec
  have hb := B.bytes
  have hr := B.returns
  have hts : ∀ w ∈ wsX1_powerRest, w.before ([.int a0, .int a1] : List Value).toArray s = true := atoms_spec (ws := wsX1_powerRest) B.pre
  have hown : s.vm.findClass RX1 = some m.cls := findClass_of_methodNamed B.named
  have hlk : meth.locks = false := B.notSynchronized
  have hl := lv_entry ([.int a0, .int a1]) (n := 7) (Nat.le_of_ble_eq_true rfl)
  rw [lg_entry_eq]
  generalize (lg_sl ([.int a0, .int a1]) ++ List.replicate (7 - (lg_sl ([.int a0, .int a1])).length) Slot.unset).toArray = ls at hl ⊢
  have hl : lv_has ls 7 [(0, .int a0), (1, .int a1)] := hl
  unfold f_X1_powerRest at hf
  refine lv_iconst (v := 1) hx hb dX1_powerRest_0 (by decide) ?_
  refine lv_iload_n hx hb dX1_powerRest_1 rfl (lv_at hl 1 rfl) ?_
  obtain ⟨g1, hf⟩ := og_e hf
  refine lv_irem hx hb dX1_powerRest_2 g1 ?_
  refine lv_i2l (v := (((1 - 1 / a1 * a1) : Int32).toInt64)) hx hb dX1_powerRest_3 rfl ?_
  refine lv_lstore_n (lv' := [(2, .long (((1 - 1 / a1 * a1) : Int32).toInt64)), (0, .int a0), (1, .int a1)]) hx hb dX1_powerRest_4 rfl hl (by decide) rfl (fun ls hl => ?_)
  refine lv_iconst (v := 2) hx hb dX1_powerRest_5 (by decide) ?_
  refine lv_iload_n hx hb dX1_powerRest_6 rfl (lv_at hl 2 rfl) ?_
  obtain ⟨g2, hf⟩ := og_e hf
  refine lv_irem hx hb dX1_powerRest_7 g2 ?_
  refine lv_i2l (v := (((2 - 2 / a1 * a1) : Int32).toInt64)) hx hb dX1_powerRest_8 rfl ?_
  refine lv_lstore (lv' := [(4, .long (((2 - 2 / a1 * a1) : Int32).toInt64)), (2, .long (((1 - 1 / a1 * a1) : Int32).toInt64)), (0, .int a0), (1, .int a1)]) hx hb dX1_powerRest_9 hl (by decide) rfl (fun ls hl => ?_)
  refine lv_iload_n hx hb dX1_powerRest_11 rfl (lv_at hl 2 rfl) ?_
  refine lv_istore (lv' := [(6, .int a0), (4, .long (((2 - 2 / a1 * a1) : Int32).toInt64)), (2, .long (((1 - 1 / a1 * a1) : Int32).toInt64)), (0, .int a0), (1, .int a1)]) hx hb dX1_powerRest_12 hl (by decide) rfl (fun ls hl => ?_)
  have loop14 : ∀ (n : Nat) (v14_6 : Int32) (v14_4 : Int64) (v14_2 : Int64) (ls : Array Slot), lv_has ls 7 [(6, .int v14_6), (4, .long v14_4), (2, .long v14_2), (1, .int a1)] → f_X1_powerRest_L14 a0 a1 n v14_6 v14_4 v14_2 = some res → W p l e (rmX1_powerRest) s m ([.int a0, .int a1] : List Value).toArray below meth c s.heap [] 0 0 (MQ below (vp_Sl (fun z => z = res)) ([.int a0, .int a1] : List Value).toArray s 0 0 (fun _ => False)) (F0 m 14 ls []) := by
    intro n
    induction n with
    | zero => intro v14_6 v14_4 v14_2 ls hl hf; rw [f_X1_powerRest_L14] at hf; cases hf
    | succ n ih14 =>
      intro v14_6 v14_4 v14_2 ls hl hf
      rw [f_X1_powerRest_L14] at hf
      refine lv_iload hx hb dX1_powerRest_14 (lv_at hl 0 rfl) ?_
      refine my_if_le (tgt := 54) hx hb dX1_powerRest_16 (by decide) (fun c3 => ?_) (fun c3 => ?_)
      · rw [if_neg c3] at hf
        refine lv_lload_n hx hb dX1_powerRest_54 rfl (lv_at hl 2 rfl) ?_
        exact W.lret (v := v14_2) hx hb hr (fun t ht hW => ⟨_, rfl, Option.some.inj hf, ht⟩) (fun q hq => absurd hq List.not_mem_nil) dX1_powerRest_55
      · rw [if_pos c3] at hf
        refine lv_iload hx hb dX1_powerRest_19 (lv_at hl 0 rfl) ?_
        refine lv_iconst (v := 1) hx hb dX1_powerRest_21 (by decide) ?_
        refine lv_iand hx hb dX1_powerRest_22 ?_
        refine lv_iconst (v := 1) hx hb dX1_powerRest_23 (by decide) ?_
        refine my_ic_ne (tgt := 35) hx hb dX1_powerRest_24 (by decide) (fun c4 => ?_) (fun c4 => ?_)
        · rw [if_neg c4] at hf
          refine lv_lload hx hb dX1_powerRest_35 (lv_at hl 1 rfl) ?_
          refine lv_lload hx hb dX1_powerRest_37 (lv_at hl 1 rfl) ?_
          refine lv_lmul hx hb dX1_powerRest_39 ?_
          refine lv_iload_n hx hb dX1_powerRest_40 rfl (lv_at hl 3 rfl) ?_
          refine lv_i2l (v := (a1.toInt64)) hx hb dX1_powerRest_41 rfl ?_
          obtain ⟨g5, hf⟩ := og_e hf
          refine lv_lrem hx hb dX1_powerRest_42 g5 ?_
          refine lv_lstore (lv' := [(4, .long ((v14_4 * v14_4) - (v14_4 * v14_4) / (a1.toInt64) * (a1.toInt64))), (6, .int v14_6), (2, .long v14_2), (1, .int a1)]) hx hb dX1_powerRest_43 hl (by decide) rfl (fun ls hl => ?_)
          refine lv_iload hx hb dX1_powerRest_45 (lv_at hl 1 rfl) ?_
          refine lv_iconst (v := 1) hx hb dX1_powerRest_47 (by decide) ?_
          refine lv_ishr hx hb dX1_powerRest_48 ?_
          refine lv_istore (lv' := [(6, .int (v14_6 >>> (1 &&& 31))), (4, .long ((v14_4 * v14_4) - (v14_4 * v14_4) / (a1.toInt64) * (a1.toInt64))), (2, .long v14_2), (1, .int a1)]) hx hb dX1_powerRest_49 hl (by decide) rfl (fun ls hl => ?_)
          refine lv_goto (tgt := 14) hx hb dX1_powerRest_51 (by decide) ?_
          exact ih14 (v14_6 >>> (1 &&& 31)) ((v14_4 * v14_4) - (v14_4 * v14_4) / (a1.toInt64) * (a1.toInt64)) v14_2 _ (lv_sub hl [0, 1, 2, 3] rfl) hf
        · rw [if_pos c4] at hf
          refine lv_lload_n hx hb dX1_powerRest_27 rfl (lv_at hl 2 rfl) ?_
          refine lv_lload hx hb dX1_powerRest_28 (lv_at hl 1 rfl) ?_
          refine lv_lmul hx hb dX1_powerRest_30 ?_
          refine lv_iload_n hx hb dX1_powerRest_31 rfl (lv_at hl 3 rfl) ?_
          refine lv_i2l (v := (a1.toInt64)) hx hb dX1_powerRest_32 rfl ?_
          obtain ⟨g6, hf⟩ := og_e hf
          refine lv_lrem hx hb dX1_powerRest_33 g6 ?_
          refine lv_lstore_n (lv' := [(2, .long ((v14_2 * v14_4) - (v14_2 * v14_4) / (a1.toInt64) * (a1.toInt64))), (6, .int v14_6), (4, .long v14_4), (1, .int a1)]) hx hb dX1_powerRest_34 rfl hl (by decide) rfl (fun ls hl => ?_)
          refine lv_lload hx hb dX1_powerRest_35 (lv_at hl 2 rfl) ?_
          refine lv_lload hx hb dX1_powerRest_37 (lv_at hl 2 rfl) ?_
          refine lv_lmul hx hb dX1_powerRest_39 ?_
          refine lv_iload_n hx hb dX1_powerRest_40 rfl (lv_at hl 3 rfl) ?_
          refine lv_i2l (v := (a1.toInt64)) hx hb dX1_powerRest_41 rfl ?_
          obtain ⟨g7, hf⟩ := og_e hf
          refine lv_lrem hx hb dX1_powerRest_42 g7 ?_
          refine lv_lstore (lv' := [(4, .long ((v14_4 * v14_4) - (v14_4 * v14_4) / (a1.toInt64) * (a1.toInt64))), (2, .long ((v14_2 * v14_4) - (v14_2 * v14_4) / (a1.toInt64) * (a1.toInt64))), (6, .int v14_6), (1, .int a1)]) hx hb dX1_powerRest_43 hl (by decide) rfl (fun ls hl => ?_)
          refine lv_iload hx hb dX1_powerRest_45 (lv_at hl 2 rfl) ?_
          refine lv_iconst (v := 1) hx hb dX1_powerRest_47 (by decide) ?_
          refine lv_ishr hx hb dX1_powerRest_48 ?_
          refine lv_istore (lv' := [(6, .int (v14_6 >>> (1 &&& 31))), (4, .long ((v14_4 * v14_4) - (v14_4 * v14_4) / (a1.toInt64) * (a1.toInt64))), (2, .long ((v14_2 * v14_4) - (v14_2 * v14_4) / (a1.toInt64) * (a1.toInt64))), (1, .int a1)]) hx hb dX1_powerRest_49 hl (by decide) rfl (fun ls hl => ?_)
          refine lv_goto (tgt := 14) hx hb dX1_powerRest_51 (by decide) ?_
          exact ih14 (v14_6 >>> (1 &&& 31)) ((v14_4 * v14_4) - (v14_4 * v14_4) / (a1.toInt64) * (a1.toInt64)) ((v14_2 * v14_4) - (v14_2 * v14_4) / (a1.toInt64) * (a1.toInt64)) _ (lv_sub hl [0, 1, 2, 3] rfl) hf
  exact loop14 100 a0 (((2 - 2 / a1 * a1) : Int32).toInt64) (((1 - 1 / a1 * a1) : Int32).toInt64) _ (lv_sub hl [0, 1, 2, 4] rfl) hf

def f_X1_sizeRest (a0 : Int64) (a1 : Int32) : Option (Int32) := (if (a1.toInt64) = 0 then none else ((f_X1_powerRest (f_X0_shift a0) a1).bind fun r2 => (if (a1.toInt64) = 0 then none else some (((((f_X0_whole a0) - (f_X0_whole a0) / (a1.toInt64) * (a1.toInt64)) * r2) - (((f_X0_whole a0) - (f_X0_whole a0) / (a1.toInt64) * (a1.toInt64)) * r2) / (a1.toInt64) * (a1.toInt64)).toInt32))))
abbrev rmX1_sizeRest : Room := { frames := 2, cells := 0, slots := 0, locals := 44 }
set_option maxHeartbeats 4000000 in
set_option maxRecDepth 100000 in
theorem m_X1_sizeRest (l : Launch) (a0 : Int64) (a1 : Int32) (res : Int32) (hf : f_X1_sizeRest a0 a1 = some res) : Met l yX1_sizeRest wsX1_sizeRest rmX1_sizeRest (my_PcP [.long a0, .int a1]) (vp_Si (fun z => z = res)) 0 0 (fun _ => False) := by
  refine Met.ofW (cc := cX1_sizeRest) (maxL := 5) (ret := (some .int)) (by decide) rfl ?_
  intro p e s m args below meth c s₁ B hml hv
  obtain ⟨rfl, -⟩ := hv
  have hx := B.exec
  have hb := B.bytes
  have hr := B.returns
  have hts : ∀ w ∈ wsX1_sizeRest, w.before ([.long a0, .int a1] : List Value).toArray s = true := atoms_spec (ws := wsX1_sizeRest) B.pre
  have hown : s.vm.findClass RX1 = some m.cls := findClass_of_methodNamed B.named
  have hlk : meth.locks = false := B.notSynchronized
  have hl := lv_entry ([.long a0, .int a1]) (n := 5) (Nat.le_of_ble_eq_true rfl)
  rw [lg_entry_eq]
  generalize (lg_sl ([.long a0, .int a1]) ++ List.replicate (5 - (lg_sl ([.long a0, .int a1])).length) Slot.unset).toArray = ls at hl ⊢
  have hl : lv_has ls 5 [(0, .long a0), (2, .int a1)] := hl
  unfold f_X1_sizeRest at hf
  refine lv_lload_n hx hb dX1_sizeRest_0 rfl (lv_at hl 0 rfl) ?_
  refine my_callPl (As := [.long a0]) (rest := []) ⟨hx, hb, hml, hown, hts⟩ (m_X0_whole l a0 _ rfl) gX1_sizeRest_X0_whole rfl ⟨rfl, rfl⟩ (by decide +kernel) ⟨Nat.le_of_ble_eq_true rfl, Nat.le_of_ble_eq_true rfl⟩ ⟨Nat.le_of_ble_eq_true rfl, Nat.le_of_ble_eq_true rfl⟩ hl.1 rfl rfl (Nat.le_of_ble_eq_true rfl) dX1_sizeRest_1 ?_
  refine lv_iload_n hx hb dX1_sizeRest_4 rfl (lv_at hl 1 rfl) ?_
  refine lv_i2l (v := (a1.toInt64)) hx hb dX1_sizeRest_5 rfl ?_
  obtain ⟨g1, hf⟩ := og_e hf
  refine lv_lrem hx hb dX1_sizeRest_6 g1 ?_
  refine lv_lload_n hx hb dX1_sizeRest_7 rfl (lv_at hl 0 rfl) ?_
  refine my_callPi (As := [.long a0]) (rest := [.long ((f_X0_whole a0) - (f_X0_whole a0) / (a1.toInt64) * (a1.toInt64))]) ⟨hx, hb, hml, hown, hts⟩ (m_X0_shift l a0 _ rfl) gX1_sizeRest_X0_shift rfl ⟨rfl, rfl⟩ (by decide +kernel) ⟨Nat.le_of_ble_eq_true rfl, Nat.le_of_ble_eq_true rfl⟩ ⟨Nat.le_of_ble_eq_true rfl, Nat.le_of_ble_eq_true rfl⟩ hl.1 rfl rfl (Nat.le_of_ble_eq_true rfl) dX1_sizeRest_8 ?_
  refine lv_iload_n hx hb dX1_sizeRest_11 rfl (lv_at hl 1 rfl) ?_
  obtain ⟨r2, er2, hf⟩ := ob_e hf
  refine my_callPl (As := [.int (f_X0_shift a0), .int a1]) (rest := [.long ((f_X0_whole a0) - (f_X0_whole a0) / (a1.toInt64) * (a1.toInt64))]) ⟨hx, hb, hml, hown, hts⟩ (m_X1_powerRest l (f_X0_shift a0) a1 _ er2) gX1_sizeRest_X1_powerRest rfl ⟨rfl, rfl⟩ (by decide +kernel) ⟨Nat.le_of_ble_eq_true rfl, Nat.le_of_ble_eq_true rfl⟩ ⟨Nat.le_of_ble_eq_true rfl, Nat.le_of_ble_eq_true rfl⟩ hl.1 rfl rfl (Nat.le_of_ble_eq_true rfl) dX1_sizeRest_12 ?_
  refine lv_lmul hx hb dX1_sizeRest_15 ?_
  refine lv_lstore_n (lv' := [(3, .long (((f_X0_whole a0) - (f_X0_whole a0) / (a1.toInt64) * (a1.toInt64)) * r2)), (0, .long a0), (2, .int a1)]) hx hb dX1_sizeRest_16 rfl hl (by decide) rfl (fun ls hl => ?_)
  refine lv_lload_n hx hb dX1_sizeRest_17 rfl (lv_at hl 0 rfl) ?_
  refine lv_iload_n hx hb dX1_sizeRest_18 rfl (lv_at hl 2 rfl) ?_
  refine lv_i2l (v := (a1.toInt64)) hx hb dX1_sizeRest_19 rfl ?_
  obtain ⟨g3, hf⟩ := og_e hf
  refine lv_lrem hx hb dX1_sizeRest_20 g3 ?_
  refine lv_l2i (v := (((((f_X0_whole a0) - (f_X0_whole a0) / (a1.toInt64) * (a1.toInt64)) * r2) - (((f_X0_whole a0) - (f_X0_whole a0) / (a1.toInt64) * (a1.toInt64)) * r2) / (a1.toInt64) * (a1.toInt64)).toInt32)) hx hb dX1_sizeRest_21 rfl ?_
  exact W.iret (v := (((((f_X0_whole a0) - (f_X0_whole a0) / (a1.toInt64) * (a1.toInt64)) * r2) - (((f_X0_whole a0) - (f_X0_whole a0) / (a1.toInt64) * (a1.toInt64)) * r2) / (a1.toInt64) * (a1.toInt64)).toInt32)) hx hb hr (fun t ht hW => ⟨_, rfl, Option.some.inj hf, ht⟩) (fun q hq => absurd hq List.not_mem_nil) dX1_sizeRest_22

def f_X1_signedRest (a0 : Int64) (a1 : Int32) : Option (Int32) := ((f_X1_sizeRest a0 a1).bind fun r1 => (if a0 < 0 then some (-r1) else some r1))
abbrev rmX1_signedRest : Room := { frames := 3, cells := 0, slots := 0, locals := 68 }
set_option maxHeartbeats 4000000 in
set_option maxRecDepth 100000 in
theorem m_X1_signedRest (l : Launch) (a0 : Int64) (a1 : Int32) (res : Int32) (hf : f_X1_signedRest a0 a1 = some res) : Met l yX1_signedRest wsX1_signedRest rmX1_signedRest (my_PcP [.long a0, .int a1]) (vp_Si (fun z => z = res)) 0 0 (fun _ => False) := by
  refine Met.ofW (cc := cX1_signedRest) (maxL := 4) (ret := (some .int)) (by decide) rfl ?_
  intro p e s m args below meth c s₁ B hml hv
  obtain ⟨rfl, -⟩ := hv
  have hx := B.exec
  have hb := B.bytes
  have hr := B.returns
  have hts : ∀ w ∈ wsX1_signedRest, w.before ([.long a0, .int a1] : List Value).toArray s = true := atoms_spec (ws := wsX1_signedRest) B.pre
  have hown : s.vm.findClass RX1 = some m.cls := findClass_of_methodNamed B.named
  have hlk : meth.locks = false := B.notSynchronized
  have hl := lv_entry ([.long a0, .int a1]) (n := 4) (Nat.le_of_ble_eq_true rfl)
  rw [lg_entry_eq]
  generalize (lg_sl ([.long a0, .int a1]) ++ List.replicate (4 - (lg_sl ([.long a0, .int a1])).length) Slot.unset).toArray = ls at hl ⊢
  have hl : lv_has ls 4 [(0, .long a0), (2, .int a1)] := hl
  unfold f_X1_signedRest at hf
  refine lv_lload_n hx hb dX1_signedRest_0 rfl (lv_at hl 0 rfl) ?_
  refine lv_iload_n hx hb dX1_signedRest_1 rfl (lv_at hl 1 rfl) ?_
  obtain ⟨r1, er1, hf⟩ := ob_e hf
  refine my_callPi (As := [.long a0, .int a1]) (rest := []) ⟨hx, hb, hml, hown, hts⟩ (m_X1_sizeRest l a0 a1 _ er1) gX1_signedRest_X1_sizeRest rfl ⟨rfl, rfl⟩ (by decide +kernel) ⟨Nat.le_of_ble_eq_true rfl, Nat.le_of_ble_eq_true rfl⟩ ⟨Nat.le_of_ble_eq_true rfl, Nat.le_of_ble_eq_true rfl⟩ hl.1 rfl rfl (Nat.le_of_ble_eq_true rfl) dX1_signedRest_2 ?_
  refine lv_istore_n (lv' := [(3, .int r1), (0, .long a0), (2, .int a1)]) hx hb dX1_signedRest_5 rfl hl (by decide) rfl (fun ls hl => ?_)
  refine lv_lload_n hx hb dX1_signedRest_6 rfl (lv_at hl 1 rfl) ?_
  refine lv_lconst (v := 0) hx hb dX1_signedRest_7 (by decide) ?_
  refine my_lc_ge (tgt := 17) hx hb dX1_signedRest_8 dX1_signedRest_9 (by decide) (fun c2 => ?_) (fun c2 => ?_)
  · rw [if_neg c2] at hf
    refine lv_iload_n hx hb dX1_signedRest_17 rfl (lv_at hl 0 rfl) ?_
    exact W.iret (v := r1) hx hb hr (fun t ht hW => ⟨_, rfl, Option.some.inj hf, ht⟩) (fun q hq => absurd hq List.not_mem_nil) dX1_signedRest_18
  · rw [if_pos c2] at hf
    refine lv_iload_n hx hb dX1_signedRest_12 rfl (lv_at hl 0 rfl) ?_
    refine lv_ineg hx hb dX1_signedRest_13 ?_
    refine lv_goto (tgt := 18) hx hb dX1_signedRest_14 (by decide) ?_
    exact W.iret (v := (-r1)) hx hb hr (fun t ht hW => ⟨_, rfl, Option.some.inj hf, ht⟩) (fun q hq => absurd hq List.not_mem_nil) dX1_signedRest_18

def f_J9_floorMod_7cf53 (a0 : Int32) (a1 : Int32) : Option (Int32) := (if a1 = 0 then none else (if (a0 ^^^ a1) < 0 then (if (a0 - a0 / a1 * a1) = 0 then some (a0 - a0 / a1 * a1) else some ((a0 - a0 / a1 * a1) + a1)) else some (a0 - a0 / a1 * a1)))
abbrev rmJ9_floorMod_7cf53 : Room := { frames := 0, cells := 0, slots := 0, locals := 0 }
set_option maxHeartbeats 4000000 in
set_option maxRecDepth 100000 in
theorem m_J9_floorMod_7cf53 (l : Launch) (a0 : Int32) (a1 : Int32) (res : Int32) (hf : f_J9_floorMod_7cf53 a0 a1 = some res) : Met l yJ9_floorMod_7cf53 wsJ9_floorMod_7cf53 rmJ9_floorMod_7cf53 (my_PcP [.int a0, .int a1]) (vp_Si (fun z => z = res)) 0 0 (fun _ => False) := by
  refine Met.ofW (cc := cJ9_floorMod_7cf53) (maxL := 3) (ret := (some .int)) (by decide) rfl ?_
  intro p e s m args below meth c s₁ B hml hv
  obtain ⟨rfl, -⟩ := hv
  have hx := B.exec
  have hb := B.bytes
  have hr := B.returns
  have hts : ∀ w ∈ wsJ9_floorMod_7cf53, w.before ([.int a0, .int a1] : List Value).toArray s = true := atoms_spec (ws := wsJ9_floorMod_7cf53) B.pre
  have hown : s.vm.findClass RJ9 = some m.cls := findClass_of_methodNamed B.named
  have hlk : meth.locks = false := B.notSynchronized
  have hl := lv_entry ([.int a0, .int a1]) (n := 3) (Nat.le_of_ble_eq_true rfl)
  rw [lg_entry_eq]
  generalize (lg_sl ([.int a0, .int a1]) ++ List.replicate (3 - (lg_sl ([.int a0, .int a1])).length) Slot.unset).toArray = ls at hl ⊢
  have hl : lv_has ls 3 [(0, .int a0), (1, .int a1)] := hl
  unfold f_J9_floorMod_7cf53 at hf
  refine lv_iload_n hx hb dJ9_floorMod_7cf53_0 rfl (lv_at hl 0 rfl) ?_
  refine lv_iload_n hx hb dJ9_floorMod_7cf53_1 rfl (lv_at hl 1 rfl) ?_
  obtain ⟨g1, hf⟩ := og_e hf
  refine lv_irem hx hb dJ9_floorMod_7cf53_2 g1 ?_
  refine lv_istore_n (lv' := [(2, .int (a0 - a0 / a1 * a1)), (0, .int a0), (1, .int a1)]) hx hb dJ9_floorMod_7cf53_3 rfl hl (by decide) rfl (fun ls hl => ?_)
  refine lv_iload_n hx hb dJ9_floorMod_7cf53_4 rfl (lv_at hl 1 rfl) ?_
  refine lv_iload_n hx hb dJ9_floorMod_7cf53_5 rfl (lv_at hl 2 rfl) ?_
  refine lv_ixor hx hb dJ9_floorMod_7cf53_6 ?_
  refine my_if_ge (tgt := 18) hx hb dJ9_floorMod_7cf53_7 (by decide) (fun c2 => ?_) (fun c2 => ?_)
  · rw [if_neg c2] at hf
    refine lv_iload_n hx hb dJ9_floorMod_7cf53_18 rfl (lv_at hl 0 rfl) ?_
    exact W.iret (v := (a0 - a0 / a1 * a1)) hx hb hr (fun t ht hW => ⟨_, rfl, Option.some.inj hf, ht⟩) (fun q hq => absurd hq List.not_mem_nil) dJ9_floorMod_7cf53_19
  · rw [if_pos c2] at hf
    refine lv_iload_n hx hb dJ9_floorMod_7cf53_10 rfl (lv_at hl 0 rfl) ?_
    refine my_if_eq (tgt := 18) hx hb dJ9_floorMod_7cf53_11 (by decide) (fun c3 => ?_) (fun c3 => ?_)
    · rw [if_pos c3] at hf
      refine lv_iload_n hx hb dJ9_floorMod_7cf53_18 rfl (lv_at hl 0 rfl) ?_
      exact W.iret (v := (a0 - a0 / a1 * a1)) hx hb hr (fun t ht hW => ⟨_, rfl, Option.some.inj hf, ht⟩) (fun q hq => absurd hq List.not_mem_nil) dJ9_floorMod_7cf53_19
    · rw [if_neg c3] at hf
      refine lv_iload_n hx hb dJ9_floorMod_7cf53_14 rfl (lv_at hl 0 rfl) ?_
      refine lv_iload_n hx hb dJ9_floorMod_7cf53_15 rfl (lv_at hl 2 rfl) ?_
      refine lv_iadd hx hb dJ9_floorMod_7cf53_16 ?_
      exact W.iret (v := ((a0 - a0 / a1 * a1) + a1)) hx hb hr (fun t ht hW => ⟨_, rfl, Option.some.inj hf, ht⟩) (fun q hq => absurd hq List.not_mem_nil) dJ9_floorMod_7cf53_17

def f_X1_gapRest (a0 : Int64) (a1 : Int64) (a2 : Int32) : Option (Int32) := ((f_X1_signedRest a0 a2).bind fun r1 => ((f_X1_signedRest a1 a2).bind fun r2 => (if (f_X0_order a0 a1) < 0 then ((f_J9_floorMod_7cf53 (-(r1 - r2)) a2).bind fun r5 => some r5) else ((f_J9_floorMod_7cf53 (r1 - r2) a2).bind fun r4 => some r4))))
abbrev rmX1_gapRest : Room := { frames := 4, cells := 0, slots := 0, locals := 91 }
set_option maxHeartbeats 4000000 in
set_option maxRecDepth 100000 in
theorem m_X1_gapRest (l : Launch) (a0 : Int64) (a1 : Int64) (a2 : Int32) (res : Int32) (hf : f_X1_gapRest a0 a1 a2 = some res) : Met l yX1_gapRest wsX1_gapRest rmX1_gapRest (my_PcP [.long a0, .long a1, .int a2]) (vp_Si (fun z => z = res)) 0 0 (fun _ => False) := by
  refine Met.ofW (cc := cX1_gapRest) (maxL := 6) (ret := (some .int)) (by decide) rfl ?_
  intro p e s m args below meth c s₁ B hml hv
  obtain ⟨rfl, -⟩ := hv
  have hx := B.exec
  have hb := B.bytes
  have hr := B.returns
  have hts : ∀ w ∈ wsX1_gapRest, w.before ([.long a0, .long a1, .int a2] : List Value).toArray s = true := atoms_spec (ws := wsX1_gapRest) B.pre
  have hown : s.vm.findClass RX1 = some m.cls := findClass_of_methodNamed B.named
  have hlk : meth.locks = false := B.notSynchronized
  have hl := lv_entry ([.long a0, .long a1, .int a2]) (n := 6) (Nat.le_of_ble_eq_true rfl)
  rw [lg_entry_eq]
  generalize (lg_sl ([.long a0, .long a1, .int a2]) ++ List.replicate (6 - (lg_sl ([.long a0, .long a1, .int a2])).length) Slot.unset).toArray = ls at hl ⊢
  have hl : lv_has ls 6 [(0, .long a0), (2, .long a1), (4, .int a2)] := hl
  unfold f_X1_gapRest at hf
  refine lv_lload_n hx hb dX1_gapRest_0 rfl (lv_at hl 0 rfl) ?_
  refine lv_iload hx hb dX1_gapRest_1 (lv_at hl 2 rfl) ?_
  obtain ⟨r1, er1, hf⟩ := ob_e hf
  refine my_callPi (As := [.long a0, .int a2]) (rest := []) ⟨hx, hb, hml, hown, hts⟩ (m_X1_signedRest l a0 a2 _ er1) gX1_gapRest_X1_signedRest rfl ⟨rfl, rfl⟩ (by decide +kernel) ⟨Nat.le_of_ble_eq_true rfl, Nat.le_of_ble_eq_true rfl⟩ ⟨Nat.le_of_ble_eq_true rfl, Nat.le_of_ble_eq_true rfl⟩ hl.1 rfl rfl (Nat.le_of_ble_eq_true rfl) dX1_gapRest_3 ?_
  refine lv_lload_n hx hb dX1_gapRest_6 rfl (lv_at hl 1 rfl) ?_
  refine lv_iload hx hb dX1_gapRest_7 (lv_at hl 2 rfl) ?_
  obtain ⟨r2, er2, hf⟩ := ob_e hf
  refine my_callPi (As := [.long a1, .int a2]) (rest := [.int r1]) ⟨hx, hb, hml, hown, hts⟩ (m_X1_signedRest l a1 a2 _ er2) gX1_gapRest_X1_signedRest rfl ⟨rfl, rfl⟩ (by decide +kernel) ⟨Nat.le_of_ble_eq_true rfl, Nat.le_of_ble_eq_true rfl⟩ ⟨Nat.le_of_ble_eq_true rfl, Nat.le_of_ble_eq_true rfl⟩ hl.1 rfl rfl (Nat.le_of_ble_eq_true rfl) dX1_gapRest_9 ?_
  refine lv_isub hx hb dX1_gapRest_12 ?_
  refine lv_istore (lv' := [(5, .int (r1 - r2)), (0, .long a0), (2, .long a1), (4, .int a2)]) hx hb dX1_gapRest_13 hl (by decide) rfl (fun ls hl => ?_)
  refine lv_lload_n hx hb dX1_gapRest_15 rfl (lv_at hl 1 rfl) ?_
  refine lv_lload_n hx hb dX1_gapRest_16 rfl (lv_at hl 2 rfl) ?_
  refine my_callPi (As := [.long a0, .long a1]) (rest := []) ⟨hx, hb, hml, hown, hts⟩ (m_X0_order l a0 a1 _ rfl) gX1_gapRest_X0_order rfl ⟨rfl, rfl⟩ (by decide +kernel) ⟨Nat.le_of_ble_eq_true rfl, Nat.le_of_ble_eq_true rfl⟩ ⟨Nat.le_of_ble_eq_true rfl, Nat.le_of_ble_eq_true rfl⟩ hl.1 rfl rfl (Nat.le_of_ble_eq_true rfl) dX1_gapRest_17 ?_
  refine my_if_ge (tgt := 29) hx hb dX1_gapRest_20 (by decide) (fun c3 => ?_) (fun c3 => ?_)
  · rw [if_neg c3] at hf
    refine lv_iload hx hb dX1_gapRest_29 (lv_at hl 0 rfl) ?_
    refine lv_iload hx hb dX1_gapRest_31 (lv_at hl 3 rfl) ?_
    obtain ⟨r4, er4, hf⟩ := ob_e hf
    refine my_callPi (As := [.int (r1 - r2), .int a2]) (rest := []) ⟨hx, hb, hml, hown, hts⟩ (m_J9_floorMod_7cf53 l (r1 - r2) a2 _ er4) gX1_gapRest_J9_floorMod_7cf53 rfl ⟨rfl, rfl⟩ (by decide +kernel) ⟨Nat.le_of_ble_eq_true rfl, Nat.le_of_ble_eq_true rfl⟩ ⟨Nat.le_of_ble_eq_true rfl, Nat.le_of_ble_eq_true rfl⟩ hl.1 rfl rfl (Nat.le_of_ble_eq_true rfl) dX1_gapRest_33 ?_
    exact W.iret (v := r4) hx hb hr (fun t ht hW => ⟨_, rfl, Option.some.inj hf, ht⟩) (fun q hq => absurd hq List.not_mem_nil) dX1_gapRest_36
  · rw [if_pos c3] at hf
    refine lv_iload hx hb dX1_gapRest_23 (lv_at hl 0 rfl) ?_
    refine lv_ineg hx hb dX1_gapRest_25 ?_
    refine lv_goto (tgt := 31) hx hb dX1_gapRest_26 (by decide) ?_
    refine lv_iload hx hb dX1_gapRest_31 (lv_at hl 3 rfl) ?_
    obtain ⟨r5, er5, hf⟩ := ob_e hf
    refine my_callPi (As := [.int (-(r1 - r2)), .int a2]) (rest := []) ⟨hx, hb, hml, hown, hts⟩ (m_J9_floorMod_7cf53 l (-(r1 - r2)) a2 _ er5) gX1_gapRest_J9_floorMod_7cf53 rfl ⟨rfl, rfl⟩ (by decide +kernel) ⟨Nat.le_of_ble_eq_true rfl, Nat.le_of_ble_eq_true rfl⟩ ⟨Nat.le_of_ble_eq_true rfl, Nat.le_of_ble_eq_true rfl⟩ hl.1 rfl rfl (Nat.le_of_ble_eq_true rfl) dX1_gapRest_33 ?_
    exact W.iret (v := r5) hx hb hr (fun t ht hW => ⟨_, rfl, Option.some.inj hf, ht⟩) (fun q hq => absurd hq List.not_mem_nil) dX1_gapRest_36

def f_X1_signedPart (a0 : Int64) (a1 : Int32) : Int64 := (if ((32 * a1) - (f_X0_shift a0)) < 0 then (if ((32 * a1) - (f_X0_shift a0)) < 0 then (if (-32) < ((32 * a1) - (f_X0_shift a0)) then (if a0 < 0 then (-((jshl (f_X0_whole a0) (-((32 * a1) - (f_X0_shift a0)))) &&& 4294967295)) else ((jshl (f_X0_whole a0) (-((32 * a1) - (f_X0_shift a0)))) &&& 4294967295)) else (if a0 < 0 then (-0) else 0)) else (if a0 < 0 then (-0) else 0)) else (if ((32 * a1) - (f_X0_shift a0)) < 64 then (if a0 < 0 then (-((jshr (f_X0_whole a0) ((32 * a1) - (f_X0_shift a0))) &&& 4294967295)) else ((jshr (f_X0_whole a0) ((32 * a1) - (f_X0_shift a0))) &&& 4294967295)) else (if ((32 * a1) - (f_X0_shift a0)) < 0 then (if (-32) < ((32 * a1) - (f_X0_shift a0)) then (if a0 < 0 then (-((jshl (f_X0_whole a0) (-((32 * a1) - (f_X0_shift a0)))) &&& 4294967295)) else ((jshl (f_X0_whole a0) (-((32 * a1) - (f_X0_shift a0)))) &&& 4294967295)) else (if a0 < 0 then (-0) else 0)) else (if a0 < 0 then (-0) else 0))))
abbrev rmX1_signedPart : Room := { frames := 2, cells := 0, slots := 0, locals := 44 }
set_option maxHeartbeats 4000000 in
set_option maxRecDepth 100000 in
theorem m_X1_signedPart (l : Launch) (a0 : Int64) (a1 : Int32) (res : Int64) (hf : f_X1_signedPart a0 a1 = res) : Met l yX1_signedPart wsX1_signedPart rmX1_signedPart (my_PcP [.long a0, .int a1]) (vp_Sl (fun z => z = res)) 0 0 (fun _ => False) := by
  refine Met.ofW (cc := cX1_signedPart) (maxL := 6) (ret := (some .long)) (by decide) rfl ?_
  intro p e s m args below meth c s₁ B hml hv
  obtain ⟨rfl, -⟩ := hv
  have hx := B.exec
  have hb := B.bytes
  have hr := B.returns
  have hts : ∀ w ∈ wsX1_signedPart, w.before ([.long a0, .int a1] : List Value).toArray s = true := atoms_spec (ws := wsX1_signedPart) B.pre
  have hown : s.vm.findClass RX1 = some m.cls := findClass_of_methodNamed B.named
  have hlk : meth.locks = false := B.notSynchronized
  have q1 := hts (.constantLong RX1 51 (4294967295)) (by decide +kernel)
  have hl := lv_entry ([.long a0, .int a1]) (n := 6) (Nat.le_of_ble_eq_true rfl)
  rw [lg_entry_eq]
  generalize (lg_sl ([.long a0, .int a1]) ++ List.replicate (6 - (lg_sl ([.long a0, .int a1])).length) Slot.unset).toArray = ls at hl ⊢
  have hl : lv_has ls 6 [(0, .long a0), (2, .int a1)] := hl
  unfold f_X1_signedPart at hf
  refine lv_bipush (v := 32) hx hb dX1_signedPart_0 (by decide) ?_
  refine lv_iload_n hx hb dX1_signedPart_2 rfl (lv_at hl 1 rfl) ?_
  refine lv_imul hx hb dX1_signedPart_3 ?_
  refine lv_lload_n hx hb dX1_signedPart_4 rfl (lv_at hl 0 rfl) ?_
  refine my_callPi (As := [.long a0]) (rest := [.int (32 * a1)]) ⟨hx, hb, hml, hown, hts⟩ (m_X0_shift l a0 _ rfl) gX1_signedPart_X0_shift rfl ⟨rfl, rfl⟩ (by decide +kernel) ⟨Nat.le_of_ble_eq_true rfl, Nat.le_of_ble_eq_true rfl⟩ ⟨Nat.le_of_ble_eq_true rfl, Nat.le_of_ble_eq_true rfl⟩ hl.1 rfl rfl (Nat.le_of_ble_eq_true rfl) dX1_signedPart_5 ?_
  refine lv_isub hx hb dX1_signedPart_8 ?_
  refine lv_istore_n (lv' := [(3, .int ((32 * a1) - (f_X0_shift a0))), (0, .long a0), (2, .int a1)]) hx hb dX1_signedPart_9 rfl hl (by decide) rfl (fun ls hl => ?_)
  refine lv_lconst (v := 0) hx hb dX1_signedPart_10 (by decide) ?_
  refine lv_lstore (lv' := [(4, .long 0), (3, .int ((32 * a1) - (f_X0_shift a0))), (0, .long a0), (2, .int a1)]) hx hb dX1_signedPart_11 hl (by decide) rfl (fun ls hl => ?_)
  refine lv_iload_n hx hb dX1_signedPart_13 rfl (lv_at hl 1 rfl) ?_
  refine my_if_lt (tgt := 38) hx hb dX1_signedPart_14 (by decide) (fun c1 => ?_) (fun c1 => ?_)
  · rw [if_pos c1] at hf
    refine lv_iload_n hx hb dX1_signedPart_38 rfl (lv_at hl 1 rfl) ?_
    refine my_if_ge (tgt := 61) hx hb dX1_signedPart_39 (by decide) (fun c2 => ?_) (fun c2 => ?_)
    · rw [if_neg c2] at hf
      refine lv_lload_n hx hb dX1_signedPart_61 rfl (lv_at hl 2 rfl) ?_
      refine lv_lconst (v := 0) hx hb dX1_signedPart_62 (by decide) ?_
      refine my_lc_ge (tgt := 73) hx hb dX1_signedPart_63 dX1_signedPart_64 (by decide) (fun c3 => ?_) (fun c3 => ?_)
      · rw [if_neg c3] at hf
        refine lv_lload hx hb dX1_signedPart_73 (lv_at hl 0 rfl) ?_
        exact W.lret (v := 0) hx hb hr (fun t ht hW => ⟨_, rfl, hf, ht⟩) (fun q hq => absurd hq List.not_mem_nil) dX1_signedPart_75
      · rw [if_pos c3] at hf
        refine lv_lload hx hb dX1_signedPart_67 (lv_at hl 0 rfl) ?_
        refine lv_lneg hx hb dX1_signedPart_69 ?_
        refine lv_goto (tgt := 75) hx hb dX1_signedPart_70 (by decide) ?_
        exact W.lret (v := (-0)) hx hb hr (fun t ht hW => ⟨_, rfl, hf, ht⟩) (fun q hq => absurd hq List.not_mem_nil) dX1_signedPart_75
    · rw [if_pos c2] at hf
      refine lv_iload_n hx hb dX1_signedPart_42 rfl (lv_at hl 1 rfl) ?_
      refine lv_bipush (v := (-32)) hx hb dX1_signedPart_43 (by decide) ?_
      refine my_ic_le (tgt := 61) hx hb dX1_signedPart_45 (by decide) (fun c4 => ?_) (fun c4 => ?_)
      · rw [if_neg c4] at hf
        refine lv_lload_n hx hb dX1_signedPart_61 rfl (lv_at hl 2 rfl) ?_
        refine lv_lconst (v := 0) hx hb dX1_signedPart_62 (by decide) ?_
        refine my_lc_ge (tgt := 73) hx hb dX1_signedPart_63 dX1_signedPart_64 (by decide) (fun c5 => ?_) (fun c5 => ?_)
        · rw [if_neg c5] at hf
          refine lv_lload hx hb dX1_signedPart_73 (lv_at hl 0 rfl) ?_
          exact W.lret (v := 0) hx hb hr (fun t ht hW => ⟨_, rfl, hf, ht⟩) (fun q hq => absurd hq List.not_mem_nil) dX1_signedPart_75
        · rw [if_pos c5] at hf
          refine lv_lload hx hb dX1_signedPart_67 (lv_at hl 0 rfl) ?_
          refine lv_lneg hx hb dX1_signedPart_69 ?_
          refine lv_goto (tgt := 75) hx hb dX1_signedPart_70 (by decide) ?_
          exact W.lret (v := (-0)) hx hb hr (fun t ht hW => ⟨_, rfl, hf, ht⟩) (fun q hq => absurd hq List.not_mem_nil) dX1_signedPart_75
      · rw [if_pos c4] at hf
        refine lv_lload_n hx hb dX1_signedPart_48 rfl (lv_at hl 2 rfl) ?_
        refine my_callPl (As := [.long a0]) (rest := []) ⟨hx, hb, hml, hown, hts⟩ (m_X0_whole l a0 _ rfl) gX1_signedPart_X0_whole rfl ⟨rfl, rfl⟩ (by decide +kernel) ⟨Nat.le_of_ble_eq_true rfl, Nat.le_of_ble_eq_true rfl⟩ ⟨Nat.le_of_ble_eq_true rfl, Nat.le_of_ble_eq_true rfl⟩ hl.1 rfl rfl (Nat.le_of_ble_eq_true rfl) dX1_signedPart_49 ?_
        refine lv_iload_n hx hb dX1_signedPart_52 rfl (lv_at hl 1 rfl) ?_
        refine lv_ineg hx hb dX1_signedPart_53 ?_
        refine lv_lshl (v := (jshl (f_X0_whole a0) (-((32 * a1) - (f_X0_shift a0))))) hx hb dX1_signedPart_54 rfl ?_
        refine lv_ldc2 (v := 4294967295) hx hb hown q1 dX1_signedPart_55 ?_
        refine lv_land hx hb dX1_signedPart_58 ?_
        refine lv_lstore (lv' := [(4, .long ((jshl (f_X0_whole a0) (-((32 * a1) - (f_X0_shift a0)))) &&& 4294967295)), (3, .int ((32 * a1) - (f_X0_shift a0))), (0, .long a0), (2, .int a1)]) hx hb dX1_signedPart_59 hl (by decide) rfl (fun ls hl => ?_)
        refine lv_lload_n hx hb dX1_signedPart_61 rfl (lv_at hl 2 rfl) ?_
        refine lv_lconst (v := 0) hx hb dX1_signedPart_62 (by decide) ?_
        refine my_lc_ge (tgt := 73) hx hb dX1_signedPart_63 dX1_signedPart_64 (by decide) (fun c6 => ?_) (fun c6 => ?_)
        · rw [if_neg c6] at hf
          refine lv_lload hx hb dX1_signedPart_73 (lv_at hl 0 rfl) ?_
          exact W.lret (v := ((jshl (f_X0_whole a0) (-((32 * a1) - (f_X0_shift a0)))) &&& 4294967295)) hx hb hr (fun t ht hW => ⟨_, rfl, hf, ht⟩) (fun q hq => absurd hq List.not_mem_nil) dX1_signedPart_75
        · rw [if_pos c6] at hf
          refine lv_lload hx hb dX1_signedPart_67 (lv_at hl 0 rfl) ?_
          refine lv_lneg hx hb dX1_signedPart_69 ?_
          refine lv_goto (tgt := 75) hx hb dX1_signedPart_70 (by decide) ?_
          exact W.lret (v := (-((jshl (f_X0_whole a0) (-((32 * a1) - (f_X0_shift a0)))) &&& 4294967295))) hx hb hr (fun t ht hW => ⟨_, rfl, hf, ht⟩) (fun q hq => absurd hq List.not_mem_nil) dX1_signedPart_75
  · rw [if_neg c1] at hf
    refine lv_iload_n hx hb dX1_signedPart_17 rfl (lv_at hl 1 rfl) ?_
    refine lv_bipush (v := 64) hx hb dX1_signedPart_18 (by decide) ?_
    refine my_ic_ge (tgt := 38) hx hb dX1_signedPart_20 (by decide) (fun c7 => ?_) (fun c7 => ?_)
    · rw [if_neg c7] at hf
      refine lv_iload_n hx hb dX1_signedPart_38 rfl (lv_at hl 1 rfl) ?_
      refine my_if_ge (tgt := 61) hx hb dX1_signedPart_39 (by decide) (fun c8 => ?_) (fun c8 => ?_)
      · rw [if_neg c8] at hf
        refine lv_lload_n hx hb dX1_signedPart_61 rfl (lv_at hl 2 rfl) ?_
        refine lv_lconst (v := 0) hx hb dX1_signedPart_62 (by decide) ?_
        refine my_lc_ge (tgt := 73) hx hb dX1_signedPart_63 dX1_signedPart_64 (by decide) (fun c9 => ?_) (fun c9 => ?_)
        · rw [if_neg c9] at hf
          refine lv_lload hx hb dX1_signedPart_73 (lv_at hl 0 rfl) ?_
          exact W.lret (v := 0) hx hb hr (fun t ht hW => ⟨_, rfl, hf, ht⟩) (fun q hq => absurd hq List.not_mem_nil) dX1_signedPart_75
        · rw [if_pos c9] at hf
          refine lv_lload hx hb dX1_signedPart_67 (lv_at hl 0 rfl) ?_
          refine lv_lneg hx hb dX1_signedPart_69 ?_
          refine lv_goto (tgt := 75) hx hb dX1_signedPart_70 (by decide) ?_
          exact W.lret (v := (-0)) hx hb hr (fun t ht hW => ⟨_, rfl, hf, ht⟩) (fun q hq => absurd hq List.not_mem_nil) dX1_signedPart_75
      · rw [if_pos c8] at hf
        refine lv_iload_n hx hb dX1_signedPart_42 rfl (lv_at hl 1 rfl) ?_
        refine lv_bipush (v := (-32)) hx hb dX1_signedPart_43 (by decide) ?_
        refine my_ic_le (tgt := 61) hx hb dX1_signedPart_45 (by decide) (fun c10 => ?_) (fun c10 => ?_)
        · rw [if_neg c10] at hf
          refine lv_lload_n hx hb dX1_signedPart_61 rfl (lv_at hl 2 rfl) ?_
          refine lv_lconst (v := 0) hx hb dX1_signedPart_62 (by decide) ?_
          refine my_lc_ge (tgt := 73) hx hb dX1_signedPart_63 dX1_signedPart_64 (by decide) (fun c11 => ?_) (fun c11 => ?_)
          · rw [if_neg c11] at hf
            refine lv_lload hx hb dX1_signedPart_73 (lv_at hl 0 rfl) ?_
            exact W.lret (v := 0) hx hb hr (fun t ht hW => ⟨_, rfl, hf, ht⟩) (fun q hq => absurd hq List.not_mem_nil) dX1_signedPart_75
          · rw [if_pos c11] at hf
            refine lv_lload hx hb dX1_signedPart_67 (lv_at hl 0 rfl) ?_
            refine lv_lneg hx hb dX1_signedPart_69 ?_
            refine lv_goto (tgt := 75) hx hb dX1_signedPart_70 (by decide) ?_
            exact W.lret (v := (-0)) hx hb hr (fun t ht hW => ⟨_, rfl, hf, ht⟩) (fun q hq => absurd hq List.not_mem_nil) dX1_signedPart_75
        · rw [if_pos c10] at hf
          refine lv_lload_n hx hb dX1_signedPart_48 rfl (lv_at hl 2 rfl) ?_
          refine my_callPl (As := [.long a0]) (rest := []) ⟨hx, hb, hml, hown, hts⟩ (m_X0_whole l a0 _ rfl) gX1_signedPart_X0_whole rfl ⟨rfl, rfl⟩ (by decide +kernel) ⟨Nat.le_of_ble_eq_true rfl, Nat.le_of_ble_eq_true rfl⟩ ⟨Nat.le_of_ble_eq_true rfl, Nat.le_of_ble_eq_true rfl⟩ hl.1 rfl rfl (Nat.le_of_ble_eq_true rfl) dX1_signedPart_49 ?_
          refine lv_iload_n hx hb dX1_signedPart_52 rfl (lv_at hl 1 rfl) ?_
          refine lv_ineg hx hb dX1_signedPart_53 ?_
          refine lv_lshl (v := (jshl (f_X0_whole a0) (-((32 * a1) - (f_X0_shift a0))))) hx hb dX1_signedPart_54 rfl ?_
          refine lv_ldc2 (v := 4294967295) hx hb hown q1 dX1_signedPart_55 ?_
          refine lv_land hx hb dX1_signedPart_58 ?_
          refine lv_lstore (lv' := [(4, .long ((jshl (f_X0_whole a0) (-((32 * a1) - (f_X0_shift a0)))) &&& 4294967295)), (3, .int ((32 * a1) - (f_X0_shift a0))), (0, .long a0), (2, .int a1)]) hx hb dX1_signedPart_59 hl (by decide) rfl (fun ls hl => ?_)
          refine lv_lload_n hx hb dX1_signedPart_61 rfl (lv_at hl 2 rfl) ?_
          refine lv_lconst (v := 0) hx hb dX1_signedPart_62 (by decide) ?_
          refine my_lc_ge (tgt := 73) hx hb dX1_signedPart_63 dX1_signedPart_64 (by decide) (fun c12 => ?_) (fun c12 => ?_)
          · rw [if_neg c12] at hf
            refine lv_lload hx hb dX1_signedPart_73 (lv_at hl 0 rfl) ?_
            exact W.lret (v := ((jshl (f_X0_whole a0) (-((32 * a1) - (f_X0_shift a0)))) &&& 4294967295)) hx hb hr (fun t ht hW => ⟨_, rfl, hf, ht⟩) (fun q hq => absurd hq List.not_mem_nil) dX1_signedPart_75
          · rw [if_pos c12] at hf
            refine lv_lload hx hb dX1_signedPart_67 (lv_at hl 0 rfl) ?_
            refine lv_lneg hx hb dX1_signedPart_69 ?_
            refine lv_goto (tgt := 75) hx hb dX1_signedPart_70 (by decide) ?_
            exact W.lret (v := (-((jshl (f_X0_whole a0) (-((32 * a1) - (f_X0_shift a0)))) &&& 4294967295))) hx hb hr (fun t ht hW => ⟨_, rfl, hf, ht⟩) (fun q hq => absurd hq List.not_mem_nil) dX1_signedPart_75
    · rw [if_pos c7] at hf
      refine lv_lload_n hx hb dX1_signedPart_23 rfl (lv_at hl 2 rfl) ?_
      refine my_callPl (As := [.long a0]) (rest := []) ⟨hx, hb, hml, hown, hts⟩ (m_X0_whole l a0 _ rfl) gX1_signedPart_X0_whole rfl ⟨rfl, rfl⟩ (by decide +kernel) ⟨Nat.le_of_ble_eq_true rfl, Nat.le_of_ble_eq_true rfl⟩ ⟨Nat.le_of_ble_eq_true rfl, Nat.le_of_ble_eq_true rfl⟩ hl.1 rfl rfl (Nat.le_of_ble_eq_true rfl) dX1_signedPart_24 ?_
      refine lv_iload_n hx hb dX1_signedPart_27 rfl (lv_at hl 1 rfl) ?_
      refine lv_lshr (v := (jshr (f_X0_whole a0) ((32 * a1) - (f_X0_shift a0)))) hx hb dX1_signedPart_28 rfl ?_
      refine lv_ldc2 (v := 4294967295) hx hb hown q1 dX1_signedPart_29 ?_
      refine lv_land hx hb dX1_signedPart_32 ?_
      refine lv_lstore (lv' := [(4, .long ((jshr (f_X0_whole a0) ((32 * a1) - (f_X0_shift a0))) &&& 4294967295)), (3, .int ((32 * a1) - (f_X0_shift a0))), (0, .long a0), (2, .int a1)]) hx hb dX1_signedPart_33 hl (by decide) rfl (fun ls hl => ?_)
      refine lv_goto (tgt := 61) hx hb dX1_signedPart_35 (by decide) ?_
      refine lv_lload_n hx hb dX1_signedPart_61 rfl (lv_at hl 2 rfl) ?_
      refine lv_lconst (v := 0) hx hb dX1_signedPart_62 (by decide) ?_
      refine my_lc_ge (tgt := 73) hx hb dX1_signedPart_63 dX1_signedPart_64 (by decide) (fun c13 => ?_) (fun c13 => ?_)
      · rw [if_neg c13] at hf
        refine lv_lload hx hb dX1_signedPart_73 (lv_at hl 0 rfl) ?_
        exact W.lret (v := ((jshr (f_X0_whole a0) ((32 * a1) - (f_X0_shift a0))) &&& 4294967295)) hx hb hr (fun t ht hW => ⟨_, rfl, hf, ht⟩) (fun q hq => absurd hq List.not_mem_nil) dX1_signedPart_75
      · rw [if_pos c13] at hf
        refine lv_lload hx hb dX1_signedPart_67 (lv_at hl 0 rfl) ?_
        refine lv_lneg hx hb dX1_signedPart_69 ?_
        refine lv_goto (tgt := 75) hx hb dX1_signedPart_70 (by decide) ?_
        exact W.lret (v := (-((jshr (f_X0_whole a0) ((32 * a1) - (f_X0_shift a0))) &&& 4294967295))) hx hb hr (fun t ht hW => ⟨_, rfl, hf, ht⟩) (fun q hq => absurd hq List.not_mem_nil) dX1_signedPart_75

def f_X1_signOfSum_L9 (a0 : Int64) (a1 : Int64) (a2 : Int64) (a3 : Int64)   : Nat → Int32 → Int32 → Int64 → Option (Int32)
  | 0, _, _, _ => none
  | n + 1, v9_11, v9_10, v9_8 => (if v9_11 < 66 then (if v9_10 = 0 then (if (((((v9_8 + (f_X1_signedPart a0 v9_11)) + (f_X1_signedPart a1 v9_11)) + (f_X1_signedPart a2 v9_11)) + (f_X1_signedPart a3 v9_11)) &&& 4294967295) = 0 then (f_X1_signOfSum_L9 a0 a1 a2 a3 n (v9_11 + 1) 0 (jshr ((((v9_8 + (f_X1_signedPart a0 v9_11)) + (f_X1_signedPart a1 v9_11)) + (f_X1_signedPart a2 v9_11)) + (f_X1_signedPart a3 v9_11)) 32)) else (f_X1_signOfSum_L9 a0 a1 a2 a3 n (v9_11 + 1) 1 (jshr ((((v9_8 + (f_X1_signedPart a0 v9_11)) + (f_X1_signedPart a1 v9_11)) + (f_X1_signedPart a2 v9_11)) + (f_X1_signedPart a3 v9_11)) 32))) else (f_X1_signOfSum_L9 a0 a1 a2 a3 n (v9_11 + 1) 1 (jshr ((((v9_8 + (f_X1_signedPart a0 v9_11)) + (f_X1_signedPart a1 v9_11)) + (f_X1_signedPart a2 v9_11)) + (f_X1_signedPart a3 v9_11)) 32))) else (if v9_8 < 0 then some (-1) else (if v9_10 = 0 then some 0 else some 1)))
def f_X1_signOfSum (a0 : Int64) (a1 : Int64) (a2 : Int64) (a3 : Int64) : Option (Int32) := (f_X1_signOfSum_L9 a0 a1 a2 a3 100 0 0 0)
abbrev rmX1_signOfSum : Room := { frames := 3, cells := 0, slots := 0, locals := 69 }
set_option maxHeartbeats 4000000 in
set_option maxRecDepth 100000 in
theorem m_X1_signOfSum (l : Launch) (a0 : Int64) (a1 : Int64) (a2 : Int64) (a3 : Int64) (res : Int32) (hf : f_X1_signOfSum a0 a1 a2 a3 = some res) : Met l yX1_signOfSum wsX1_signOfSum rmX1_signOfSum (my_PcP [.long a0, .long a1, .long a2, .long a3]) (vp_Si (fun z => z = res)) 0 0 (fun _ => False) := by
  refine Met.ofW (cc := cX1_signOfSum) (maxL := 14) (ret := (some .int)) (by decide) rfl ?_
  intro p e s m args below meth c s₁ B hml hv
  obtain ⟨rfl, -⟩ := hv
  have hx := B.exec
  have hb := B.bytes
  have hr := B.returns
  have hts : ∀ w ∈ wsX1_signOfSum, w.before ([.long a0, .long a1, .long a2, .long a3] : List Value).toArray s = true := atoms_spec (ws := wsX1_signOfSum) B.pre
  have hown : s.vm.findClass RX1 = some m.cls := findClass_of_methodNamed B.named
  have hlk : meth.locks = false := B.notSynchronized
  have q1 := hts (.constantLong RX1 51 (4294967295)) (by decide +kernel)
  have hl := lv_entry ([.long a0, .long a1, .long a2, .long a3]) (n := 14) (Nat.le_of_ble_eq_true rfl)
  rw [lg_entry_eq]
  generalize (lg_sl ([.long a0, .long a1, .long a2, .long a3]) ++ List.replicate (14 - (lg_sl ([.long a0, .long a1, .long a2, .long a3])).length) Slot.unset).toArray = ls at hl ⊢
  have hl : lv_has ls 14 [(0, .long a0), (2, .long a1), (4, .long a2), (6, .long a3)] := hl
  unfold f_X1_signOfSum at hf
  refine lv_lconst (v := 0) hx hb dX1_signOfSum_0 (by decide) ?_
  refine lv_lstore (lv' := [(8, .long 0), (0, .long a0), (2, .long a1), (4, .long a2), (6, .long a3)]) hx hb dX1_signOfSum_1 hl (by decide) rfl (fun ls hl => ?_)
  refine lv_iconst (v := 0) hx hb dX1_signOfSum_3 (by decide) ?_
  refine lv_istore (lv' := [(10, .int 0), (8, .long 0), (0, .long a0), (2, .long a1), (4, .long a2), (6, .long a3)]) hx hb dX1_signOfSum_4 hl (by decide) rfl (fun ls hl => ?_)
  refine lv_iconst (v := 0) hx hb dX1_signOfSum_6 (by decide) ?_
  refine lv_istore (lv' := [(11, .int 0), (10, .int 0), (8, .long 0), (0, .long a0), (2, .long a1), (4, .long a2), (6, .long a3)]) hx hb dX1_signOfSum_7 hl (by decide) rfl (fun ls hl => ?_)
  have loop9 : ∀ (n : Nat) (v9_11 : Int32) (v9_10 : Int32) (v9_8 : Int64) (ls : Array Slot), lv_has ls 14 [(11, .int v9_11), (10, .int v9_10), (8, .long v9_8), (0, .long a0), (2, .long a1), (4, .long a2), (6, .long a3)] → f_X1_signOfSum_L9 a0 a1 a2 a3 n v9_11 v9_10 v9_8 = some res → W p l e (rmX1_signOfSum) s m ([.long a0, .long a1, .long a2, .long a3] : List Value).toArray below meth c s.heap [] 0 0 (MQ below (vp_Si (fun z => z = res)) ([.long a0, .long a1, .long a2, .long a3] : List Value).toArray s 0 0 (fun _ => False)) (F0 m 9 ls []) := by
    intro n
    induction n with
    | zero => intro v9_11 v9_10 v9_8 ls hl hf; rw [f_X1_signOfSum_L9] at hf; cases hf
    | succ n ih9 =>
      intro v9_11 v9_10 v9_8 ls hl hf
      rw [f_X1_signOfSum_L9] at hf
      refine lv_iload hx hb dX1_signOfSum_9 (lv_at hl 0 rfl) ?_
      refine lv_bipush (v := 66) hx hb dX1_signOfSum_11 (by decide) ?_
      refine my_ic_ge (tgt := 86) hx hb dX1_signOfSum_13 (by decide) (fun c1 => ?_) (fun c1 => ?_)
      · rw [if_neg c1] at hf
        refine lv_lload hx hb dX1_signOfSum_86 (lv_at hl 2 rfl) ?_
        refine lv_lconst (v := 0) hx hb dX1_signOfSum_88 (by decide) ?_
        refine my_lc_ge (tgt := 95) hx hb dX1_signOfSum_89 dX1_signOfSum_90 (by decide) (fun c2 => ?_) (fun c2 => ?_)
        · rw [if_neg c2] at hf
          refine lv_iload hx hb dX1_signOfSum_95 (lv_at hl 1 rfl) ?_
          refine my_if_eq (tgt := 104) hx hb dX1_signOfSum_97 (by decide) (fun c3 => ?_) (fun c3 => ?_)
          · rw [if_pos c3] at hf
            refine lv_iconst (v := 0) hx hb dX1_signOfSum_104 (by decide) ?_
            exact W.iret (v := 0) hx hb hr (fun t ht hW => ⟨_, rfl, Option.some.inj hf, ht⟩) (fun q hq => absurd hq List.not_mem_nil) dX1_signOfSum_105
          · rw [if_neg c3] at hf
            refine lv_iconst (v := 1) hx hb dX1_signOfSum_100 (by decide) ?_
            refine lv_goto (tgt := 105) hx hb dX1_signOfSum_101 (by decide) ?_
            exact W.iret (v := 1) hx hb hr (fun t ht hW => ⟨_, rfl, Option.some.inj hf, ht⟩) (fun q hq => absurd hq List.not_mem_nil) dX1_signOfSum_105
        · rw [if_pos c2] at hf
          refine lv_iconst (v := (-1)) hx hb dX1_signOfSum_93 (by decide) ?_
          exact W.iret (v := (-1)) hx hb hr (fun t ht hW => ⟨_, rfl, Option.some.inj hf, ht⟩) (fun q hq => absurd hq List.not_mem_nil) dX1_signOfSum_94
      · rw [if_pos c1] at hf
        refine lv_lload hx hb dX1_signOfSum_16 (lv_at hl 2 rfl) ?_
        refine lv_lload_n hx hb dX1_signOfSum_18 rfl (lv_at hl 3 rfl) ?_
        refine lv_iload hx hb dX1_signOfSum_19 (lv_at hl 0 rfl) ?_
        refine my_callPl (As := [.long a0, .int v9_11]) (rest := [.long v9_8]) ⟨hx, hb, hml, hown, hts⟩ (m_X1_signedPart l a0 v9_11 _ rfl) gX1_signOfSum_X1_signedPart rfl ⟨rfl, rfl⟩ (by decide +kernel) ⟨Nat.le_of_ble_eq_true rfl, Nat.le_of_ble_eq_true rfl⟩ ⟨Nat.le_of_ble_eq_true rfl, Nat.le_of_ble_eq_true rfl⟩ hl.1 rfl rfl (Nat.le_of_ble_eq_true rfl) dX1_signOfSum_21 ?_
        refine lv_ladd hx hb dX1_signOfSum_24 ?_
        refine lv_lload_n hx hb dX1_signOfSum_25 rfl (lv_at hl 4 rfl) ?_
        refine lv_iload hx hb dX1_signOfSum_26 (lv_at hl 0 rfl) ?_
        refine my_callPl (As := [.long a1, .int v9_11]) (rest := [.long (v9_8 + (f_X1_signedPart a0 v9_11))]) ⟨hx, hb, hml, hown, hts⟩ (m_X1_signedPart l a1 v9_11 _ rfl) gX1_signOfSum_X1_signedPart rfl ⟨rfl, rfl⟩ (by decide +kernel) ⟨Nat.le_of_ble_eq_true rfl, Nat.le_of_ble_eq_true rfl⟩ ⟨Nat.le_of_ble_eq_true rfl, Nat.le_of_ble_eq_true rfl⟩ hl.1 rfl rfl (Nat.le_of_ble_eq_true rfl) dX1_signOfSum_28 ?_
        refine lv_ladd hx hb dX1_signOfSum_31 ?_
        refine lv_lload hx hb dX1_signOfSum_32 (lv_at hl 5 rfl) ?_
        refine lv_iload hx hb dX1_signOfSum_34 (lv_at hl 0 rfl) ?_
        refine my_callPl (As := [.long a2, .int v9_11]) (rest := [.long ((v9_8 + (f_X1_signedPart a0 v9_11)) + (f_X1_signedPart a1 v9_11))]) ⟨hx, hb, hml, hown, hts⟩ (m_X1_signedPart l a2 v9_11 _ rfl) gX1_signOfSum_X1_signedPart rfl ⟨rfl, rfl⟩ (by decide +kernel) ⟨Nat.le_of_ble_eq_true rfl, Nat.le_of_ble_eq_true rfl⟩ ⟨Nat.le_of_ble_eq_true rfl, Nat.le_of_ble_eq_true rfl⟩ hl.1 rfl rfl (Nat.le_of_ble_eq_true rfl) dX1_signOfSum_36 ?_
        refine lv_ladd hx hb dX1_signOfSum_39 ?_
        refine lv_lload hx hb dX1_signOfSum_40 (lv_at hl 6 rfl) ?_
        refine lv_iload hx hb dX1_signOfSum_42 (lv_at hl 0 rfl) ?_
        refine my_callPl (As := [.long a3, .int v9_11]) (rest := [.long (((v9_8 + (f_X1_signedPart a0 v9_11)) + (f_X1_signedPart a1 v9_11)) + (f_X1_signedPart a2 v9_11))]) ⟨hx, hb, hml, hown, hts⟩ (m_X1_signedPart l a3 v9_11 _ rfl) gX1_signOfSum_X1_signedPart rfl ⟨rfl, rfl⟩ (by decide +kernel) ⟨Nat.le_of_ble_eq_true rfl, Nat.le_of_ble_eq_true rfl⟩ ⟨Nat.le_of_ble_eq_true rfl, Nat.le_of_ble_eq_true rfl⟩ hl.1 rfl rfl (Nat.le_of_ble_eq_true rfl) dX1_signOfSum_44 ?_
        refine lv_ladd hx hb dX1_signOfSum_47 ?_
        refine lv_lstore (lv' := [(12, .long ((((v9_8 + (f_X1_signedPart a0 v9_11)) + (f_X1_signedPart a1 v9_11)) + (f_X1_signedPart a2 v9_11)) + (f_X1_signedPart a3 v9_11))), (11, .int v9_11), (10, .int v9_10), (8, .long v9_8), (0, .long a0), (2, .long a1), (4, .long a2), (6, .long a3)]) hx hb dX1_signOfSum_48 hl (by decide) rfl (fun ls hl => ?_)
        refine lv_iload hx hb dX1_signOfSum_50 (lv_at hl 2 rfl) ?_
        refine my_if_ne (tgt := 66) hx hb dX1_signOfSum_52 (by decide) (fun c4 => ?_) (fun c4 => ?_)
        · rw [if_neg c4] at hf
          refine lv_iconst (v := 1) hx hb dX1_signOfSum_66 (by decide) ?_
          refine lv_goto (tgt := 71) hx hb dX1_signOfSum_67 (by decide) ?_
          refine lv_istore (lv' := [(10, .int 1), (12, .long ((((v9_8 + (f_X1_signedPart a0 v9_11)) + (f_X1_signedPart a1 v9_11)) + (f_X1_signedPart a2 v9_11)) + (f_X1_signedPart a3 v9_11))), (11, .int v9_11), (8, .long v9_8), (0, .long a0), (2, .long a1), (4, .long a2), (6, .long a3)]) hx hb dX1_signOfSum_71 hl (by decide) rfl (fun ls hl => ?_)
          refine lv_lload hx hb dX1_signOfSum_73 (lv_at hl 1 rfl) ?_
          refine lv_bipush (v := 32) hx hb dX1_signOfSum_75 (by decide) ?_
          refine lv_lshr (v := (jshr ((((v9_8 + (f_X1_signedPart a0 v9_11)) + (f_X1_signedPart a1 v9_11)) + (f_X1_signedPart a2 v9_11)) + (f_X1_signedPart a3 v9_11)) 32)) hx hb dX1_signOfSum_77 rfl ?_
          refine lv_lstore (lv' := [(8, .long (jshr ((((v9_8 + (f_X1_signedPart a0 v9_11)) + (f_X1_signedPart a1 v9_11)) + (f_X1_signedPart a2 v9_11)) + (f_X1_signedPart a3 v9_11)) 32)), (10, .int 1), (12, .long ((((v9_8 + (f_X1_signedPart a0 v9_11)) + (f_X1_signedPart a1 v9_11)) + (f_X1_signedPart a2 v9_11)) + (f_X1_signedPart a3 v9_11))), (11, .int v9_11), (0, .long a0), (2, .long a1), (4, .long a2), (6, .long a3)]) hx hb dX1_signOfSum_78 hl (by decide) rfl (fun ls hl => ?_)
          refine lv_iinc (v := (v9_11 + 1)) (lv' := [(11, .int (v9_11 + 1)), (8, .long (jshr ((((v9_8 + (f_X1_signedPart a0 v9_11)) + (f_X1_signedPart a1 v9_11)) + (f_X1_signedPart a2 v9_11)) + (f_X1_signedPart a3 v9_11)) 32)), (10, .int 1), (12, .long ((((v9_8 + (f_X1_signedPart a0 v9_11)) + (f_X1_signedPart a1 v9_11)) + (f_X1_signedPart a2 v9_11)) + (f_X1_signedPart a3 v9_11))), (0, .long a0), (2, .long a1), (4, .long a2), (6, .long a3)]) hx hb dX1_signOfSum_80 hl (k := 3) rfl rfl (by decide) rfl (fun ls hl => ?_)
          refine lv_goto (tgt := 9) hx hb dX1_signOfSum_83 (by decide) ?_
          exact ih9 (v9_11 + 1) 1 (jshr ((((v9_8 + (f_X1_signedPart a0 v9_11)) + (f_X1_signedPart a1 v9_11)) + (f_X1_signedPart a2 v9_11)) + (f_X1_signedPart a3 v9_11)) 32) _ (lv_sub hl [0, 2, 1, 4, 5, 6, 7] rfl) hf
        · rw [if_pos c4] at hf
          refine lv_lload hx hb dX1_signOfSum_55 (lv_at hl 0 rfl) ?_
          refine lv_ldc2 (v := 4294967295) hx hb hown q1 dX1_signOfSum_57 ?_
          refine lv_land hx hb dX1_signOfSum_60 ?_
          refine lv_lconst (v := 0) hx hb dX1_signOfSum_61 (by decide) ?_
          refine my_lc_eq (tgt := 70) hx hb dX1_signOfSum_62 dX1_signOfSum_63 (by decide) (fun c5 => ?_) (fun c5 => ?_)
          · rw [if_pos c5] at hf
            refine lv_iconst (v := 0) hx hb dX1_signOfSum_70 (by decide) ?_
            refine lv_istore (lv' := [(10, .int 0), (12, .long ((((v9_8 + (f_X1_signedPart a0 v9_11)) + (f_X1_signedPart a1 v9_11)) + (f_X1_signedPart a2 v9_11)) + (f_X1_signedPart a3 v9_11))), (11, .int v9_11), (8, .long v9_8), (0, .long a0), (2, .long a1), (4, .long a2), (6, .long a3)]) hx hb dX1_signOfSum_71 hl (by decide) rfl (fun ls hl => ?_)
            refine lv_lload hx hb dX1_signOfSum_73 (lv_at hl 1 rfl) ?_
            refine lv_bipush (v := 32) hx hb dX1_signOfSum_75 (by decide) ?_
            refine lv_lshr (v := (jshr ((((v9_8 + (f_X1_signedPart a0 v9_11)) + (f_X1_signedPart a1 v9_11)) + (f_X1_signedPart a2 v9_11)) + (f_X1_signedPart a3 v9_11)) 32)) hx hb dX1_signOfSum_77 rfl ?_
            refine lv_lstore (lv' := [(8, .long (jshr ((((v9_8 + (f_X1_signedPart a0 v9_11)) + (f_X1_signedPart a1 v9_11)) + (f_X1_signedPart a2 v9_11)) + (f_X1_signedPart a3 v9_11)) 32)), (10, .int 0), (12, .long ((((v9_8 + (f_X1_signedPart a0 v9_11)) + (f_X1_signedPart a1 v9_11)) + (f_X1_signedPart a2 v9_11)) + (f_X1_signedPart a3 v9_11))), (11, .int v9_11), (0, .long a0), (2, .long a1), (4, .long a2), (6, .long a3)]) hx hb dX1_signOfSum_78 hl (by decide) rfl (fun ls hl => ?_)
            refine lv_iinc (v := (v9_11 + 1)) (lv' := [(11, .int (v9_11 + 1)), (8, .long (jshr ((((v9_8 + (f_X1_signedPart a0 v9_11)) + (f_X1_signedPart a1 v9_11)) + (f_X1_signedPart a2 v9_11)) + (f_X1_signedPart a3 v9_11)) 32)), (10, .int 0), (12, .long ((((v9_8 + (f_X1_signedPart a0 v9_11)) + (f_X1_signedPart a1 v9_11)) + (f_X1_signedPart a2 v9_11)) + (f_X1_signedPart a3 v9_11))), (0, .long a0), (2, .long a1), (4, .long a2), (6, .long a3)]) hx hb dX1_signOfSum_80 hl (k := 3) rfl rfl (by decide) rfl (fun ls hl => ?_)
            refine lv_goto (tgt := 9) hx hb dX1_signOfSum_83 (by decide) ?_
            exact ih9 (v9_11 + 1) 0 (jshr ((((v9_8 + (f_X1_signedPart a0 v9_11)) + (f_X1_signedPart a1 v9_11)) + (f_X1_signedPart a2 v9_11)) + (f_X1_signedPart a3 v9_11)) 32) _ (lv_sub hl [0, 2, 1, 4, 5, 6, 7] rfl) hf
          · rw [if_neg c5] at hf
            refine lv_iconst (v := 1) hx hb dX1_signOfSum_66 (by decide) ?_
            refine lv_goto (tgt := 71) hx hb dX1_signOfSum_67 (by decide) ?_
            refine lv_istore (lv' := [(10, .int 1), (12, .long ((((v9_8 + (f_X1_signedPart a0 v9_11)) + (f_X1_signedPart a1 v9_11)) + (f_X1_signedPart a2 v9_11)) + (f_X1_signedPart a3 v9_11))), (11, .int v9_11), (8, .long v9_8), (0, .long a0), (2, .long a1), (4, .long a2), (6, .long a3)]) hx hb dX1_signOfSum_71 hl (by decide) rfl (fun ls hl => ?_)
            refine lv_lload hx hb dX1_signOfSum_73 (lv_at hl 1 rfl) ?_
            refine lv_bipush (v := 32) hx hb dX1_signOfSum_75 (by decide) ?_
            refine lv_lshr (v := (jshr ((((v9_8 + (f_X1_signedPart a0 v9_11)) + (f_X1_signedPart a1 v9_11)) + (f_X1_signedPart a2 v9_11)) + (f_X1_signedPart a3 v9_11)) 32)) hx hb dX1_signOfSum_77 rfl ?_
            refine lv_lstore (lv' := [(8, .long (jshr ((((v9_8 + (f_X1_signedPart a0 v9_11)) + (f_X1_signedPart a1 v9_11)) + (f_X1_signedPart a2 v9_11)) + (f_X1_signedPart a3 v9_11)) 32)), (10, .int 1), (12, .long ((((v9_8 + (f_X1_signedPart a0 v9_11)) + (f_X1_signedPart a1 v9_11)) + (f_X1_signedPart a2 v9_11)) + (f_X1_signedPart a3 v9_11))), (11, .int v9_11), (0, .long a0), (2, .long a1), (4, .long a2), (6, .long a3)]) hx hb dX1_signOfSum_78 hl (by decide) rfl (fun ls hl => ?_)
            refine lv_iinc (v := (v9_11 + 1)) (lv' := [(11, .int (v9_11 + 1)), (8, .long (jshr ((((v9_8 + (f_X1_signedPart a0 v9_11)) + (f_X1_signedPart a1 v9_11)) + (f_X1_signedPart a2 v9_11)) + (f_X1_signedPart a3 v9_11)) 32)), (10, .int 1), (12, .long ((((v9_8 + (f_X1_signedPart a0 v9_11)) + (f_X1_signedPart a1 v9_11)) + (f_X1_signedPart a2 v9_11)) + (f_X1_signedPart a3 v9_11))), (0, .long a0), (2, .long a1), (4, .long a2), (6, .long a3)]) hx hb dX1_signOfSum_80 hl (k := 3) rfl rfl (by decide) rfl (fun ls hl => ?_)
            refine lv_goto (tgt := 9) hx hb dX1_signOfSum_83 (by decide) ?_
            exact ih9 (v9_11 + 1) 1 (jshr ((((v9_8 + (f_X1_signedPart a0 v9_11)) + (f_X1_signedPart a1 v9_11)) + (f_X1_signedPart a2 v9_11)) + (f_X1_signedPart a3 v9_11)) 32) _ (lv_sub hl [0, 2, 1, 4, 5, 6, 7] rfl) hf
  exact loop9 100 0 0 0 _ (lv_sub hl [0, 1, 2, 3, 4, 5, 6] rfl) hf

def f_X1_orderOfGaps (a0 : Int64) (a1 : Int64) (a2 : Int64) (a3 : Int64) : Option (Int32) := (if (f_X0_order a0 a1) < 0 then (if (f_X0_order a2 a3) < 0 then (if 1 = 0 then (if 1 = 0 then (if 1 = 0 then (if 1 = 0 then ((f_X1_signOfSum a0 (f_X0_opposite a1) (f_X0_opposite a2) a3).bind fun r101 => some r101) else ((f_X1_signOfSum a0 (f_X0_opposite a1) (f_X0_opposite a2) a2).bind fun r102 => some r102)) else (if 1 = 0 then ((f_X1_signOfSum a0 (f_X0_opposite a1) (f_X0_opposite a3) a3).bind fun r104 => some r104) else ((f_X1_signOfSum a0 (f_X0_opposite a1) (f_X0_opposite a3) a2).bind fun r105 => some r105))) else (if 1 = 0 then (if 1 = 0 then ((f_X1_signOfSum a0 (f_X0_opposite a0) (f_X0_opposite a2) a3).bind fun r108 => some r108) else ((f_X1_signOfSum a0 (f_X0_opposite a0) (f_X0_opposite a2) a2).bind fun r109 => some r109)) else (if 1 = 0 then ((f_X1_signOfSum a0 (f_X0_opposite a0) (f_X0_opposite a3) a3).bind fun r111 => some r111) else ((f_X1_signOfSum a0 (f_X0_opposite a0) (f_X0_opposite a3) a2).bind fun r112 => some r112)))) else (if 1 = 0 then (if 1 = 0 then (if 1 = 0 then ((f_X1_signOfSum a1 (f_X0_opposite a1) (f_X0_opposite a2) a3).bind fun r116 => some r116) else ((f_X1_signOfSum a1 (f_X0_opposite a1) (f_X0_opposite a2) a2).bind fun r117 => some r117)) else (if 1 = 0 then ((f_X1_signOfSum a1 (f_X0_opposite a1) (f_X0_opposite a3) a3).bind fun r119 => some r119) else ((f_X1_signOfSum a1 (f_X0_opposite a1) (f_X0_opposite a3) a2).bind fun r120 => some r120))) else (if 1 = 0 then (if 1 = 0 then ((f_X1_signOfSum a1 (f_X0_opposite a0) (f_X0_opposite a2) a3).bind fun r123 => some r123) else ((f_X1_signOfSum a1 (f_X0_opposite a0) (f_X0_opposite a2) a2).bind fun r124 => some r124)) else (if 1 = 0 then ((f_X1_signOfSum a1 (f_X0_opposite a0) (f_X0_opposite a3) a3).bind fun r126 => some r126) else ((f_X1_signOfSum a1 (f_X0_opposite a0) (f_X0_opposite a3) a2).bind fun r127 => some r127))))) else (if 1 = 0 then (if 1 = 0 then (if 0 = 0 then (if 0 = 0 then ((f_X1_signOfSum a0 (f_X0_opposite a1) (f_X0_opposite a2) a3).bind fun r70 => some r70) else ((f_X1_signOfSum a0 (f_X0_opposite a1) (f_X0_opposite a2) a2).bind fun r71 => some r71)) else (if 0 = 0 then ((f_X1_signOfSum a0 (f_X0_opposite a1) (f_X0_opposite a3) a3).bind fun r73 => some r73) else ((f_X1_signOfSum a0 (f_X0_opposite a1) (f_X0_opposite a3) a2).bind fun r74 => some r74))) else (if 0 = 0 then (if 0 = 0 then ((f_X1_signOfSum a0 (f_X0_opposite a0) (f_X0_opposite a2) a3).bind fun r77 => some r77) else ((f_X1_signOfSum a0 (f_X0_opposite a0) (f_X0_opposite a2) a2).bind fun r78 => some r78)) else (if 0 = 0 then ((f_X1_signOfSum a0 (f_X0_opposite a0) (f_X0_opposite a3) a3).bind fun r80 => some r80) else ((f_X1_signOfSum a0 (f_X0_opposite a0) (f_X0_opposite a3) a2).bind fun r81 => some r81)))) else (if 1 = 0 then (if 0 = 0 then (if 0 = 0 then ((f_X1_signOfSum a1 (f_X0_opposite a1) (f_X0_opposite a2) a3).bind fun r85 => some r85) else ((f_X1_signOfSum a1 (f_X0_opposite a1) (f_X0_opposite a2) a2).bind fun r86 => some r86)) else (if 0 = 0 then ((f_X1_signOfSum a1 (f_X0_opposite a1) (f_X0_opposite a3) a3).bind fun r88 => some r88) else ((f_X1_signOfSum a1 (f_X0_opposite a1) (f_X0_opposite a3) a2).bind fun r89 => some r89))) else (if 0 = 0 then (if 0 = 0 then ((f_X1_signOfSum a1 (f_X0_opposite a0) (f_X0_opposite a2) a3).bind fun r92 => some r92) else ((f_X1_signOfSum a1 (f_X0_opposite a0) (f_X0_opposite a2) a2).bind fun r93 => some r93)) else (if 0 = 0 then ((f_X1_signOfSum a1 (f_X0_opposite a0) (f_X0_opposite a3) a3).bind fun r95 => some r95) else ((f_X1_signOfSum a1 (f_X0_opposite a0) (f_X0_opposite a3) a2).bind fun r96 => some r96)))))) else (if (f_X0_order a2 a3) < 0 then (if 0 = 0 then (if 0 = 0 then (if 1 = 0 then (if 1 = 0 then ((f_X1_signOfSum a0 (f_X0_opposite a1) (f_X0_opposite a2) a3).bind fun r38 => some r38) else ((f_X1_signOfSum a0 (f_X0_opposite a1) (f_X0_opposite a2) a2).bind fun r39 => some r39)) else (if 1 = 0 then ((f_X1_signOfSum a0 (f_X0_opposite a1) (f_X0_opposite a3) a3).bind fun r41 => some r41) else ((f_X1_signOfSum a0 (f_X0_opposite a1) (f_X0_opposite a3) a2).bind fun r42 => some r42))) else (if 1 = 0 then (if 1 = 0 then ((f_X1_signOfSum a0 (f_X0_opposite a0) (f_X0_opposite a2) a3).bind fun r45 => some r45) else ((f_X1_signOfSum a0 (f_X0_opposite a0) (f_X0_opposite a2) a2).bind fun r46 => some r46)) else (if 1 = 0 then ((f_X1_signOfSum a0 (f_X0_opposite a0) (f_X0_opposite a3) a3).bind fun r48 => some r48) else ((f_X1_signOfSum a0 (f_X0_opposite a0) (f_X0_opposite a3) a2).bind fun r49 => some r49)))) else (if 0 = 0 then (if 1 = 0 then (if 1 = 0 then ((f_X1_signOfSum a1 (f_X0_opposite a1) (f_X0_opposite a2) a3).bind fun r53 => some r53) else ((f_X1_signOfSum a1 (f_X0_opposite a1) (f_X0_opposite a2) a2).bind fun r54 => some r54)) else (if 1 = 0 then ((f_X1_signOfSum a1 (f_X0_opposite a1) (f_X0_opposite a3) a3).bind fun r56 => some r56) else ((f_X1_signOfSum a1 (f_X0_opposite a1) (f_X0_opposite a3) a2).bind fun r57 => some r57))) else (if 1 = 0 then (if 1 = 0 then ((f_X1_signOfSum a1 (f_X0_opposite a0) (f_X0_opposite a2) a3).bind fun r60 => some r60) else ((f_X1_signOfSum a1 (f_X0_opposite a0) (f_X0_opposite a2) a2).bind fun r61 => some r61)) else (if 1 = 0 then ((f_X1_signOfSum a1 (f_X0_opposite a0) (f_X0_opposite a3) a3).bind fun r63 => some r63) else ((f_X1_signOfSum a1 (f_X0_opposite a0) (f_X0_opposite a3) a2).bind fun r64 => some r64))))) else (if 0 = 0 then (if 0 = 0 then (if 0 = 0 then (if 0 = 0 then ((f_X1_signOfSum a0 (f_X0_opposite a1) (f_X0_opposite a2) a3).bind fun r7 => some r7) else ((f_X1_signOfSum a0 (f_X0_opposite a1) (f_X0_opposite a2) a2).bind fun r8 => some r8)) else (if 0 = 0 then ((f_X1_signOfSum a0 (f_X0_opposite a1) (f_X0_opposite a3) a3).bind fun r10 => some r10) else ((f_X1_signOfSum a0 (f_X0_opposite a1) (f_X0_opposite a3) a2).bind fun r11 => some r11))) else (if 0 = 0 then (if 0 = 0 then ((f_X1_signOfSum a0 (f_X0_opposite a0) (f_X0_opposite a2) a3).bind fun r14 => some r14) else ((f_X1_signOfSum a0 (f_X0_opposite a0) (f_X0_opposite a2) a2).bind fun r15 => some r15)) else (if 0 = 0 then ((f_X1_signOfSum a0 (f_X0_opposite a0) (f_X0_opposite a3) a3).bind fun r17 => some r17) else ((f_X1_signOfSum a0 (f_X0_opposite a0) (f_X0_opposite a3) a2).bind fun r18 => some r18)))) else (if 0 = 0 then (if 0 = 0 then (if 0 = 0 then ((f_X1_signOfSum a1 (f_X0_opposite a1) (f_X0_opposite a2) a3).bind fun r22 => some r22) else ((f_X1_signOfSum a1 (f_X0_opposite a1) (f_X0_opposite a2) a2).bind fun r23 => some r23)) else (if 0 = 0 then ((f_X1_signOfSum a1 (f_X0_opposite a1) (f_X0_opposite a3) a3).bind fun r25 => some r25) else ((f_X1_signOfSum a1 (f_X0_opposite a1) (f_X0_opposite a3) a2).bind fun r26 => some r26))) else (if 0 = 0 then (if 0 = 0 then ((f_X1_signOfSum a1 (f_X0_opposite a0) (f_X0_opposite a2) a3).bind fun r29 => some r29) else ((f_X1_signOfSum a1 (f_X0_opposite a0) (f_X0_opposite a2) a2).bind fun r30 => some r30)) else (if 0 = 0 then ((f_X1_signOfSum a1 (f_X0_opposite a0) (f_X0_opposite a3) a3).bind fun r32 => some r32) else ((f_X1_signOfSum a1 (f_X0_opposite a0) (f_X0_opposite a3) a2).bind fun r33 => some r33)))))))
abbrev rmX1_orderOfGaps : Room := { frames := 4, cells := 0, slots := 0, locals := 102 }
set_option maxHeartbeats 4000000 in
set_option maxRecDepth 100000 in
theorem m_X1_orderOfGaps (l : Launch) (a0 : Int64) (a1 : Int64) (a2 : Int64) (a3 : Int64) (res : Int32) (hf : f_X1_orderOfGaps a0 a1 a2 a3 = some res) : Met l yX1_orderOfGaps wsX1_orderOfGaps rmX1_orderOfGaps (my_PcP [.long a0, .long a1, .long a2, .long a3]) (vp_Si (fun z => z = res)) 0 0 (fun _ => False) := by
  refine Met.ofW (cc := cX1_orderOfGaps) (maxL := 10) (ret := (some .int)) (by decide) rfl ?_
  intro p e s m args below meth c s₁ B hml hv
  obtain ⟨rfl, -⟩ := hv
  have hx := B.exec
  have hb := B.bytes
  have hr := B.returns
  have hts : ∀ w ∈ wsX1_orderOfGaps, w.before ([.long a0, .long a1, .long a2, .long a3] : List Value).toArray s = true := atoms_spec (ws := wsX1_orderOfGaps) B.pre
  have hown : s.vm.findClass RX1 = some m.cls := findClass_of_methodNamed B.named
  have hlk : meth.locks = false := B.notSynchronized
  have hl := lv_entry ([.long a0, .long a1, .long a2, .long a3]) (n := 10) (Nat.le_of_ble_eq_true rfl)
  rw [lg_entry_eq]
  generalize (lg_sl ([.long a0, .long a1, .long a2, .long a3]) ++ List.replicate (10 - (lg_sl ([.long a0, .long a1, .long a2, .long a3])).length) Slot.unset).toArray = ls at hl ⊢
  have hl : lv_has ls 10 [(0, .long a0), (2, .long a1), (4, .long a2), (6, .long a3)] := hl
  unfold f_X1_orderOfGaps at hf
  refine lv_lload_n hx hb dX1_orderOfGaps_0 rfl (lv_at hl 0 rfl) ?_
  refine lv_lload_n hx hb dX1_orderOfGaps_1 rfl (lv_at hl 1 rfl) ?_
  refine my_callPi (As := [.long a0, .long a1]) (rest := []) ⟨hx, hb, hml, hown, hts⟩ (m_X0_order l a0 a1 _ rfl) gX1_orderOfGaps_X0_order rfl ⟨rfl, rfl⟩ (by decide +kernel) ⟨Nat.le_of_ble_eq_true rfl, Nat.le_of_ble_eq_true rfl⟩ ⟨Nat.le_of_ble_eq_true rfl, Nat.le_of_ble_eq_true rfl⟩ hl.1 rfl rfl (Nat.le_of_ble_eq_true rfl) dX1_orderOfGaps_2 ?_
  refine my_if_ge (tgt := 12) hx hb dX1_orderOfGaps_5 (by decide) (fun c1 => ?_) (fun c1 => ?_)
  · rw [if_neg c1] at hf
    refine lv_iconst (v := 0) hx hb dX1_orderOfGaps_12 (by decide) ?_
    refine lv_istore (lv' := [(8, .int 0), (0, .long a0), (2, .long a1), (4, .long a2), (6, .long a3)]) hx hb dX1_orderOfGaps_13 hl (by decide) rfl (fun ls hl => ?_)
    refine lv_lload hx hb dX1_orderOfGaps_15 (lv_at hl 3 rfl) ?_
    refine lv_lload hx hb dX1_orderOfGaps_17 (lv_at hl 4 rfl) ?_
    refine my_callPi (As := [.long a2, .long a3]) (rest := []) ⟨hx, hb, hml, hown, hts⟩ (m_X0_order l a2 a3 _ rfl) gX1_orderOfGaps_X0_order rfl ⟨rfl, rfl⟩ (by decide +kernel) ⟨Nat.le_of_ble_eq_true rfl, Nat.le_of_ble_eq_true rfl⟩ ⟨Nat.le_of_ble_eq_true rfl, Nat.le_of_ble_eq_true rfl⟩ hl.1 rfl rfl (Nat.le_of_ble_eq_true rfl) dX1_orderOfGaps_19 ?_
    refine my_if_ge (tgt := 29) hx hb dX1_orderOfGaps_22 (by decide) (fun c2 => ?_) (fun c2 => ?_)
    · rw [if_neg c2] at hf
      refine lv_iconst (v := 0) hx hb dX1_orderOfGaps_29 (by decide) ?_
      refine lv_istore (lv' := [(9, .int 0), (8, .int 0), (0, .long a0), (2, .long a1), (4, .long a2), (6, .long a3)]) hx hb dX1_orderOfGaps_30 hl (by decide) rfl (fun ls hl => ?_)
      refine lv_iload hx hb dX1_orderOfGaps_32 (lv_at hl 1 rfl) ?_
      refine my_if_eq (tgt := 41) hx hb dX1_orderOfGaps_34 (by decide) (fun c3 => ?_) (fun c3 => ?_)
      · rw [if_pos c3] at hf
        refine lv_lload_n hx hb dX1_orderOfGaps_41 rfl (lv_at hl 2 rfl) ?_
        refine lv_iload hx hb dX1_orderOfGaps_42 (lv_at hl 1 rfl) ?_
        refine my_if_eq (tgt := 51) hx hb dX1_orderOfGaps_44 (by decide) (fun c4 => ?_) (fun c4 => ?_)
        · rw [if_pos c4] at hf
          refine lv_lload_n hx hb dX1_orderOfGaps_51 rfl (lv_at hl 3 rfl) ?_
          refine my_callPl (As := [.long a1]) (rest := [.long a0]) ⟨hx, hb, hml, hown, hts⟩ (m_X0_opposite l a1 _ rfl) gX1_orderOfGaps_X0_opposite rfl ⟨rfl, rfl⟩ (by decide +kernel) ⟨Nat.le_of_ble_eq_true rfl, Nat.le_of_ble_eq_true rfl⟩ ⟨Nat.le_of_ble_eq_true rfl, Nat.le_of_ble_eq_true rfl⟩ hl.1 rfl rfl (Nat.le_of_ble_eq_true rfl) dX1_orderOfGaps_52 ?_
          refine lv_iload hx hb dX1_orderOfGaps_55 (lv_at hl 0 rfl) ?_
          refine my_if_eq (tgt := 65) hx hb dX1_orderOfGaps_57 (by decide) (fun c5 => ?_) (fun c5 => ?_)
          · rw [if_pos c5] at hf
            refine lv_lload hx hb dX1_orderOfGaps_65 (lv_at hl 4 rfl) ?_
            refine my_callPl (As := [.long a2]) (rest := [.long (f_X0_opposite a1), .long a0]) ⟨hx, hb, hml, hown, hts⟩ (m_X0_opposite l a2 _ rfl) gX1_orderOfGaps_X0_opposite rfl ⟨rfl, rfl⟩ (by decide +kernel) ⟨Nat.le_of_ble_eq_true rfl, Nat.le_of_ble_eq_true rfl⟩ ⟨Nat.le_of_ble_eq_true rfl, Nat.le_of_ble_eq_true rfl⟩ hl.1 rfl rfl (Nat.le_of_ble_eq_true rfl) dX1_orderOfGaps_67 ?_
            refine lv_iload hx hb dX1_orderOfGaps_70 (lv_at hl 0 rfl) ?_
            refine my_if_eq (tgt := 80) hx hb dX1_orderOfGaps_72 (by decide) (fun c6 => ?_) (fun c6 => ?_)
            · rw [if_pos c6] at hf
              refine lv_lload hx hb dX1_orderOfGaps_80 (lv_at hl 5 rfl) ?_
              obtain ⟨r7, er7, hf⟩ := ob_e hf
              refine my_callPi (As := [.long a0, .long (f_X0_opposite a1), .long (f_X0_opposite a2), .long a3]) (rest := []) ⟨hx, hb, hml, hown, hts⟩ (m_X1_signOfSum l a0 (f_X0_opposite a1) (f_X0_opposite a2) a3 _ er7) gX1_orderOfGaps_X1_signOfSum rfl ⟨rfl, rfl⟩ (by decide +kernel) ⟨Nat.le_of_ble_eq_true rfl, Nat.le_of_ble_eq_true rfl⟩ ⟨Nat.le_of_ble_eq_true rfl, Nat.le_of_ble_eq_true rfl⟩ hl.1 rfl rfl (Nat.le_of_ble_eq_true rfl) dX1_orderOfGaps_82 ?_
              exact W.iret (v := r7) hx hb hr (fun t ht hW => ⟨_, rfl, Option.some.inj hf, ht⟩) (fun q hq => absurd hq List.not_mem_nil) dX1_orderOfGaps_85
            · rw [if_neg c6] at hf
              refine lv_lload hx hb dX1_orderOfGaps_75 (lv_at hl 4 rfl) ?_
              refine lv_goto (tgt := 82) hx hb dX1_orderOfGaps_77 (by decide) ?_
              obtain ⟨r8, er8, hf⟩ := ob_e hf
              refine my_callPi (As := [.long a0, .long (f_X0_opposite a1), .long (f_X0_opposite a2), .long a2]) (rest := []) ⟨hx, hb, hml, hown, hts⟩ (m_X1_signOfSum l a0 (f_X0_opposite a1) (f_X0_opposite a2) a2 _ er8) gX1_orderOfGaps_X1_signOfSum rfl ⟨rfl, rfl⟩ (by decide +kernel) ⟨Nat.le_of_ble_eq_true rfl, Nat.le_of_ble_eq_true rfl⟩ ⟨Nat.le_of_ble_eq_true rfl, Nat.le_of_ble_eq_true rfl⟩ hl.1 rfl rfl (Nat.le_of_ble_eq_true rfl) dX1_orderOfGaps_82 ?_
              exact W.iret (v := r8) hx hb hr (fun t ht hW => ⟨_, rfl, Option.some.inj hf, ht⟩) (fun q hq => absurd hq List.not_mem_nil) dX1_orderOfGaps_85
          · rw [if_neg c5] at hf
            refine lv_lload hx hb dX1_orderOfGaps_60 (lv_at hl 5 rfl) ?_
            refine lv_goto (tgt := 67) hx hb dX1_orderOfGaps_62 (by decide) ?_
            refine my_callPl (As := [.long a3]) (rest := [.long (f_X0_opposite a1), .long a0]) ⟨hx, hb, hml, hown, hts⟩ (m_X0_opposite l a3 _ rfl) gX1_orderOfGaps_X0_opposite rfl ⟨rfl, rfl⟩ (by decide +kernel) ⟨Nat.le_of_ble_eq_true rfl, Nat.le_of_ble_eq_true rfl⟩ ⟨Nat.le_of_ble_eq_true rfl, Nat.le_of_ble_eq_true rfl⟩ hl.1 rfl rfl (Nat.le_of_ble_eq_true rfl) dX1_orderOfGaps_67 ?_
            refine lv_iload hx hb dX1_orderOfGaps_70 (lv_at hl 0 rfl) ?_
            refine my_if_eq (tgt := 80) hx hb dX1_orderOfGaps_72 (by decide) (fun c9 => ?_) (fun c9 => ?_)
            · rw [if_pos c9] at hf
              refine lv_lload hx hb dX1_orderOfGaps_80 (lv_at hl 5 rfl) ?_
              obtain ⟨r10, er10, hf⟩ := ob_e hf
              refine my_callPi (As := [.long a0, .long (f_X0_opposite a1), .long (f_X0_opposite a3), .long a3]) (rest := []) ⟨hx, hb, hml, hown, hts⟩ (m_X1_signOfSum l a0 (f_X0_opposite a1) (f_X0_opposite a3) a3 _ er10) gX1_orderOfGaps_X1_signOfSum rfl ⟨rfl, rfl⟩ (by decide +kernel) ⟨Nat.le_of_ble_eq_true rfl, Nat.le_of_ble_eq_true rfl⟩ ⟨Nat.le_of_ble_eq_true rfl, Nat.le_of_ble_eq_true rfl⟩ hl.1 rfl rfl (Nat.le_of_ble_eq_true rfl) dX1_orderOfGaps_82 ?_
              exact W.iret (v := r10) hx hb hr (fun t ht hW => ⟨_, rfl, Option.some.inj hf, ht⟩) (fun q hq => absurd hq List.not_mem_nil) dX1_orderOfGaps_85
            · rw [if_neg c9] at hf
              refine lv_lload hx hb dX1_orderOfGaps_75 (lv_at hl 4 rfl) ?_
              refine lv_goto (tgt := 82) hx hb dX1_orderOfGaps_77 (by decide) ?_
              obtain ⟨r11, er11, hf⟩ := ob_e hf
              refine my_callPi (As := [.long a0, .long (f_X0_opposite a1), .long (f_X0_opposite a3), .long a2]) (rest := []) ⟨hx, hb, hml, hown, hts⟩ (m_X1_signOfSum l a0 (f_X0_opposite a1) (f_X0_opposite a3) a2 _ er11) gX1_orderOfGaps_X1_signOfSum rfl ⟨rfl, rfl⟩ (by decide +kernel) ⟨Nat.le_of_ble_eq_true rfl, Nat.le_of_ble_eq_true rfl⟩ ⟨Nat.le_of_ble_eq_true rfl, Nat.le_of_ble_eq_true rfl⟩ hl.1 rfl rfl (Nat.le_of_ble_eq_true rfl) dX1_orderOfGaps_82 ?_
              exact W.iret (v := r11) hx hb hr (fun t ht hW => ⟨_, rfl, Option.some.inj hf, ht⟩) (fun q hq => absurd hq List.not_mem_nil) dX1_orderOfGaps_85
        · rw [if_neg c4] at hf
          refine lv_lload_n hx hb dX1_orderOfGaps_47 rfl (lv_at hl 2 rfl) ?_
          refine lv_goto (tgt := 52) hx hb dX1_orderOfGaps_48 (by decide) ?_
          refine my_callPl (As := [.long a0]) (rest := [.long a0]) ⟨hx, hb, hml, hown, hts⟩ (m_X0_opposite l a0 _ rfl) gX1_orderOfGaps_X0_opposite rfl ⟨rfl, rfl⟩ (by decide +kernel) ⟨Nat.le_of_ble_eq_true rfl, Nat.le_of_ble_eq_true rfl⟩ ⟨Nat.le_of_ble_eq_true rfl, Nat.le_of_ble_eq_true rfl⟩ hl.1 rfl rfl (Nat.le_of_ble_eq_true rfl) dX1_orderOfGaps_52 ?_
          refine lv_iload hx hb dX1_orderOfGaps_55 (lv_at hl 0 rfl) ?_
          refine my_if_eq (tgt := 65) hx hb dX1_orderOfGaps_57 (by decide) (fun c12 => ?_) (fun c12 => ?_)
          · rw [if_pos c12] at hf
            refine lv_lload hx hb dX1_orderOfGaps_65 (lv_at hl 4 rfl) ?_
            refine my_callPl (As := [.long a2]) (rest := [.long (f_X0_opposite a0), .long a0]) ⟨hx, hb, hml, hown, hts⟩ (m_X0_opposite l a2 _ rfl) gX1_orderOfGaps_X0_opposite rfl ⟨rfl, rfl⟩ (by decide +kernel) ⟨Nat.le_of_ble_eq_true rfl, Nat.le_of_ble_eq_true rfl⟩ ⟨Nat.le_of_ble_eq_true rfl, Nat.le_of_ble_eq_true rfl⟩ hl.1 rfl rfl (Nat.le_of_ble_eq_true rfl) dX1_orderOfGaps_67 ?_
            refine lv_iload hx hb dX1_orderOfGaps_70 (lv_at hl 0 rfl) ?_
            refine my_if_eq (tgt := 80) hx hb dX1_orderOfGaps_72 (by decide) (fun c13 => ?_) (fun c13 => ?_)
            · rw [if_pos c13] at hf
              refine lv_lload hx hb dX1_orderOfGaps_80 (lv_at hl 5 rfl) ?_
              obtain ⟨r14, er14, hf⟩ := ob_e hf
              refine my_callPi (As := [.long a0, .long (f_X0_opposite a0), .long (f_X0_opposite a2), .long a3]) (rest := []) ⟨hx, hb, hml, hown, hts⟩ (m_X1_signOfSum l a0 (f_X0_opposite a0) (f_X0_opposite a2) a3 _ er14) gX1_orderOfGaps_X1_signOfSum rfl ⟨rfl, rfl⟩ (by decide +kernel) ⟨Nat.le_of_ble_eq_true rfl, Nat.le_of_ble_eq_true rfl⟩ ⟨Nat.le_of_ble_eq_true rfl, Nat.le_of_ble_eq_true rfl⟩ hl.1 rfl rfl (Nat.le_of_ble_eq_true rfl) dX1_orderOfGaps_82 ?_
              exact W.iret (v := r14) hx hb hr (fun t ht hW => ⟨_, rfl, Option.some.inj hf, ht⟩) (fun q hq => absurd hq List.not_mem_nil) dX1_orderOfGaps_85
            · rw [if_neg c13] at hf
              refine lv_lload hx hb dX1_orderOfGaps_75 (lv_at hl 4 rfl) ?_
              refine lv_goto (tgt := 82) hx hb dX1_orderOfGaps_77 (by decide) ?_
              obtain ⟨r15, er15, hf⟩ := ob_e hf
              refine my_callPi (As := [.long a0, .long (f_X0_opposite a0), .long (f_X0_opposite a2), .long a2]) (rest := []) ⟨hx, hb, hml, hown, hts⟩ (m_X1_signOfSum l a0 (f_X0_opposite a0) (f_X0_opposite a2) a2 _ er15) gX1_orderOfGaps_X1_signOfSum rfl ⟨rfl, rfl⟩ (by decide +kernel) ⟨Nat.le_of_ble_eq_true rfl, Nat.le_of_ble_eq_true rfl⟩ ⟨Nat.le_of_ble_eq_true rfl, Nat.le_of_ble_eq_true rfl⟩ hl.1 rfl rfl (Nat.le_of_ble_eq_true rfl) dX1_orderOfGaps_82 ?_
              exact W.iret (v := r15) hx hb hr (fun t ht hW => ⟨_, rfl, Option.some.inj hf, ht⟩) (fun q hq => absurd hq List.not_mem_nil) dX1_orderOfGaps_85
          · rw [if_neg c12] at hf
            refine lv_lload hx hb dX1_orderOfGaps_60 (lv_at hl 5 rfl) ?_
            refine lv_goto (tgt := 67) hx hb dX1_orderOfGaps_62 (by decide) ?_
            refine my_callPl (As := [.long a3]) (rest := [.long (f_X0_opposite a0), .long a0]) ⟨hx, hb, hml, hown, hts⟩ (m_X0_opposite l a3 _ rfl) gX1_orderOfGaps_X0_opposite rfl ⟨rfl, rfl⟩ (by decide +kernel) ⟨Nat.le_of_ble_eq_true rfl, Nat.le_of_ble_eq_true rfl⟩ ⟨Nat.le_of_ble_eq_true rfl, Nat.le_of_ble_eq_true rfl⟩ hl.1 rfl rfl (Nat.le_of_ble_eq_true rfl) dX1_orderOfGaps_67 ?_
            refine lv_iload hx hb dX1_orderOfGaps_70 (lv_at hl 0 rfl) ?_
            refine my_if_eq (tgt := 80) hx hb dX1_orderOfGaps_72 (by decide) (fun c16 => ?_) (fun c16 => ?_)
            · rw [if_pos c16] at hf
              refine lv_lload hx hb dX1_orderOfGaps_80 (lv_at hl 5 rfl) ?_
              obtain ⟨r17, er17, hf⟩ := ob_e hf
              refine my_callPi (As := [.long a0, .long (f_X0_opposite a0), .long (f_X0_opposite a3), .long a3]) (rest := []) ⟨hx, hb, hml, hown, hts⟩ (m_X1_signOfSum l a0 (f_X0_opposite a0) (f_X0_opposite a3) a3 _ er17) gX1_orderOfGaps_X1_signOfSum rfl ⟨rfl, rfl⟩ (by decide +kernel) ⟨Nat.le_of_ble_eq_true rfl, Nat.le_of_ble_eq_true rfl⟩ ⟨Nat.le_of_ble_eq_true rfl, Nat.le_of_ble_eq_true rfl⟩ hl.1 rfl rfl (Nat.le_of_ble_eq_true rfl) dX1_orderOfGaps_82 ?_
              exact W.iret (v := r17) hx hb hr (fun t ht hW => ⟨_, rfl, Option.some.inj hf, ht⟩) (fun q hq => absurd hq List.not_mem_nil) dX1_orderOfGaps_85
            · rw [if_neg c16] at hf
              refine lv_lload hx hb dX1_orderOfGaps_75 (lv_at hl 4 rfl) ?_
              refine lv_goto (tgt := 82) hx hb dX1_orderOfGaps_77 (by decide) ?_
              obtain ⟨r18, er18, hf⟩ := ob_e hf
              refine my_callPi (As := [.long a0, .long (f_X0_opposite a0), .long (f_X0_opposite a3), .long a2]) (rest := []) ⟨hx, hb, hml, hown, hts⟩ (m_X1_signOfSum l a0 (f_X0_opposite a0) (f_X0_opposite a3) a2 _ er18) gX1_orderOfGaps_X1_signOfSum rfl ⟨rfl, rfl⟩ (by decide +kernel) ⟨Nat.le_of_ble_eq_true rfl, Nat.le_of_ble_eq_true rfl⟩ ⟨Nat.le_of_ble_eq_true rfl, Nat.le_of_ble_eq_true rfl⟩ hl.1 rfl rfl (Nat.le_of_ble_eq_true rfl) dX1_orderOfGaps_82 ?_
              exact W.iret (v := r18) hx hb hr (fun t ht hW => ⟨_, rfl, Option.some.inj hf, ht⟩) (fun q hq => absurd hq List.not_mem_nil) dX1_orderOfGaps_85
      · rw [if_neg c3] at hf
        refine lv_lload_n hx hb dX1_orderOfGaps_37 rfl (lv_at hl 3 rfl) ?_
        refine lv_goto (tgt := 42) hx hb dX1_orderOfGaps_38 (by decide) ?_
        refine lv_iload hx hb dX1_orderOfGaps_42 (lv_at hl 1 rfl) ?_
        refine my_if_eq (tgt := 51) hx hb dX1_orderOfGaps_44 (by decide) (fun c19 => ?_) (fun c19 => ?_)
        · rw [if_pos c19] at hf
          refine lv_lload_n hx hb dX1_orderOfGaps_51 rfl (lv_at hl 3 rfl) ?_
          refine my_callPl (As := [.long a1]) (rest := [.long a1]) ⟨hx, hb, hml, hown, hts⟩ (m_X0_opposite l a1 _ rfl) gX1_orderOfGaps_X0_opposite rfl ⟨rfl, rfl⟩ (by decide +kernel) ⟨Nat.le_of_ble_eq_true rfl, Nat.le_of_ble_eq_true rfl⟩ ⟨Nat.le_of_ble_eq_true rfl, Nat.le_of_ble_eq_true rfl⟩ hl.1 rfl rfl (Nat.le_of_ble_eq_true rfl) dX1_orderOfGaps_52 ?_
          refine lv_iload hx hb dX1_orderOfGaps_55 (lv_at hl 0 rfl) ?_
          refine my_if_eq (tgt := 65) hx hb dX1_orderOfGaps_57 (by decide) (fun c20 => ?_) (fun c20 => ?_)
          · rw [if_pos c20] at hf
            refine lv_lload hx hb dX1_orderOfGaps_65 (lv_at hl 4 rfl) ?_
            refine my_callPl (As := [.long a2]) (rest := [.long (f_X0_opposite a1), .long a1]) ⟨hx, hb, hml, hown, hts⟩ (m_X0_opposite l a2 _ rfl) gX1_orderOfGaps_X0_opposite rfl ⟨rfl, rfl⟩ (by decide +kernel) ⟨Nat.le_of_ble_eq_true rfl, Nat.le_of_ble_eq_true rfl⟩ ⟨Nat.le_of_ble_eq_true rfl, Nat.le_of_ble_eq_true rfl⟩ hl.1 rfl rfl (Nat.le_of_ble_eq_true rfl) dX1_orderOfGaps_67 ?_
            refine lv_iload hx hb dX1_orderOfGaps_70 (lv_at hl 0 rfl) ?_
            refine my_if_eq (tgt := 80) hx hb dX1_orderOfGaps_72 (by decide) (fun c21 => ?_) (fun c21 => ?_)
            · rw [if_pos c21] at hf
              refine lv_lload hx hb dX1_orderOfGaps_80 (lv_at hl 5 rfl) ?_
              obtain ⟨r22, er22, hf⟩ := ob_e hf
              refine my_callPi (As := [.long a1, .long (f_X0_opposite a1), .long (f_X0_opposite a2), .long a3]) (rest := []) ⟨hx, hb, hml, hown, hts⟩ (m_X1_signOfSum l a1 (f_X0_opposite a1) (f_X0_opposite a2) a3 _ er22) gX1_orderOfGaps_X1_signOfSum rfl ⟨rfl, rfl⟩ (by decide +kernel) ⟨Nat.le_of_ble_eq_true rfl, Nat.le_of_ble_eq_true rfl⟩ ⟨Nat.le_of_ble_eq_true rfl, Nat.le_of_ble_eq_true rfl⟩ hl.1 rfl rfl (Nat.le_of_ble_eq_true rfl) dX1_orderOfGaps_82 ?_
              exact W.iret (v := r22) hx hb hr (fun t ht hW => ⟨_, rfl, Option.some.inj hf, ht⟩) (fun q hq => absurd hq List.not_mem_nil) dX1_orderOfGaps_85
            · rw [if_neg c21] at hf
              refine lv_lload hx hb dX1_orderOfGaps_75 (lv_at hl 4 rfl) ?_
              refine lv_goto (tgt := 82) hx hb dX1_orderOfGaps_77 (by decide) ?_
              obtain ⟨r23, er23, hf⟩ := ob_e hf
              refine my_callPi (As := [.long a1, .long (f_X0_opposite a1), .long (f_X0_opposite a2), .long a2]) (rest := []) ⟨hx, hb, hml, hown, hts⟩ (m_X1_signOfSum l a1 (f_X0_opposite a1) (f_X0_opposite a2) a2 _ er23) gX1_orderOfGaps_X1_signOfSum rfl ⟨rfl, rfl⟩ (by decide +kernel) ⟨Nat.le_of_ble_eq_true rfl, Nat.le_of_ble_eq_true rfl⟩ ⟨Nat.le_of_ble_eq_true rfl, Nat.le_of_ble_eq_true rfl⟩ hl.1 rfl rfl (Nat.le_of_ble_eq_true rfl) dX1_orderOfGaps_82 ?_
              exact W.iret (v := r23) hx hb hr (fun t ht hW => ⟨_, rfl, Option.some.inj hf, ht⟩) (fun q hq => absurd hq List.not_mem_nil) dX1_orderOfGaps_85
          · rw [if_neg c20] at hf
            refine lv_lload hx hb dX1_orderOfGaps_60 (lv_at hl 5 rfl) ?_
            refine lv_goto (tgt := 67) hx hb dX1_orderOfGaps_62 (by decide) ?_
            refine my_callPl (As := [.long a3]) (rest := [.long (f_X0_opposite a1), .long a1]) ⟨hx, hb, hml, hown, hts⟩ (m_X0_opposite l a3 _ rfl) gX1_orderOfGaps_X0_opposite rfl ⟨rfl, rfl⟩ (by decide +kernel) ⟨Nat.le_of_ble_eq_true rfl, Nat.le_of_ble_eq_true rfl⟩ ⟨Nat.le_of_ble_eq_true rfl, Nat.le_of_ble_eq_true rfl⟩ hl.1 rfl rfl (Nat.le_of_ble_eq_true rfl) dX1_orderOfGaps_67 ?_
            refine lv_iload hx hb dX1_orderOfGaps_70 (lv_at hl 0 rfl) ?_
            refine my_if_eq (tgt := 80) hx hb dX1_orderOfGaps_72 (by decide) (fun c24 => ?_) (fun c24 => ?_)
            · rw [if_pos c24] at hf
              refine lv_lload hx hb dX1_orderOfGaps_80 (lv_at hl 5 rfl) ?_
              obtain ⟨r25, er25, hf⟩ := ob_e hf
              refine my_callPi (As := [.long a1, .long (f_X0_opposite a1), .long (f_X0_opposite a3), .long a3]) (rest := []) ⟨hx, hb, hml, hown, hts⟩ (m_X1_signOfSum l a1 (f_X0_opposite a1) (f_X0_opposite a3) a3 _ er25) gX1_orderOfGaps_X1_signOfSum rfl ⟨rfl, rfl⟩ (by decide +kernel) ⟨Nat.le_of_ble_eq_true rfl, Nat.le_of_ble_eq_true rfl⟩ ⟨Nat.le_of_ble_eq_true rfl, Nat.le_of_ble_eq_true rfl⟩ hl.1 rfl rfl (Nat.le_of_ble_eq_true rfl) dX1_orderOfGaps_82 ?_
              exact W.iret (v := r25) hx hb hr (fun t ht hW => ⟨_, rfl, Option.some.inj hf, ht⟩) (fun q hq => absurd hq List.not_mem_nil) dX1_orderOfGaps_85
            · rw [if_neg c24] at hf
              refine lv_lload hx hb dX1_orderOfGaps_75 (lv_at hl 4 rfl) ?_
              refine lv_goto (tgt := 82) hx hb dX1_orderOfGaps_77 (by decide) ?_
              obtain ⟨r26, er26, hf⟩ := ob_e hf
              refine my_callPi (As := [.long a1, .long (f_X0_opposite a1), .long (f_X0_opposite a3), .long a2]) (rest := []) ⟨hx, hb, hml, hown, hts⟩ (m_X1_signOfSum l a1 (f_X0_opposite a1) (f_X0_opposite a3) a2 _ er26) gX1_orderOfGaps_X1_signOfSum rfl ⟨rfl, rfl⟩ (by decide +kernel) ⟨Nat.le_of_ble_eq_true rfl, Nat.le_of_ble_eq_true rfl⟩ ⟨Nat.le_of_ble_eq_true rfl, Nat.le_of_ble_eq_true rfl⟩ hl.1 rfl rfl (Nat.le_of_ble_eq_true rfl) dX1_orderOfGaps_82 ?_
              exact W.iret (v := r26) hx hb hr (fun t ht hW => ⟨_, rfl, Option.some.inj hf, ht⟩) (fun q hq => absurd hq List.not_mem_nil) dX1_orderOfGaps_85
        · rw [if_neg c19] at hf
          refine lv_lload_n hx hb dX1_orderOfGaps_47 rfl (lv_at hl 2 rfl) ?_
          refine lv_goto (tgt := 52) hx hb dX1_orderOfGaps_48 (by decide) ?_
          refine my_callPl (As := [.long a0]) (rest := [.long a1]) ⟨hx, hb, hml, hown, hts⟩ (m_X0_opposite l a0 _ rfl) gX1_orderOfGaps_X0_opposite rfl ⟨rfl, rfl⟩ (by decide +kernel) ⟨Nat.le_of_ble_eq_true rfl, Nat.le_of_ble_eq_true rfl⟩ ⟨Nat.le_of_ble_eq_true rfl, Nat.le_of_ble_eq_true rfl⟩ hl.1 rfl rfl (Nat.le_of_ble_eq_true rfl) dX1_orderOfGaps_52 ?_
          refine lv_iload hx hb dX1_orderOfGaps_55 (lv_at hl 0 rfl) ?_
          refine my_if_eq (tgt := 65) hx hb dX1_orderOfGaps_57 (by decide) (fun c27 => ?_) (fun c27 => ?_)
          · rw [if_pos c27] at hf
            refine lv_lload hx hb dX1_orderOfGaps_65 (lv_at hl 4 rfl) ?_
            refine my_callPl (As := [.long a2]) (rest := [.long (f_X0_opposite a0), .long a1]) ⟨hx, hb, hml, hown, hts⟩ (m_X0_opposite l a2 _ rfl) gX1_orderOfGaps_X0_opposite rfl ⟨rfl, rfl⟩ (by decide +kernel) ⟨Nat.le_of_ble_eq_true rfl, Nat.le_of_ble_eq_true rfl⟩ ⟨Nat.le_of_ble_eq_true rfl, Nat.le_of_ble_eq_true rfl⟩ hl.1 rfl rfl (Nat.le_of_ble_eq_true rfl) dX1_orderOfGaps_67 ?_
            refine lv_iload hx hb dX1_orderOfGaps_70 (lv_at hl 0 rfl) ?_
            refine my_if_eq (tgt := 80) hx hb dX1_orderOfGaps_72 (by decide) (fun c28 => ?_) (fun c28 => ?_)
            · rw [if_pos c28] at hf
              refine lv_lload hx hb dX1_orderOfGaps_80 (lv_at hl 5 rfl) ?_
              obtain ⟨r29, er29, hf⟩ := ob_e hf
              refine my_callPi (As := [.long a1, .long (f_X0_opposite a0), .long (f_X0_opposite a2), .long a3]) (rest := []) ⟨hx, hb, hml, hown, hts⟩ (m_X1_signOfSum l a1 (f_X0_opposite a0) (f_X0_opposite a2) a3 _ er29) gX1_orderOfGaps_X1_signOfSum rfl ⟨rfl, rfl⟩ (by decide +kernel) ⟨Nat.le_of_ble_eq_true rfl, Nat.le_of_ble_eq_true rfl⟩ ⟨Nat.le_of_ble_eq_true rfl, Nat.le_of_ble_eq_true rfl⟩ hl.1 rfl rfl (Nat.le_of_ble_eq_true rfl) dX1_orderOfGaps_82 ?_
              exact W.iret (v := r29) hx hb hr (fun t ht hW => ⟨_, rfl, Option.some.inj hf, ht⟩) (fun q hq => absurd hq List.not_mem_nil) dX1_orderOfGaps_85
            · rw [if_neg c28] at hf
              refine lv_lload hx hb dX1_orderOfGaps_75 (lv_at hl 4 rfl) ?_
              refine lv_goto (tgt := 82) hx hb dX1_orderOfGaps_77 (by decide) ?_
              obtain ⟨r30, er30, hf⟩ := ob_e hf
              refine my_callPi (As := [.long a1, .long (f_X0_opposite a0), .long (f_X0_opposite a2), .long a2]) (rest := []) ⟨hx, hb, hml, hown, hts⟩ (m_X1_signOfSum l a1 (f_X0_opposite a0) (f_X0_opposite a2) a2 _ er30) gX1_orderOfGaps_X1_signOfSum rfl ⟨rfl, rfl⟩ (by decide +kernel) ⟨Nat.le_of_ble_eq_true rfl, Nat.le_of_ble_eq_true rfl⟩ ⟨Nat.le_of_ble_eq_true rfl, Nat.le_of_ble_eq_true rfl⟩ hl.1 rfl rfl (Nat.le_of_ble_eq_true rfl) dX1_orderOfGaps_82 ?_
              exact W.iret (v := r30) hx hb hr (fun t ht hW => ⟨_, rfl, Option.some.inj hf, ht⟩) (fun q hq => absurd hq List.not_mem_nil) dX1_orderOfGaps_85
          · rw [if_neg c27] at hf
            refine lv_lload hx hb dX1_orderOfGaps_60 (lv_at hl 5 rfl) ?_
            refine lv_goto (tgt := 67) hx hb dX1_orderOfGaps_62 (by decide) ?_
            refine my_callPl (As := [.long a3]) (rest := [.long (f_X0_opposite a0), .long a1]) ⟨hx, hb, hml, hown, hts⟩ (m_X0_opposite l a3 _ rfl) gX1_orderOfGaps_X0_opposite rfl ⟨rfl, rfl⟩ (by decide +kernel) ⟨Nat.le_of_ble_eq_true rfl, Nat.le_of_ble_eq_true rfl⟩ ⟨Nat.le_of_ble_eq_true rfl, Nat.le_of_ble_eq_true rfl⟩ hl.1 rfl rfl (Nat.le_of_ble_eq_true rfl) dX1_orderOfGaps_67 ?_
            refine lv_iload hx hb dX1_orderOfGaps_70 (lv_at hl 0 rfl) ?_
            refine my_if_eq (tgt := 80) hx hb dX1_orderOfGaps_72 (by decide) (fun c31 => ?_) (fun c31 => ?_)
            · rw [if_pos c31] at hf
              refine lv_lload hx hb dX1_orderOfGaps_80 (lv_at hl 5 rfl) ?_
              obtain ⟨r32, er32, hf⟩ := ob_e hf
              refine my_callPi (As := [.long a1, .long (f_X0_opposite a0), .long (f_X0_opposite a3), .long a3]) (rest := []) ⟨hx, hb, hml, hown, hts⟩ (m_X1_signOfSum l a1 (f_X0_opposite a0) (f_X0_opposite a3) a3 _ er32) gX1_orderOfGaps_X1_signOfSum rfl ⟨rfl, rfl⟩ (by decide +kernel) ⟨Nat.le_of_ble_eq_true rfl, Nat.le_of_ble_eq_true rfl⟩ ⟨Nat.le_of_ble_eq_true rfl, Nat.le_of_ble_eq_true rfl⟩ hl.1 rfl rfl (Nat.le_of_ble_eq_true rfl) dX1_orderOfGaps_82 ?_
              exact W.iret (v := r32) hx hb hr (fun t ht hW => ⟨_, rfl, Option.some.inj hf, ht⟩) (fun q hq => absurd hq List.not_mem_nil) dX1_orderOfGaps_85
            · rw [if_neg c31] at hf
              refine lv_lload hx hb dX1_orderOfGaps_75 (lv_at hl 4 rfl) ?_
              refine lv_goto (tgt := 82) hx hb dX1_orderOfGaps_77 (by decide) ?_
              obtain ⟨r33, er33, hf⟩ := ob_e hf
              refine my_callPi (As := [.long a1, .long (f_X0_opposite a0), .long (f_X0_opposite a3), .long a2]) (rest := []) ⟨hx, hb, hml, hown, hts⟩ (m_X1_signOfSum l a1 (f_X0_opposite a0) (f_X0_opposite a3) a2 _ er33) gX1_orderOfGaps_X1_signOfSum rfl ⟨rfl, rfl⟩ (by decide +kernel) ⟨Nat.le_of_ble_eq_true rfl, Nat.le_of_ble_eq_true rfl⟩ ⟨Nat.le_of_ble_eq_true rfl, Nat.le_of_ble_eq_true rfl⟩ hl.1 rfl rfl (Nat.le_of_ble_eq_true rfl) dX1_orderOfGaps_82 ?_
              exact W.iret (v := r33) hx hb hr (fun t ht hW => ⟨_, rfl, Option.some.inj hf, ht⟩) (fun q hq => absurd hq List.not_mem_nil) dX1_orderOfGaps_85
    · rw [if_pos c2] at hf
      refine lv_iconst (v := 1) hx hb dX1_orderOfGaps_25 (by decide) ?_
      refine lv_goto (tgt := 30) hx hb dX1_orderOfGaps_26 (by decide) ?_
      refine lv_istore (lv' := [(9, .int 1), (8, .int 0), (0, .long a0), (2, .long a1), (4, .long a2), (6, .long a3)]) hx hb dX1_orderOfGaps_30 hl (by decide) rfl (fun ls hl => ?_)
      refine lv_iload hx hb dX1_orderOfGaps_32 (lv_at hl 1 rfl) ?_
      refine my_if_eq (tgt := 41) hx hb dX1_orderOfGaps_34 (by decide) (fun c34 => ?_) (fun c34 => ?_)
      · rw [if_pos c34] at hf
        refine lv_lload_n hx hb dX1_orderOfGaps_41 rfl (lv_at hl 2 rfl) ?_
        refine lv_iload hx hb dX1_orderOfGaps_42 (lv_at hl 1 rfl) ?_
        refine my_if_eq (tgt := 51) hx hb dX1_orderOfGaps_44 (by decide) (fun c35 => ?_) (fun c35 => ?_)
        · rw [if_pos c35] at hf
          refine lv_lload_n hx hb dX1_orderOfGaps_51 rfl (lv_at hl 3 rfl) ?_
          refine my_callPl (As := [.long a1]) (rest := [.long a0]) ⟨hx, hb, hml, hown, hts⟩ (m_X0_opposite l a1 _ rfl) gX1_orderOfGaps_X0_opposite rfl ⟨rfl, rfl⟩ (by decide +kernel) ⟨Nat.le_of_ble_eq_true rfl, Nat.le_of_ble_eq_true rfl⟩ ⟨Nat.le_of_ble_eq_true rfl, Nat.le_of_ble_eq_true rfl⟩ hl.1 rfl rfl (Nat.le_of_ble_eq_true rfl) dX1_orderOfGaps_52 ?_
          refine lv_iload hx hb dX1_orderOfGaps_55 (lv_at hl 0 rfl) ?_
          refine my_if_eq (tgt := 65) hx hb dX1_orderOfGaps_57 (by decide) (fun c36 => ?_) (fun c36 => ?_)
          · rw [if_pos c36] at hf
            refine lv_lload hx hb dX1_orderOfGaps_65 (lv_at hl 4 rfl) ?_
            refine my_callPl (As := [.long a2]) (rest := [.long (f_X0_opposite a1), .long a0]) ⟨hx, hb, hml, hown, hts⟩ (m_X0_opposite l a2 _ rfl) gX1_orderOfGaps_X0_opposite rfl ⟨rfl, rfl⟩ (by decide +kernel) ⟨Nat.le_of_ble_eq_true rfl, Nat.le_of_ble_eq_true rfl⟩ ⟨Nat.le_of_ble_eq_true rfl, Nat.le_of_ble_eq_true rfl⟩ hl.1 rfl rfl (Nat.le_of_ble_eq_true rfl) dX1_orderOfGaps_67 ?_
            refine lv_iload hx hb dX1_orderOfGaps_70 (lv_at hl 0 rfl) ?_
            refine my_if_eq (tgt := 80) hx hb dX1_orderOfGaps_72 (by decide) (fun c37 => ?_) (fun c37 => ?_)
            · rw [if_pos c37] at hf
              refine lv_lload hx hb dX1_orderOfGaps_80 (lv_at hl 5 rfl) ?_
              obtain ⟨r38, er38, hf⟩ := ob_e hf
              refine my_callPi (As := [.long a0, .long (f_X0_opposite a1), .long (f_X0_opposite a2), .long a3]) (rest := []) ⟨hx, hb, hml, hown, hts⟩ (m_X1_signOfSum l a0 (f_X0_opposite a1) (f_X0_opposite a2) a3 _ er38) gX1_orderOfGaps_X1_signOfSum rfl ⟨rfl, rfl⟩ (by decide +kernel) ⟨Nat.le_of_ble_eq_true rfl, Nat.le_of_ble_eq_true rfl⟩ ⟨Nat.le_of_ble_eq_true rfl, Nat.le_of_ble_eq_true rfl⟩ hl.1 rfl rfl (Nat.le_of_ble_eq_true rfl) dX1_orderOfGaps_82 ?_
              exact W.iret (v := r38) hx hb hr (fun t ht hW => ⟨_, rfl, Option.some.inj hf, ht⟩) (fun q hq => absurd hq List.not_mem_nil) dX1_orderOfGaps_85
            · rw [if_neg c37] at hf
              refine lv_lload hx hb dX1_orderOfGaps_75 (lv_at hl 4 rfl) ?_
              refine lv_goto (tgt := 82) hx hb dX1_orderOfGaps_77 (by decide) ?_
              obtain ⟨r39, er39, hf⟩ := ob_e hf
              refine my_callPi (As := [.long a0, .long (f_X0_opposite a1), .long (f_X0_opposite a2), .long a2]) (rest := []) ⟨hx, hb, hml, hown, hts⟩ (m_X1_signOfSum l a0 (f_X0_opposite a1) (f_X0_opposite a2) a2 _ er39) gX1_orderOfGaps_X1_signOfSum rfl ⟨rfl, rfl⟩ (by decide +kernel) ⟨Nat.le_of_ble_eq_true rfl, Nat.le_of_ble_eq_true rfl⟩ ⟨Nat.le_of_ble_eq_true rfl, Nat.le_of_ble_eq_true rfl⟩ hl.1 rfl rfl (Nat.le_of_ble_eq_true rfl) dX1_orderOfGaps_82 ?_
              exact W.iret (v := r39) hx hb hr (fun t ht hW => ⟨_, rfl, Option.some.inj hf, ht⟩) (fun q hq => absurd hq List.not_mem_nil) dX1_orderOfGaps_85
          · rw [if_neg c36] at hf
            refine lv_lload hx hb dX1_orderOfGaps_60 (lv_at hl 5 rfl) ?_
            refine lv_goto (tgt := 67) hx hb dX1_orderOfGaps_62 (by decide) ?_
            refine my_callPl (As := [.long a3]) (rest := [.long (f_X0_opposite a1), .long a0]) ⟨hx, hb, hml, hown, hts⟩ (m_X0_opposite l a3 _ rfl) gX1_orderOfGaps_X0_opposite rfl ⟨rfl, rfl⟩ (by decide +kernel) ⟨Nat.le_of_ble_eq_true rfl, Nat.le_of_ble_eq_true rfl⟩ ⟨Nat.le_of_ble_eq_true rfl, Nat.le_of_ble_eq_true rfl⟩ hl.1 rfl rfl (Nat.le_of_ble_eq_true rfl) dX1_orderOfGaps_67 ?_
            refine lv_iload hx hb dX1_orderOfGaps_70 (lv_at hl 0 rfl) ?_
            refine my_if_eq (tgt := 80) hx hb dX1_orderOfGaps_72 (by decide) (fun c40 => ?_) (fun c40 => ?_)
            · rw [if_pos c40] at hf
              refine lv_lload hx hb dX1_orderOfGaps_80 (lv_at hl 5 rfl) ?_
              obtain ⟨r41, er41, hf⟩ := ob_e hf
              refine my_callPi (As := [.long a0, .long (f_X0_opposite a1), .long (f_X0_opposite a3), .long a3]) (rest := []) ⟨hx, hb, hml, hown, hts⟩ (m_X1_signOfSum l a0 (f_X0_opposite a1) (f_X0_opposite a3) a3 _ er41) gX1_orderOfGaps_X1_signOfSum rfl ⟨rfl, rfl⟩ (by decide +kernel) ⟨Nat.le_of_ble_eq_true rfl, Nat.le_of_ble_eq_true rfl⟩ ⟨Nat.le_of_ble_eq_true rfl, Nat.le_of_ble_eq_true rfl⟩ hl.1 rfl rfl (Nat.le_of_ble_eq_true rfl) dX1_orderOfGaps_82 ?_
              exact W.iret (v := r41) hx hb hr (fun t ht hW => ⟨_, rfl, Option.some.inj hf, ht⟩) (fun q hq => absurd hq List.not_mem_nil) dX1_orderOfGaps_85
            · rw [if_neg c40] at hf
              refine lv_lload hx hb dX1_orderOfGaps_75 (lv_at hl 4 rfl) ?_
              refine lv_goto (tgt := 82) hx hb dX1_orderOfGaps_77 (by decide) ?_
              obtain ⟨r42, er42, hf⟩ := ob_e hf
              refine my_callPi (As := [.long a0, .long (f_X0_opposite a1), .long (f_X0_opposite a3), .long a2]) (rest := []) ⟨hx, hb, hml, hown, hts⟩ (m_X1_signOfSum l a0 (f_X0_opposite a1) (f_X0_opposite a3) a2 _ er42) gX1_orderOfGaps_X1_signOfSum rfl ⟨rfl, rfl⟩ (by decide +kernel) ⟨Nat.le_of_ble_eq_true rfl, Nat.le_of_ble_eq_true rfl⟩ ⟨Nat.le_of_ble_eq_true rfl, Nat.le_of_ble_eq_true rfl⟩ hl.1 rfl rfl (Nat.le_of_ble_eq_true rfl) dX1_orderOfGaps_82 ?_
              exact W.iret (v := r42) hx hb hr (fun t ht hW => ⟨_, rfl, Option.some.inj hf, ht⟩) (fun q hq => absurd hq List.not_mem_nil) dX1_orderOfGaps_85
        · rw [if_neg c35] at hf
          refine lv_lload_n hx hb dX1_orderOfGaps_47 rfl (lv_at hl 2 rfl) ?_
          refine lv_goto (tgt := 52) hx hb dX1_orderOfGaps_48 (by decide) ?_
          refine my_callPl (As := [.long a0]) (rest := [.long a0]) ⟨hx, hb, hml, hown, hts⟩ (m_X0_opposite l a0 _ rfl) gX1_orderOfGaps_X0_opposite rfl ⟨rfl, rfl⟩ (by decide +kernel) ⟨Nat.le_of_ble_eq_true rfl, Nat.le_of_ble_eq_true rfl⟩ ⟨Nat.le_of_ble_eq_true rfl, Nat.le_of_ble_eq_true rfl⟩ hl.1 rfl rfl (Nat.le_of_ble_eq_true rfl) dX1_orderOfGaps_52 ?_
          refine lv_iload hx hb dX1_orderOfGaps_55 (lv_at hl 0 rfl) ?_
          refine my_if_eq (tgt := 65) hx hb dX1_orderOfGaps_57 (by decide) (fun c43 => ?_) (fun c43 => ?_)
          · rw [if_pos c43] at hf
            refine lv_lload hx hb dX1_orderOfGaps_65 (lv_at hl 4 rfl) ?_
            refine my_callPl (As := [.long a2]) (rest := [.long (f_X0_opposite a0), .long a0]) ⟨hx, hb, hml, hown, hts⟩ (m_X0_opposite l a2 _ rfl) gX1_orderOfGaps_X0_opposite rfl ⟨rfl, rfl⟩ (by decide +kernel) ⟨Nat.le_of_ble_eq_true rfl, Nat.le_of_ble_eq_true rfl⟩ ⟨Nat.le_of_ble_eq_true rfl, Nat.le_of_ble_eq_true rfl⟩ hl.1 rfl rfl (Nat.le_of_ble_eq_true rfl) dX1_orderOfGaps_67 ?_
            refine lv_iload hx hb dX1_orderOfGaps_70 (lv_at hl 0 rfl) ?_
            refine my_if_eq (tgt := 80) hx hb dX1_orderOfGaps_72 (by decide) (fun c44 => ?_) (fun c44 => ?_)
            · rw [if_pos c44] at hf
              refine lv_lload hx hb dX1_orderOfGaps_80 (lv_at hl 5 rfl) ?_
              obtain ⟨r45, er45, hf⟩ := ob_e hf
              refine my_callPi (As := [.long a0, .long (f_X0_opposite a0), .long (f_X0_opposite a2), .long a3]) (rest := []) ⟨hx, hb, hml, hown, hts⟩ (m_X1_signOfSum l a0 (f_X0_opposite a0) (f_X0_opposite a2) a3 _ er45) gX1_orderOfGaps_X1_signOfSum rfl ⟨rfl, rfl⟩ (by decide +kernel) ⟨Nat.le_of_ble_eq_true rfl, Nat.le_of_ble_eq_true rfl⟩ ⟨Nat.le_of_ble_eq_true rfl, Nat.le_of_ble_eq_true rfl⟩ hl.1 rfl rfl (Nat.le_of_ble_eq_true rfl) dX1_orderOfGaps_82 ?_
              exact W.iret (v := r45) hx hb hr (fun t ht hW => ⟨_, rfl, Option.some.inj hf, ht⟩) (fun q hq => absurd hq List.not_mem_nil) dX1_orderOfGaps_85
            · rw [if_neg c44] at hf
              refine lv_lload hx hb dX1_orderOfGaps_75 (lv_at hl 4 rfl) ?_
              refine lv_goto (tgt := 82) hx hb dX1_orderOfGaps_77 (by decide) ?_
              obtain ⟨r46, er46, hf⟩ := ob_e hf
              refine my_callPi (As := [.long a0, .long (f_X0_opposite a0), .long (f_X0_opposite a2), .long a2]) (rest := []) ⟨hx, hb, hml, hown, hts⟩ (m_X1_signOfSum l a0 (f_X0_opposite a0) (f_X0_opposite a2) a2 _ er46) gX1_orderOfGaps_X1_signOfSum rfl ⟨rfl, rfl⟩ (by decide +kernel) ⟨Nat.le_of_ble_eq_true rfl, Nat.le_of_ble_eq_true rfl⟩ ⟨Nat.le_of_ble_eq_true rfl, Nat.le_of_ble_eq_true rfl⟩ hl.1 rfl rfl (Nat.le_of_ble_eq_true rfl) dX1_orderOfGaps_82 ?_
              exact W.iret (v := r46) hx hb hr (fun t ht hW => ⟨_, rfl, Option.some.inj hf, ht⟩) (fun q hq => absurd hq List.not_mem_nil) dX1_orderOfGaps_85
          · rw [if_neg c43] at hf
            refine lv_lload hx hb dX1_orderOfGaps_60 (lv_at hl 5 rfl) ?_
            refine lv_goto (tgt := 67) hx hb dX1_orderOfGaps_62 (by decide) ?_
            refine my_callPl (As := [.long a3]) (rest := [.long (f_X0_opposite a0), .long a0]) ⟨hx, hb, hml, hown, hts⟩ (m_X0_opposite l a3 _ rfl) gX1_orderOfGaps_X0_opposite rfl ⟨rfl, rfl⟩ (by decide +kernel) ⟨Nat.le_of_ble_eq_true rfl, Nat.le_of_ble_eq_true rfl⟩ ⟨Nat.le_of_ble_eq_true rfl, Nat.le_of_ble_eq_true rfl⟩ hl.1 rfl rfl (Nat.le_of_ble_eq_true rfl) dX1_orderOfGaps_67 ?_
            refine lv_iload hx hb dX1_orderOfGaps_70 (lv_at hl 0 rfl) ?_
            refine my_if_eq (tgt := 80) hx hb dX1_orderOfGaps_72 (by decide) (fun c47 => ?_) (fun c47 => ?_)
            · rw [if_pos c47] at hf
              refine lv_lload hx hb dX1_orderOfGaps_80 (lv_at hl 5 rfl) ?_
              obtain ⟨r48, er48, hf⟩ := ob_e hf
              refine my_callPi (As := [.long a0, .long (f_X0_opposite a0), .long (f_X0_opposite a3), .long a3]) (rest := []) ⟨hx, hb, hml, hown, hts⟩ (m_X1_signOfSum l a0 (f_X0_opposite a0) (f_X0_opposite a3) a3 _ er48) gX1_orderOfGaps_X1_signOfSum rfl ⟨rfl, rfl⟩ (by decide +kernel) ⟨Nat.le_of_ble_eq_true rfl, Nat.le_of_ble_eq_true rfl⟩ ⟨Nat.le_of_ble_eq_true rfl, Nat.le_of_ble_eq_true rfl⟩ hl.1 rfl rfl (Nat.le_of_ble_eq_true rfl) dX1_orderOfGaps_82 ?_
              exact W.iret (v := r48) hx hb hr (fun t ht hW => ⟨_, rfl, Option.some.inj hf, ht⟩) (fun q hq => absurd hq List.not_mem_nil) dX1_orderOfGaps_85
            · rw [if_neg c47] at hf
              refine lv_lload hx hb dX1_orderOfGaps_75 (lv_at hl 4 rfl) ?_
              refine lv_goto (tgt := 82) hx hb dX1_orderOfGaps_77 (by decide) ?_
              obtain ⟨r49, er49, hf⟩ := ob_e hf
              refine my_callPi (As := [.long a0, .long (f_X0_opposite a0), .long (f_X0_opposite a3), .long a2]) (rest := []) ⟨hx, hb, hml, hown, hts⟩ (m_X1_signOfSum l a0 (f_X0_opposite a0) (f_X0_opposite a3) a2 _ er49) gX1_orderOfGaps_X1_signOfSum rfl ⟨rfl, rfl⟩ (by decide +kernel) ⟨Nat.le_of_ble_eq_true rfl, Nat.le_of_ble_eq_true rfl⟩ ⟨Nat.le_of_ble_eq_true rfl, Nat.le_of_ble_eq_true rfl⟩ hl.1 rfl rfl (Nat.le_of_ble_eq_true rfl) dX1_orderOfGaps_82 ?_
              exact W.iret (v := r49) hx hb hr (fun t ht hW => ⟨_, rfl, Option.some.inj hf, ht⟩) (fun q hq => absurd hq List.not_mem_nil) dX1_orderOfGaps_85
      · rw [if_neg c34] at hf
        refine lv_lload_n hx hb dX1_orderOfGaps_37 rfl (lv_at hl 3 rfl) ?_
        refine lv_goto (tgt := 42) hx hb dX1_orderOfGaps_38 (by decide) ?_
        refine lv_iload hx hb dX1_orderOfGaps_42 (lv_at hl 1 rfl) ?_
        refine my_if_eq (tgt := 51) hx hb dX1_orderOfGaps_44 (by decide) (fun c50 => ?_) (fun c50 => ?_)
        · rw [if_pos c50] at hf
          refine lv_lload_n hx hb dX1_orderOfGaps_51 rfl (lv_at hl 3 rfl) ?_
          refine my_callPl (As := [.long a1]) (rest := [.long a1]) ⟨hx, hb, hml, hown, hts⟩ (m_X0_opposite l a1 _ rfl) gX1_orderOfGaps_X0_opposite rfl ⟨rfl, rfl⟩ (by decide +kernel) ⟨Nat.le_of_ble_eq_true rfl, Nat.le_of_ble_eq_true rfl⟩ ⟨Nat.le_of_ble_eq_true rfl, Nat.le_of_ble_eq_true rfl⟩ hl.1 rfl rfl (Nat.le_of_ble_eq_true rfl) dX1_orderOfGaps_52 ?_
          refine lv_iload hx hb dX1_orderOfGaps_55 (lv_at hl 0 rfl) ?_
          refine my_if_eq (tgt := 65) hx hb dX1_orderOfGaps_57 (by decide) (fun c51 => ?_) (fun c51 => ?_)
          · rw [if_pos c51] at hf
            refine lv_lload hx hb dX1_orderOfGaps_65 (lv_at hl 4 rfl) ?_
            refine my_callPl (As := [.long a2]) (rest := [.long (f_X0_opposite a1), .long a1]) ⟨hx, hb, hml, hown, hts⟩ (m_X0_opposite l a2 _ rfl) gX1_orderOfGaps_X0_opposite rfl ⟨rfl, rfl⟩ (by decide +kernel) ⟨Nat.le_of_ble_eq_true rfl, Nat.le_of_ble_eq_true rfl⟩ ⟨Nat.le_of_ble_eq_true rfl, Nat.le_of_ble_eq_true rfl⟩ hl.1 rfl rfl (Nat.le_of_ble_eq_true rfl) dX1_orderOfGaps_67 ?_
            refine lv_iload hx hb dX1_orderOfGaps_70 (lv_at hl 0 rfl) ?_
            refine my_if_eq (tgt := 80) hx hb dX1_orderOfGaps_72 (by decide) (fun c52 => ?_) (fun c52 => ?_)
            · rw [if_pos c52] at hf
              refine lv_lload hx hb dX1_orderOfGaps_80 (lv_at hl 5 rfl) ?_
              obtain ⟨r53, er53, hf⟩ := ob_e hf
              refine my_callPi (As := [.long a1, .long (f_X0_opposite a1), .long (f_X0_opposite a2), .long a3]) (rest := []) ⟨hx, hb, hml, hown, hts⟩ (m_X1_signOfSum l a1 (f_X0_opposite a1) (f_X0_opposite a2) a3 _ er53) gX1_orderOfGaps_X1_signOfSum rfl ⟨rfl, rfl⟩ (by decide +kernel) ⟨Nat.le_of_ble_eq_true rfl, Nat.le_of_ble_eq_true rfl⟩ ⟨Nat.le_of_ble_eq_true rfl, Nat.le_of_ble_eq_true rfl⟩ hl.1 rfl rfl (Nat.le_of_ble_eq_true rfl) dX1_orderOfGaps_82 ?_
              exact W.iret (v := r53) hx hb hr (fun t ht hW => ⟨_, rfl, Option.some.inj hf, ht⟩) (fun q hq => absurd hq List.not_mem_nil) dX1_orderOfGaps_85
            · rw [if_neg c52] at hf
              refine lv_lload hx hb dX1_orderOfGaps_75 (lv_at hl 4 rfl) ?_
              refine lv_goto (tgt := 82) hx hb dX1_orderOfGaps_77 (by decide) ?_
              obtain ⟨r54, er54, hf⟩ := ob_e hf
              refine my_callPi (As := [.long a1, .long (f_X0_opposite a1), .long (f_X0_opposite a2), .long a2]) (rest := []) ⟨hx, hb, hml, hown, hts⟩ (m_X1_signOfSum l a1 (f_X0_opposite a1) (f_X0_opposite a2) a2 _ er54) gX1_orderOfGaps_X1_signOfSum rfl ⟨rfl, rfl⟩ (by decide +kernel) ⟨Nat.le_of_ble_eq_true rfl, Nat.le_of_ble_eq_true rfl⟩ ⟨Nat.le_of_ble_eq_true rfl, Nat.le_of_ble_eq_true rfl⟩ hl.1 rfl rfl (Nat.le_of_ble_eq_true rfl) dX1_orderOfGaps_82 ?_
              exact W.iret (v := r54) hx hb hr (fun t ht hW => ⟨_, rfl, Option.some.inj hf, ht⟩) (fun q hq => absurd hq List.not_mem_nil) dX1_orderOfGaps_85
          · rw [if_neg c51] at hf
            refine lv_lload hx hb dX1_orderOfGaps_60 (lv_at hl 5 rfl) ?_
            refine lv_goto (tgt := 67) hx hb dX1_orderOfGaps_62 (by decide) ?_
            refine my_callPl (As := [.long a3]) (rest := [.long (f_X0_opposite a1), .long a1]) ⟨hx, hb, hml, hown, hts⟩ (m_X0_opposite l a3 _ rfl) gX1_orderOfGaps_X0_opposite rfl ⟨rfl, rfl⟩ (by decide +kernel) ⟨Nat.le_of_ble_eq_true rfl, Nat.le_of_ble_eq_true rfl⟩ ⟨Nat.le_of_ble_eq_true rfl, Nat.le_of_ble_eq_true rfl⟩ hl.1 rfl rfl (Nat.le_of_ble_eq_true rfl) dX1_orderOfGaps_67 ?_
            refine lv_iload hx hb dX1_orderOfGaps_70 (lv_at hl 0 rfl) ?_
            refine my_if_eq (tgt := 80) hx hb dX1_orderOfGaps_72 (by decide) (fun c55 => ?_) (fun c55 => ?_)
            · rw [if_pos c55] at hf
              refine lv_lload hx hb dX1_orderOfGaps_80 (lv_at hl 5 rfl) ?_
              obtain ⟨r56, er56, hf⟩ := ob_e hf
              refine my_callPi (As := [.long a1, .long (f_X0_opposite a1), .long (f_X0_opposite a3), .long a3]) (rest := []) ⟨hx, hb, hml, hown, hts⟩ (m_X1_signOfSum l a1 (f_X0_opposite a1) (f_X0_opposite a3) a3 _ er56) gX1_orderOfGaps_X1_signOfSum rfl ⟨rfl, rfl⟩ (by decide +kernel) ⟨Nat.le_of_ble_eq_true rfl, Nat.le_of_ble_eq_true rfl⟩ ⟨Nat.le_of_ble_eq_true rfl, Nat.le_of_ble_eq_true rfl⟩ hl.1 rfl rfl (Nat.le_of_ble_eq_true rfl) dX1_orderOfGaps_82 ?_
              exact W.iret (v := r56) hx hb hr (fun t ht hW => ⟨_, rfl, Option.some.inj hf, ht⟩) (fun q hq => absurd hq List.not_mem_nil) dX1_orderOfGaps_85
            · rw [if_neg c55] at hf
              refine lv_lload hx hb dX1_orderOfGaps_75 (lv_at hl 4 rfl) ?_
              refine lv_goto (tgt := 82) hx hb dX1_orderOfGaps_77 (by decide) ?_
              obtain ⟨r57, er57, hf⟩ := ob_e hf
              refine my_callPi (As := [.long a1, .long (f_X0_opposite a1), .long (f_X0_opposite a3), .long a2]) (rest := []) ⟨hx, hb, hml, hown, hts⟩ (m_X1_signOfSum l a1 (f_X0_opposite a1) (f_X0_opposite a3) a2 _ er57) gX1_orderOfGaps_X1_signOfSum rfl ⟨rfl, rfl⟩ (by decide +kernel) ⟨Nat.le_of_ble_eq_true rfl, Nat.le_of_ble_eq_true rfl⟩ ⟨Nat.le_of_ble_eq_true rfl, Nat.le_of_ble_eq_true rfl⟩ hl.1 rfl rfl (Nat.le_of_ble_eq_true rfl) dX1_orderOfGaps_82 ?_
              exact W.iret (v := r57) hx hb hr (fun t ht hW => ⟨_, rfl, Option.some.inj hf, ht⟩) (fun q hq => absurd hq List.not_mem_nil) dX1_orderOfGaps_85
        · rw [if_neg c50] at hf
          refine lv_lload_n hx hb dX1_orderOfGaps_47 rfl (lv_at hl 2 rfl) ?_
          refine lv_goto (tgt := 52) hx hb dX1_orderOfGaps_48 (by decide) ?_
          refine my_callPl (As := [.long a0]) (rest := [.long a1]) ⟨hx, hb, hml, hown, hts⟩ (m_X0_opposite l a0 _ rfl) gX1_orderOfGaps_X0_opposite rfl ⟨rfl, rfl⟩ (by decide +kernel) ⟨Nat.le_of_ble_eq_true rfl, Nat.le_of_ble_eq_true rfl⟩ ⟨Nat.le_of_ble_eq_true rfl, Nat.le_of_ble_eq_true rfl⟩ hl.1 rfl rfl (Nat.le_of_ble_eq_true rfl) dX1_orderOfGaps_52 ?_
          refine lv_iload hx hb dX1_orderOfGaps_55 (lv_at hl 0 rfl) ?_
          refine my_if_eq (tgt := 65) hx hb dX1_orderOfGaps_57 (by decide) (fun c58 => ?_) (fun c58 => ?_)
          · rw [if_pos c58] at hf
            refine lv_lload hx hb dX1_orderOfGaps_65 (lv_at hl 4 rfl) ?_
            refine my_callPl (As := [.long a2]) (rest := [.long (f_X0_opposite a0), .long a1]) ⟨hx, hb, hml, hown, hts⟩ (m_X0_opposite l a2 _ rfl) gX1_orderOfGaps_X0_opposite rfl ⟨rfl, rfl⟩ (by decide +kernel) ⟨Nat.le_of_ble_eq_true rfl, Nat.le_of_ble_eq_true rfl⟩ ⟨Nat.le_of_ble_eq_true rfl, Nat.le_of_ble_eq_true rfl⟩ hl.1 rfl rfl (Nat.le_of_ble_eq_true rfl) dX1_orderOfGaps_67 ?_
            refine lv_iload hx hb dX1_orderOfGaps_70 (lv_at hl 0 rfl) ?_
            refine my_if_eq (tgt := 80) hx hb dX1_orderOfGaps_72 (by decide) (fun c59 => ?_) (fun c59 => ?_)
            · rw [if_pos c59] at hf
              refine lv_lload hx hb dX1_orderOfGaps_80 (lv_at hl 5 rfl) ?_
              obtain ⟨r60, er60, hf⟩ := ob_e hf
              refine my_callPi (As := [.long a1, .long (f_X0_opposite a0), .long (f_X0_opposite a2), .long a3]) (rest := []) ⟨hx, hb, hml, hown, hts⟩ (m_X1_signOfSum l a1 (f_X0_opposite a0) (f_X0_opposite a2) a3 _ er60) gX1_orderOfGaps_X1_signOfSum rfl ⟨rfl, rfl⟩ (by decide +kernel) ⟨Nat.le_of_ble_eq_true rfl, Nat.le_of_ble_eq_true rfl⟩ ⟨Nat.le_of_ble_eq_true rfl, Nat.le_of_ble_eq_true rfl⟩ hl.1 rfl rfl (Nat.le_of_ble_eq_true rfl) dX1_orderOfGaps_82 ?_
              exact W.iret (v := r60) hx hb hr (fun t ht hW => ⟨_, rfl, Option.some.inj hf, ht⟩) (fun q hq => absurd hq List.not_mem_nil) dX1_orderOfGaps_85
            · rw [if_neg c59] at hf
              refine lv_lload hx hb dX1_orderOfGaps_75 (lv_at hl 4 rfl) ?_
              refine lv_goto (tgt := 82) hx hb dX1_orderOfGaps_77 (by decide) ?_
              obtain ⟨r61, er61, hf⟩ := ob_e hf
              refine my_callPi (As := [.long a1, .long (f_X0_opposite a0), .long (f_X0_opposite a2), .long a2]) (rest := []) ⟨hx, hb, hml, hown, hts⟩ (m_X1_signOfSum l a1 (f_X0_opposite a0) (f_X0_opposite a2) a2 _ er61) gX1_orderOfGaps_X1_signOfSum rfl ⟨rfl, rfl⟩ (by decide +kernel) ⟨Nat.le_of_ble_eq_true rfl, Nat.le_of_ble_eq_true rfl⟩ ⟨Nat.le_of_ble_eq_true rfl, Nat.le_of_ble_eq_true rfl⟩ hl.1 rfl rfl (Nat.le_of_ble_eq_true rfl) dX1_orderOfGaps_82 ?_
              exact W.iret (v := r61) hx hb hr (fun t ht hW => ⟨_, rfl, Option.some.inj hf, ht⟩) (fun q hq => absurd hq List.not_mem_nil) dX1_orderOfGaps_85
          · rw [if_neg c58] at hf
            refine lv_lload hx hb dX1_orderOfGaps_60 (lv_at hl 5 rfl) ?_
            refine lv_goto (tgt := 67) hx hb dX1_orderOfGaps_62 (by decide) ?_
            refine my_callPl (As := [.long a3]) (rest := [.long (f_X0_opposite a0), .long a1]) ⟨hx, hb, hml, hown, hts⟩ (m_X0_opposite l a3 _ rfl) gX1_orderOfGaps_X0_opposite rfl ⟨rfl, rfl⟩ (by decide +kernel) ⟨Nat.le_of_ble_eq_true rfl, Nat.le_of_ble_eq_true rfl⟩ ⟨Nat.le_of_ble_eq_true rfl, Nat.le_of_ble_eq_true rfl⟩ hl.1 rfl rfl (Nat.le_of_ble_eq_true rfl) dX1_orderOfGaps_67 ?_
            refine lv_iload hx hb dX1_orderOfGaps_70 (lv_at hl 0 rfl) ?_
            refine my_if_eq (tgt := 80) hx hb dX1_orderOfGaps_72 (by decide) (fun c62 => ?_) (fun c62 => ?_)
            · rw [if_pos c62] at hf
              refine lv_lload hx hb dX1_orderOfGaps_80 (lv_at hl 5 rfl) ?_
              obtain ⟨r63, er63, hf⟩ := ob_e hf
              refine my_callPi (As := [.long a1, .long (f_X0_opposite a0), .long (f_X0_opposite a3), .long a3]) (rest := []) ⟨hx, hb, hml, hown, hts⟩ (m_X1_signOfSum l a1 (f_X0_opposite a0) (f_X0_opposite a3) a3 _ er63) gX1_orderOfGaps_X1_signOfSum rfl ⟨rfl, rfl⟩ (by decide +kernel) ⟨Nat.le_of_ble_eq_true rfl, Nat.le_of_ble_eq_true rfl⟩ ⟨Nat.le_of_ble_eq_true rfl, Nat.le_of_ble_eq_true rfl⟩ hl.1 rfl rfl (Nat.le_of_ble_eq_true rfl) dX1_orderOfGaps_82 ?_
              exact W.iret (v := r63) hx hb hr (fun t ht hW => ⟨_, rfl, Option.some.inj hf, ht⟩) (fun q hq => absurd hq List.not_mem_nil) dX1_orderOfGaps_85
            · rw [if_neg c62] at hf
              refine lv_lload hx hb dX1_orderOfGaps_75 (lv_at hl 4 rfl) ?_
              refine lv_goto (tgt := 82) hx hb dX1_orderOfGaps_77 (by decide) ?_
              obtain ⟨r64, er64, hf⟩ := ob_e hf
              refine my_callPi (As := [.long a1, .long (f_X0_opposite a0), .long (f_X0_opposite a3), .long a2]) (rest := []) ⟨hx, hb, hml, hown, hts⟩ (m_X1_signOfSum l a1 (f_X0_opposite a0) (f_X0_opposite a3) a2 _ er64) gX1_orderOfGaps_X1_signOfSum rfl ⟨rfl, rfl⟩ (by decide +kernel) ⟨Nat.le_of_ble_eq_true rfl, Nat.le_of_ble_eq_true rfl⟩ ⟨Nat.le_of_ble_eq_true rfl, Nat.le_of_ble_eq_true rfl⟩ hl.1 rfl rfl (Nat.le_of_ble_eq_true rfl) dX1_orderOfGaps_82 ?_
              exact W.iret (v := r64) hx hb hr (fun t ht hW => ⟨_, rfl, Option.some.inj hf, ht⟩) (fun q hq => absurd hq List.not_mem_nil) dX1_orderOfGaps_85
  · rw [if_pos c1] at hf
    refine lv_iconst (v := 1) hx hb dX1_orderOfGaps_8 (by decide) ?_
    refine lv_goto (tgt := 13) hx hb dX1_orderOfGaps_9 (by decide) ?_
    refine lv_istore (lv' := [(8, .int 1), (0, .long a0), (2, .long a1), (4, .long a2), (6, .long a3)]) hx hb dX1_orderOfGaps_13 hl (by decide) rfl (fun ls hl => ?_)
    refine lv_lload hx hb dX1_orderOfGaps_15 (lv_at hl 3 rfl) ?_
    refine lv_lload hx hb dX1_orderOfGaps_17 (lv_at hl 4 rfl) ?_
    refine my_callPi (As := [.long a2, .long a3]) (rest := []) ⟨hx, hb, hml, hown, hts⟩ (m_X0_order l a2 a3 _ rfl) gX1_orderOfGaps_X0_order rfl ⟨rfl, rfl⟩ (by decide +kernel) ⟨Nat.le_of_ble_eq_true rfl, Nat.le_of_ble_eq_true rfl⟩ ⟨Nat.le_of_ble_eq_true rfl, Nat.le_of_ble_eq_true rfl⟩ hl.1 rfl rfl (Nat.le_of_ble_eq_true rfl) dX1_orderOfGaps_19 ?_
    refine my_if_ge (tgt := 29) hx hb dX1_orderOfGaps_22 (by decide) (fun c65 => ?_) (fun c65 => ?_)
    · rw [if_neg c65] at hf
      refine lv_iconst (v := 0) hx hb dX1_orderOfGaps_29 (by decide) ?_
      refine lv_istore (lv' := [(9, .int 0), (8, .int 1), (0, .long a0), (2, .long a1), (4, .long a2), (6, .long a3)]) hx hb dX1_orderOfGaps_30 hl (by decide) rfl (fun ls hl => ?_)
      refine lv_iload hx hb dX1_orderOfGaps_32 (lv_at hl 1 rfl) ?_
      refine my_if_eq (tgt := 41) hx hb dX1_orderOfGaps_34 (by decide) (fun c66 => ?_) (fun c66 => ?_)
      · rw [if_pos c66] at hf
        refine lv_lload_n hx hb dX1_orderOfGaps_41 rfl (lv_at hl 2 rfl) ?_
        refine lv_iload hx hb dX1_orderOfGaps_42 (lv_at hl 1 rfl) ?_
        refine my_if_eq (tgt := 51) hx hb dX1_orderOfGaps_44 (by decide) (fun c67 => ?_) (fun c67 => ?_)
        · rw [if_pos c67] at hf
          refine lv_lload_n hx hb dX1_orderOfGaps_51 rfl (lv_at hl 3 rfl) ?_
          refine my_callPl (As := [.long a1]) (rest := [.long a0]) ⟨hx, hb, hml, hown, hts⟩ (m_X0_opposite l a1 _ rfl) gX1_orderOfGaps_X0_opposite rfl ⟨rfl, rfl⟩ (by decide +kernel) ⟨Nat.le_of_ble_eq_true rfl, Nat.le_of_ble_eq_true rfl⟩ ⟨Nat.le_of_ble_eq_true rfl, Nat.le_of_ble_eq_true rfl⟩ hl.1 rfl rfl (Nat.le_of_ble_eq_true rfl) dX1_orderOfGaps_52 ?_
          refine lv_iload hx hb dX1_orderOfGaps_55 (lv_at hl 0 rfl) ?_
          refine my_if_eq (tgt := 65) hx hb dX1_orderOfGaps_57 (by decide) (fun c68 => ?_) (fun c68 => ?_)
          · rw [if_pos c68] at hf
            refine lv_lload hx hb dX1_orderOfGaps_65 (lv_at hl 4 rfl) ?_
            refine my_callPl (As := [.long a2]) (rest := [.long (f_X0_opposite a1), .long a0]) ⟨hx, hb, hml, hown, hts⟩ (m_X0_opposite l a2 _ rfl) gX1_orderOfGaps_X0_opposite rfl ⟨rfl, rfl⟩ (by decide +kernel) ⟨Nat.le_of_ble_eq_true rfl, Nat.le_of_ble_eq_true rfl⟩ ⟨Nat.le_of_ble_eq_true rfl, Nat.le_of_ble_eq_true rfl⟩ hl.1 rfl rfl (Nat.le_of_ble_eq_true rfl) dX1_orderOfGaps_67 ?_
            refine lv_iload hx hb dX1_orderOfGaps_70 (lv_at hl 0 rfl) ?_
            refine my_if_eq (tgt := 80) hx hb dX1_orderOfGaps_72 (by decide) (fun c69 => ?_) (fun c69 => ?_)
            · rw [if_pos c69] at hf
              refine lv_lload hx hb dX1_orderOfGaps_80 (lv_at hl 5 rfl) ?_
              obtain ⟨r70, er70, hf⟩ := ob_e hf
              refine my_callPi (As := [.long a0, .long (f_X0_opposite a1), .long (f_X0_opposite a2), .long a3]) (rest := []) ⟨hx, hb, hml, hown, hts⟩ (m_X1_signOfSum l a0 (f_X0_opposite a1) (f_X0_opposite a2) a3 _ er70) gX1_orderOfGaps_X1_signOfSum rfl ⟨rfl, rfl⟩ (by decide +kernel) ⟨Nat.le_of_ble_eq_true rfl, Nat.le_of_ble_eq_true rfl⟩ ⟨Nat.le_of_ble_eq_true rfl, Nat.le_of_ble_eq_true rfl⟩ hl.1 rfl rfl (Nat.le_of_ble_eq_true rfl) dX1_orderOfGaps_82 ?_
              exact W.iret (v := r70) hx hb hr (fun t ht hW => ⟨_, rfl, Option.some.inj hf, ht⟩) (fun q hq => absurd hq List.not_mem_nil) dX1_orderOfGaps_85
            · rw [if_neg c69] at hf
              refine lv_lload hx hb dX1_orderOfGaps_75 (lv_at hl 4 rfl) ?_
              refine lv_goto (tgt := 82) hx hb dX1_orderOfGaps_77 (by decide) ?_
              obtain ⟨r71, er71, hf⟩ := ob_e hf
              refine my_callPi (As := [.long a0, .long (f_X0_opposite a1), .long (f_X0_opposite a2), .long a2]) (rest := []) ⟨hx, hb, hml, hown, hts⟩ (m_X1_signOfSum l a0 (f_X0_opposite a1) (f_X0_opposite a2) a2 _ er71) gX1_orderOfGaps_X1_signOfSum rfl ⟨rfl, rfl⟩ (by decide +kernel) ⟨Nat.le_of_ble_eq_true rfl, Nat.le_of_ble_eq_true rfl⟩ ⟨Nat.le_of_ble_eq_true rfl, Nat.le_of_ble_eq_true rfl⟩ hl.1 rfl rfl (Nat.le_of_ble_eq_true rfl) dX1_orderOfGaps_82 ?_
              exact W.iret (v := r71) hx hb hr (fun t ht hW => ⟨_, rfl, Option.some.inj hf, ht⟩) (fun q hq => absurd hq List.not_mem_nil) dX1_orderOfGaps_85
          · rw [if_neg c68] at hf
            refine lv_lload hx hb dX1_orderOfGaps_60 (lv_at hl 5 rfl) ?_
            refine lv_goto (tgt := 67) hx hb dX1_orderOfGaps_62 (by decide) ?_
            refine my_callPl (As := [.long a3]) (rest := [.long (f_X0_opposite a1), .long a0]) ⟨hx, hb, hml, hown, hts⟩ (m_X0_opposite l a3 _ rfl) gX1_orderOfGaps_X0_opposite rfl ⟨rfl, rfl⟩ (by decide +kernel) ⟨Nat.le_of_ble_eq_true rfl, Nat.le_of_ble_eq_true rfl⟩ ⟨Nat.le_of_ble_eq_true rfl, Nat.le_of_ble_eq_true rfl⟩ hl.1 rfl rfl (Nat.le_of_ble_eq_true rfl) dX1_orderOfGaps_67 ?_
            refine lv_iload hx hb dX1_orderOfGaps_70 (lv_at hl 0 rfl) ?_
            refine my_if_eq (tgt := 80) hx hb dX1_orderOfGaps_72 (by decide) (fun c72 => ?_) (fun c72 => ?_)
            · rw [if_pos c72] at hf
              refine lv_lload hx hb dX1_orderOfGaps_80 (lv_at hl 5 rfl) ?_
              obtain ⟨r73, er73, hf⟩ := ob_e hf
              refine my_callPi (As := [.long a0, .long (f_X0_opposite a1), .long (f_X0_opposite a3), .long a3]) (rest := []) ⟨hx, hb, hml, hown, hts⟩ (m_X1_signOfSum l a0 (f_X0_opposite a1) (f_X0_opposite a3) a3 _ er73) gX1_orderOfGaps_X1_signOfSum rfl ⟨rfl, rfl⟩ (by decide +kernel) ⟨Nat.le_of_ble_eq_true rfl, Nat.le_of_ble_eq_true rfl⟩ ⟨Nat.le_of_ble_eq_true rfl, Nat.le_of_ble_eq_true rfl⟩ hl.1 rfl rfl (Nat.le_of_ble_eq_true rfl) dX1_orderOfGaps_82 ?_
              exact W.iret (v := r73) hx hb hr (fun t ht hW => ⟨_, rfl, Option.some.inj hf, ht⟩) (fun q hq => absurd hq List.not_mem_nil) dX1_orderOfGaps_85
            · rw [if_neg c72] at hf
              refine lv_lload hx hb dX1_orderOfGaps_75 (lv_at hl 4 rfl) ?_
              refine lv_goto (tgt := 82) hx hb dX1_orderOfGaps_77 (by decide) ?_
              obtain ⟨r74, er74, hf⟩ := ob_e hf
              refine my_callPi (As := [.long a0, .long (f_X0_opposite a1), .long (f_X0_opposite a3), .long a2]) (rest := []) ⟨hx, hb, hml, hown, hts⟩ (m_X1_signOfSum l a0 (f_X0_opposite a1) (f_X0_opposite a3) a2 _ er74) gX1_orderOfGaps_X1_signOfSum rfl ⟨rfl, rfl⟩ (by decide +kernel) ⟨Nat.le_of_ble_eq_true rfl, Nat.le_of_ble_eq_true rfl⟩ ⟨Nat.le_of_ble_eq_true rfl, Nat.le_of_ble_eq_true rfl⟩ hl.1 rfl rfl (Nat.le_of_ble_eq_true rfl) dX1_orderOfGaps_82 ?_
              exact W.iret (v := r74) hx hb hr (fun t ht hW => ⟨_, rfl, Option.some.inj hf, ht⟩) (fun q hq => absurd hq List.not_mem_nil) dX1_orderOfGaps_85
        · rw [if_neg c67] at hf
          refine lv_lload_n hx hb dX1_orderOfGaps_47 rfl (lv_at hl 2 rfl) ?_
          refine lv_goto (tgt := 52) hx hb dX1_orderOfGaps_48 (by decide) ?_
          refine my_callPl (As := [.long a0]) (rest := [.long a0]) ⟨hx, hb, hml, hown, hts⟩ (m_X0_opposite l a0 _ rfl) gX1_orderOfGaps_X0_opposite rfl ⟨rfl, rfl⟩ (by decide +kernel) ⟨Nat.le_of_ble_eq_true rfl, Nat.le_of_ble_eq_true rfl⟩ ⟨Nat.le_of_ble_eq_true rfl, Nat.le_of_ble_eq_true rfl⟩ hl.1 rfl rfl (Nat.le_of_ble_eq_true rfl) dX1_orderOfGaps_52 ?_
          refine lv_iload hx hb dX1_orderOfGaps_55 (lv_at hl 0 rfl) ?_
          refine my_if_eq (tgt := 65) hx hb dX1_orderOfGaps_57 (by decide) (fun c75 => ?_) (fun c75 => ?_)
          · rw [if_pos c75] at hf
            refine lv_lload hx hb dX1_orderOfGaps_65 (lv_at hl 4 rfl) ?_
            refine my_callPl (As := [.long a2]) (rest := [.long (f_X0_opposite a0), .long a0]) ⟨hx, hb, hml, hown, hts⟩ (m_X0_opposite l a2 _ rfl) gX1_orderOfGaps_X0_opposite rfl ⟨rfl, rfl⟩ (by decide +kernel) ⟨Nat.le_of_ble_eq_true rfl, Nat.le_of_ble_eq_true rfl⟩ ⟨Nat.le_of_ble_eq_true rfl, Nat.le_of_ble_eq_true rfl⟩ hl.1 rfl rfl (Nat.le_of_ble_eq_true rfl) dX1_orderOfGaps_67 ?_
            refine lv_iload hx hb dX1_orderOfGaps_70 (lv_at hl 0 rfl) ?_
            refine my_if_eq (tgt := 80) hx hb dX1_orderOfGaps_72 (by decide) (fun c76 => ?_) (fun c76 => ?_)
            · rw [if_pos c76] at hf
              refine lv_lload hx hb dX1_orderOfGaps_80 (lv_at hl 5 rfl) ?_
              obtain ⟨r77, er77, hf⟩ := ob_e hf
              refine my_callPi (As := [.long a0, .long (f_X0_opposite a0), .long (f_X0_opposite a2), .long a3]) (rest := []) ⟨hx, hb, hml, hown, hts⟩ (m_X1_signOfSum l a0 (f_X0_opposite a0) (f_X0_opposite a2) a3 _ er77) gX1_orderOfGaps_X1_signOfSum rfl ⟨rfl, rfl⟩ (by decide +kernel) ⟨Nat.le_of_ble_eq_true rfl, Nat.le_of_ble_eq_true rfl⟩ ⟨Nat.le_of_ble_eq_true rfl, Nat.le_of_ble_eq_true rfl⟩ hl.1 rfl rfl (Nat.le_of_ble_eq_true rfl) dX1_orderOfGaps_82 ?_
              exact W.iret (v := r77) hx hb hr (fun t ht hW => ⟨_, rfl, Option.some.inj hf, ht⟩) (fun q hq => absurd hq List.not_mem_nil) dX1_orderOfGaps_85
            · rw [if_neg c76] at hf
              refine lv_lload hx hb dX1_orderOfGaps_75 (lv_at hl 4 rfl) ?_
              refine lv_goto (tgt := 82) hx hb dX1_orderOfGaps_77 (by decide) ?_
              obtain ⟨r78, er78, hf⟩ := ob_e hf
              refine my_callPi (As := [.long a0, .long (f_X0_opposite a0), .long (f_X0_opposite a2), .long a2]) (rest := []) ⟨hx, hb, hml, hown, hts⟩ (m_X1_signOfSum l a0 (f_X0_opposite a0) (f_X0_opposite a2) a2 _ er78) gX1_orderOfGaps_X1_signOfSum rfl ⟨rfl, rfl⟩ (by decide +kernel) ⟨Nat.le_of_ble_eq_true rfl, Nat.le_of_ble_eq_true rfl⟩ ⟨Nat.le_of_ble_eq_true rfl, Nat.le_of_ble_eq_true rfl⟩ hl.1 rfl rfl (Nat.le_of_ble_eq_true rfl) dX1_orderOfGaps_82 ?_
              exact W.iret (v := r78) hx hb hr (fun t ht hW => ⟨_, rfl, Option.some.inj hf, ht⟩) (fun q hq => absurd hq List.not_mem_nil) dX1_orderOfGaps_85
          · rw [if_neg c75] at hf
            refine lv_lload hx hb dX1_orderOfGaps_60 (lv_at hl 5 rfl) ?_
            refine lv_goto (tgt := 67) hx hb dX1_orderOfGaps_62 (by decide) ?_
            refine my_callPl (As := [.long a3]) (rest := [.long (f_X0_opposite a0), .long a0]) ⟨hx, hb, hml, hown, hts⟩ (m_X0_opposite l a3 _ rfl) gX1_orderOfGaps_X0_opposite rfl ⟨rfl, rfl⟩ (by decide +kernel) ⟨Nat.le_of_ble_eq_true rfl, Nat.le_of_ble_eq_true rfl⟩ ⟨Nat.le_of_ble_eq_true rfl, Nat.le_of_ble_eq_true rfl⟩ hl.1 rfl rfl (Nat.le_of_ble_eq_true rfl) dX1_orderOfGaps_67 ?_
            refine lv_iload hx hb dX1_orderOfGaps_70 (lv_at hl 0 rfl) ?_
            refine my_if_eq (tgt := 80) hx hb dX1_orderOfGaps_72 (by decide) (fun c79 => ?_) (fun c79 => ?_)
            · rw [if_pos c79] at hf
              refine lv_lload hx hb dX1_orderOfGaps_80 (lv_at hl 5 rfl) ?_
              obtain ⟨r80, er80, hf⟩ := ob_e hf
              refine my_callPi (As := [.long a0, .long (f_X0_opposite a0), .long (f_X0_opposite a3), .long a3]) (rest := []) ⟨hx, hb, hml, hown, hts⟩ (m_X1_signOfSum l a0 (f_X0_opposite a0) (f_X0_opposite a3) a3 _ er80) gX1_orderOfGaps_X1_signOfSum rfl ⟨rfl, rfl⟩ (by decide +kernel) ⟨Nat.le_of_ble_eq_true rfl, Nat.le_of_ble_eq_true rfl⟩ ⟨Nat.le_of_ble_eq_true rfl, Nat.le_of_ble_eq_true rfl⟩ hl.1 rfl rfl (Nat.le_of_ble_eq_true rfl) dX1_orderOfGaps_82 ?_
              exact W.iret (v := r80) hx hb hr (fun t ht hW => ⟨_, rfl, Option.some.inj hf, ht⟩) (fun q hq => absurd hq List.not_mem_nil) dX1_orderOfGaps_85
            · rw [if_neg c79] at hf
              refine lv_lload hx hb dX1_orderOfGaps_75 (lv_at hl 4 rfl) ?_
              refine lv_goto (tgt := 82) hx hb dX1_orderOfGaps_77 (by decide) ?_
              obtain ⟨r81, er81, hf⟩ := ob_e hf
              refine my_callPi (As := [.long a0, .long (f_X0_opposite a0), .long (f_X0_opposite a3), .long a2]) (rest := []) ⟨hx, hb, hml, hown, hts⟩ (m_X1_signOfSum l a0 (f_X0_opposite a0) (f_X0_opposite a3) a2 _ er81) gX1_orderOfGaps_X1_signOfSum rfl ⟨rfl, rfl⟩ (by decide +kernel) ⟨Nat.le_of_ble_eq_true rfl, Nat.le_of_ble_eq_true rfl⟩ ⟨Nat.le_of_ble_eq_true rfl, Nat.le_of_ble_eq_true rfl⟩ hl.1 rfl rfl (Nat.le_of_ble_eq_true rfl) dX1_orderOfGaps_82 ?_
              exact W.iret (v := r81) hx hb hr (fun t ht hW => ⟨_, rfl, Option.some.inj hf, ht⟩) (fun q hq => absurd hq List.not_mem_nil) dX1_orderOfGaps_85
      · rw [if_neg c66] at hf
        refine lv_lload_n hx hb dX1_orderOfGaps_37 rfl (lv_at hl 3 rfl) ?_
        refine lv_goto (tgt := 42) hx hb dX1_orderOfGaps_38 (by decide) ?_
        refine lv_iload hx hb dX1_orderOfGaps_42 (lv_at hl 1 rfl) ?_
        refine my_if_eq (tgt := 51) hx hb dX1_orderOfGaps_44 (by decide) (fun c82 => ?_) (fun c82 => ?_)
        · rw [if_pos c82] at hf
          refine lv_lload_n hx hb dX1_orderOfGaps_51 rfl (lv_at hl 3 rfl) ?_
          refine my_callPl (As := [.long a1]) (rest := [.long a1]) ⟨hx, hb, hml, hown, hts⟩ (m_X0_opposite l a1 _ rfl) gX1_orderOfGaps_X0_opposite rfl ⟨rfl, rfl⟩ (by decide +kernel) ⟨Nat.le_of_ble_eq_true rfl, Nat.le_of_ble_eq_true rfl⟩ ⟨Nat.le_of_ble_eq_true rfl, Nat.le_of_ble_eq_true rfl⟩ hl.1 rfl rfl (Nat.le_of_ble_eq_true rfl) dX1_orderOfGaps_52 ?_
          refine lv_iload hx hb dX1_orderOfGaps_55 (lv_at hl 0 rfl) ?_
          refine my_if_eq (tgt := 65) hx hb dX1_orderOfGaps_57 (by decide) (fun c83 => ?_) (fun c83 => ?_)
          · rw [if_pos c83] at hf
            refine lv_lload hx hb dX1_orderOfGaps_65 (lv_at hl 4 rfl) ?_
            refine my_callPl (As := [.long a2]) (rest := [.long (f_X0_opposite a1), .long a1]) ⟨hx, hb, hml, hown, hts⟩ (m_X0_opposite l a2 _ rfl) gX1_orderOfGaps_X0_opposite rfl ⟨rfl, rfl⟩ (by decide +kernel) ⟨Nat.le_of_ble_eq_true rfl, Nat.le_of_ble_eq_true rfl⟩ ⟨Nat.le_of_ble_eq_true rfl, Nat.le_of_ble_eq_true rfl⟩ hl.1 rfl rfl (Nat.le_of_ble_eq_true rfl) dX1_orderOfGaps_67 ?_
            refine lv_iload hx hb dX1_orderOfGaps_70 (lv_at hl 0 rfl) ?_
            refine my_if_eq (tgt := 80) hx hb dX1_orderOfGaps_72 (by decide) (fun c84 => ?_) (fun c84 => ?_)
            · rw [if_pos c84] at hf
              refine lv_lload hx hb dX1_orderOfGaps_80 (lv_at hl 5 rfl) ?_
              obtain ⟨r85, er85, hf⟩ := ob_e hf
              refine my_callPi (As := [.long a1, .long (f_X0_opposite a1), .long (f_X0_opposite a2), .long a3]) (rest := []) ⟨hx, hb, hml, hown, hts⟩ (m_X1_signOfSum l a1 (f_X0_opposite a1) (f_X0_opposite a2) a3 _ er85) gX1_orderOfGaps_X1_signOfSum rfl ⟨rfl, rfl⟩ (by decide +kernel) ⟨Nat.le_of_ble_eq_true rfl, Nat.le_of_ble_eq_true rfl⟩ ⟨Nat.le_of_ble_eq_true rfl, Nat.le_of_ble_eq_true rfl⟩ hl.1 rfl rfl (Nat.le_of_ble_eq_true rfl) dX1_orderOfGaps_82 ?_
              exact W.iret (v := r85) hx hb hr (fun t ht hW => ⟨_, rfl, Option.some.inj hf, ht⟩) (fun q hq => absurd hq List.not_mem_nil) dX1_orderOfGaps_85
            · rw [if_neg c84] at hf
              refine lv_lload hx hb dX1_orderOfGaps_75 (lv_at hl 4 rfl) ?_
              refine lv_goto (tgt := 82) hx hb dX1_orderOfGaps_77 (by decide) ?_
              obtain ⟨r86, er86, hf⟩ := ob_e hf
              refine my_callPi (As := [.long a1, .long (f_X0_opposite a1), .long (f_X0_opposite a2), .long a2]) (rest := []) ⟨hx, hb, hml, hown, hts⟩ (m_X1_signOfSum l a1 (f_X0_opposite a1) (f_X0_opposite a2) a2 _ er86) gX1_orderOfGaps_X1_signOfSum rfl ⟨rfl, rfl⟩ (by decide +kernel) ⟨Nat.le_of_ble_eq_true rfl, Nat.le_of_ble_eq_true rfl⟩ ⟨Nat.le_of_ble_eq_true rfl, Nat.le_of_ble_eq_true rfl⟩ hl.1 rfl rfl (Nat.le_of_ble_eq_true rfl) dX1_orderOfGaps_82 ?_
              exact W.iret (v := r86) hx hb hr (fun t ht hW => ⟨_, rfl, Option.some.inj hf, ht⟩) (fun q hq => absurd hq List.not_mem_nil) dX1_orderOfGaps_85
          · rw [if_neg c83] at hf
            refine lv_lload hx hb dX1_orderOfGaps_60 (lv_at hl 5 rfl) ?_
            refine lv_goto (tgt := 67) hx hb dX1_orderOfGaps_62 (by decide) ?_
            refine my_callPl (As := [.long a3]) (rest := [.long (f_X0_opposite a1), .long a1]) ⟨hx, hb, hml, hown, hts⟩ (m_X0_opposite l a3 _ rfl) gX1_orderOfGaps_X0_opposite rfl ⟨rfl, rfl⟩ (by decide +kernel) ⟨Nat.le_of_ble_eq_true rfl, Nat.le_of_ble_eq_true rfl⟩ ⟨Nat.le_of_ble_eq_true rfl, Nat.le_of_ble_eq_true rfl⟩ hl.1 rfl rfl (Nat.le_of_ble_eq_true rfl) dX1_orderOfGaps_67 ?_
            refine lv_iload hx hb dX1_orderOfGaps_70 (lv_at hl 0 rfl) ?_
            refine my_if_eq (tgt := 80) hx hb dX1_orderOfGaps_72 (by decide) (fun c87 => ?_) (fun c87 => ?_)
            · rw [if_pos c87] at hf
              refine lv_lload hx hb dX1_orderOfGaps_80 (lv_at hl 5 rfl) ?_
              obtain ⟨r88, er88, hf⟩ := ob_e hf
              refine my_callPi (As := [.long a1, .long (f_X0_opposite a1), .long (f_X0_opposite a3), .long a3]) (rest := []) ⟨hx, hb, hml, hown, hts⟩ (m_X1_signOfSum l a1 (f_X0_opposite a1) (f_X0_opposite a3) a3 _ er88) gX1_orderOfGaps_X1_signOfSum rfl ⟨rfl, rfl⟩ (by decide +kernel) ⟨Nat.le_of_ble_eq_true rfl, Nat.le_of_ble_eq_true rfl⟩ ⟨Nat.le_of_ble_eq_true rfl, Nat.le_of_ble_eq_true rfl⟩ hl.1 rfl rfl (Nat.le_of_ble_eq_true rfl) dX1_orderOfGaps_82 ?_
              exact W.iret (v := r88) hx hb hr (fun t ht hW => ⟨_, rfl, Option.some.inj hf, ht⟩) (fun q hq => absurd hq List.not_mem_nil) dX1_orderOfGaps_85
            · rw [if_neg c87] at hf
              refine lv_lload hx hb dX1_orderOfGaps_75 (lv_at hl 4 rfl) ?_
              refine lv_goto (tgt := 82) hx hb dX1_orderOfGaps_77 (by decide) ?_
              obtain ⟨r89, er89, hf⟩ := ob_e hf
              refine my_callPi (As := [.long a1, .long (f_X0_opposite a1), .long (f_X0_opposite a3), .long a2]) (rest := []) ⟨hx, hb, hml, hown, hts⟩ (m_X1_signOfSum l a1 (f_X0_opposite a1) (f_X0_opposite a3) a2 _ er89) gX1_orderOfGaps_X1_signOfSum rfl ⟨rfl, rfl⟩ (by decide +kernel) ⟨Nat.le_of_ble_eq_true rfl, Nat.le_of_ble_eq_true rfl⟩ ⟨Nat.le_of_ble_eq_true rfl, Nat.le_of_ble_eq_true rfl⟩ hl.1 rfl rfl (Nat.le_of_ble_eq_true rfl) dX1_orderOfGaps_82 ?_
              exact W.iret (v := r89) hx hb hr (fun t ht hW => ⟨_, rfl, Option.some.inj hf, ht⟩) (fun q hq => absurd hq List.not_mem_nil) dX1_orderOfGaps_85
        · rw [if_neg c82] at hf
          refine lv_lload_n hx hb dX1_orderOfGaps_47 rfl (lv_at hl 2 rfl) ?_
          refine lv_goto (tgt := 52) hx hb dX1_orderOfGaps_48 (by decide) ?_
          refine my_callPl (As := [.long a0]) (rest := [.long a1]) ⟨hx, hb, hml, hown, hts⟩ (m_X0_opposite l a0 _ rfl) gX1_orderOfGaps_X0_opposite rfl ⟨rfl, rfl⟩ (by decide +kernel) ⟨Nat.le_of_ble_eq_true rfl, Nat.le_of_ble_eq_true rfl⟩ ⟨Nat.le_of_ble_eq_true rfl, Nat.le_of_ble_eq_true rfl⟩ hl.1 rfl rfl (Nat.le_of_ble_eq_true rfl) dX1_orderOfGaps_52 ?_
          refine lv_iload hx hb dX1_orderOfGaps_55 (lv_at hl 0 rfl) ?_
          refine my_if_eq (tgt := 65) hx hb dX1_orderOfGaps_57 (by decide) (fun c90 => ?_) (fun c90 => ?_)
          · rw [if_pos c90] at hf
            refine lv_lload hx hb dX1_orderOfGaps_65 (lv_at hl 4 rfl) ?_
            refine my_callPl (As := [.long a2]) (rest := [.long (f_X0_opposite a0), .long a1]) ⟨hx, hb, hml, hown, hts⟩ (m_X0_opposite l a2 _ rfl) gX1_orderOfGaps_X0_opposite rfl ⟨rfl, rfl⟩ (by decide +kernel) ⟨Nat.le_of_ble_eq_true rfl, Nat.le_of_ble_eq_true rfl⟩ ⟨Nat.le_of_ble_eq_true rfl, Nat.le_of_ble_eq_true rfl⟩ hl.1 rfl rfl (Nat.le_of_ble_eq_true rfl) dX1_orderOfGaps_67 ?_
            refine lv_iload hx hb dX1_orderOfGaps_70 (lv_at hl 0 rfl) ?_
            refine my_if_eq (tgt := 80) hx hb dX1_orderOfGaps_72 (by decide) (fun c91 => ?_) (fun c91 => ?_)
            · rw [if_pos c91] at hf
              refine lv_lload hx hb dX1_orderOfGaps_80 (lv_at hl 5 rfl) ?_
              obtain ⟨r92, er92, hf⟩ := ob_e hf
              refine my_callPi (As := [.long a1, .long (f_X0_opposite a0), .long (f_X0_opposite a2), .long a3]) (rest := []) ⟨hx, hb, hml, hown, hts⟩ (m_X1_signOfSum l a1 (f_X0_opposite a0) (f_X0_opposite a2) a3 _ er92) gX1_orderOfGaps_X1_signOfSum rfl ⟨rfl, rfl⟩ (by decide +kernel) ⟨Nat.le_of_ble_eq_true rfl, Nat.le_of_ble_eq_true rfl⟩ ⟨Nat.le_of_ble_eq_true rfl, Nat.le_of_ble_eq_true rfl⟩ hl.1 rfl rfl (Nat.le_of_ble_eq_true rfl) dX1_orderOfGaps_82 ?_
              exact W.iret (v := r92) hx hb hr (fun t ht hW => ⟨_, rfl, Option.some.inj hf, ht⟩) (fun q hq => absurd hq List.not_mem_nil) dX1_orderOfGaps_85
            · rw [if_neg c91] at hf
              refine lv_lload hx hb dX1_orderOfGaps_75 (lv_at hl 4 rfl) ?_
              refine lv_goto (tgt := 82) hx hb dX1_orderOfGaps_77 (by decide) ?_
              obtain ⟨r93, er93, hf⟩ := ob_e hf
              refine my_callPi (As := [.long a1, .long (f_X0_opposite a0), .long (f_X0_opposite a2), .long a2]) (rest := []) ⟨hx, hb, hml, hown, hts⟩ (m_X1_signOfSum l a1 (f_X0_opposite a0) (f_X0_opposite a2) a2 _ er93) gX1_orderOfGaps_X1_signOfSum rfl ⟨rfl, rfl⟩ (by decide +kernel) ⟨Nat.le_of_ble_eq_true rfl, Nat.le_of_ble_eq_true rfl⟩ ⟨Nat.le_of_ble_eq_true rfl, Nat.le_of_ble_eq_true rfl⟩ hl.1 rfl rfl (Nat.le_of_ble_eq_true rfl) dX1_orderOfGaps_82 ?_
              exact W.iret (v := r93) hx hb hr (fun t ht hW => ⟨_, rfl, Option.some.inj hf, ht⟩) (fun q hq => absurd hq List.not_mem_nil) dX1_orderOfGaps_85
          · rw [if_neg c90] at hf
            refine lv_lload hx hb dX1_orderOfGaps_60 (lv_at hl 5 rfl) ?_
            refine lv_goto (tgt := 67) hx hb dX1_orderOfGaps_62 (by decide) ?_
            refine my_callPl (As := [.long a3]) (rest := [.long (f_X0_opposite a0), .long a1]) ⟨hx, hb, hml, hown, hts⟩ (m_X0_opposite l a3 _ rfl) gX1_orderOfGaps_X0_opposite rfl ⟨rfl, rfl⟩ (by decide +kernel) ⟨Nat.le_of_ble_eq_true rfl, Nat.le_of_ble_eq_true rfl⟩ ⟨Nat.le_of_ble_eq_true rfl, Nat.le_of_ble_eq_true rfl⟩ hl.1 rfl rfl (Nat.le_of_ble_eq_true rfl) dX1_orderOfGaps_67 ?_
            refine lv_iload hx hb dX1_orderOfGaps_70 (lv_at hl 0 rfl) ?_
            refine my_if_eq (tgt := 80) hx hb dX1_orderOfGaps_72 (by decide) (fun c94 => ?_) (fun c94 => ?_)
            · rw [if_pos c94] at hf
              refine lv_lload hx hb dX1_orderOfGaps_80 (lv_at hl 5 rfl) ?_
              obtain ⟨r95, er95, hf⟩ := ob_e hf
              refine my_callPi (As := [.long a1, .long (f_X0_opposite a0), .long (f_X0_opposite a3), .long a3]) (rest := []) ⟨hx, hb, hml, hown, hts⟩ (m_X1_signOfSum l a1 (f_X0_opposite a0) (f_X0_opposite a3) a3 _ er95) gX1_orderOfGaps_X1_signOfSum rfl ⟨rfl, rfl⟩ (by decide +kernel) ⟨Nat.le_of_ble_eq_true rfl, Nat.le_of_ble_eq_true rfl⟩ ⟨Nat.le_of_ble_eq_true rfl, Nat.le_of_ble_eq_true rfl⟩ hl.1 rfl rfl (Nat.le_of_ble_eq_true rfl) dX1_orderOfGaps_82 ?_
              exact W.iret (v := r95) hx hb hr (fun t ht hW => ⟨_, rfl, Option.some.inj hf, ht⟩) (fun q hq => absurd hq List.not_mem_nil) dX1_orderOfGaps_85
            · rw [if_neg c94] at hf
              refine lv_lload hx hb dX1_orderOfGaps_75 (lv_at hl 4 rfl) ?_
              refine lv_goto (tgt := 82) hx hb dX1_orderOfGaps_77 (by decide) ?_
              obtain ⟨r96, er96, hf⟩ := ob_e hf
              refine my_callPi (As := [.long a1, .long (f_X0_opposite a0), .long (f_X0_opposite a3), .long a2]) (rest := []) ⟨hx, hb, hml, hown, hts⟩ (m_X1_signOfSum l a1 (f_X0_opposite a0) (f_X0_opposite a3) a2 _ er96) gX1_orderOfGaps_X1_signOfSum rfl ⟨rfl, rfl⟩ (by decide +kernel) ⟨Nat.le_of_ble_eq_true rfl, Nat.le_of_ble_eq_true rfl⟩ ⟨Nat.le_of_ble_eq_true rfl, Nat.le_of_ble_eq_true rfl⟩ hl.1 rfl rfl (Nat.le_of_ble_eq_true rfl) dX1_orderOfGaps_82 ?_
              exact W.iret (v := r96) hx hb hr (fun t ht hW => ⟨_, rfl, Option.some.inj hf, ht⟩) (fun q hq => absurd hq List.not_mem_nil) dX1_orderOfGaps_85
    · rw [if_pos c65] at hf
      refine lv_iconst (v := 1) hx hb dX1_orderOfGaps_25 (by decide) ?_
      refine lv_goto (tgt := 30) hx hb dX1_orderOfGaps_26 (by decide) ?_
      refine lv_istore (lv' := [(9, .int 1), (8, .int 1), (0, .long a0), (2, .long a1), (4, .long a2), (6, .long a3)]) hx hb dX1_orderOfGaps_30 hl (by decide) rfl (fun ls hl => ?_)
      refine lv_iload hx hb dX1_orderOfGaps_32 (lv_at hl 1 rfl) ?_
      refine my_if_eq (tgt := 41) hx hb dX1_orderOfGaps_34 (by decide) (fun c97 => ?_) (fun c97 => ?_)
      · rw [if_pos c97] at hf
        refine lv_lload_n hx hb dX1_orderOfGaps_41 rfl (lv_at hl 2 rfl) ?_
        refine lv_iload hx hb dX1_orderOfGaps_42 (lv_at hl 1 rfl) ?_
        refine my_if_eq (tgt := 51) hx hb dX1_orderOfGaps_44 (by decide) (fun c98 => ?_) (fun c98 => ?_)
        · rw [if_pos c98] at hf
          refine lv_lload_n hx hb dX1_orderOfGaps_51 rfl (lv_at hl 3 rfl) ?_
          refine my_callPl (As := [.long a1]) (rest := [.long a0]) ⟨hx, hb, hml, hown, hts⟩ (m_X0_opposite l a1 _ rfl) gX1_orderOfGaps_X0_opposite rfl ⟨rfl, rfl⟩ (by decide +kernel) ⟨Nat.le_of_ble_eq_true rfl, Nat.le_of_ble_eq_true rfl⟩ ⟨Nat.le_of_ble_eq_true rfl, Nat.le_of_ble_eq_true rfl⟩ hl.1 rfl rfl (Nat.le_of_ble_eq_true rfl) dX1_orderOfGaps_52 ?_
          refine lv_iload hx hb dX1_orderOfGaps_55 (lv_at hl 0 rfl) ?_
          refine my_if_eq (tgt := 65) hx hb dX1_orderOfGaps_57 (by decide) (fun c99 => ?_) (fun c99 => ?_)
          · rw [if_pos c99] at hf
            refine lv_lload hx hb dX1_orderOfGaps_65 (lv_at hl 4 rfl) ?_
            refine my_callPl (As := [.long a2]) (rest := [.long (f_X0_opposite a1), .long a0]) ⟨hx, hb, hml, hown, hts⟩ (m_X0_opposite l a2 _ rfl) gX1_orderOfGaps_X0_opposite rfl ⟨rfl, rfl⟩ (by decide +kernel) ⟨Nat.le_of_ble_eq_true rfl, Nat.le_of_ble_eq_true rfl⟩ ⟨Nat.le_of_ble_eq_true rfl, Nat.le_of_ble_eq_true rfl⟩ hl.1 rfl rfl (Nat.le_of_ble_eq_true rfl) dX1_orderOfGaps_67 ?_
            refine lv_iload hx hb dX1_orderOfGaps_70 (lv_at hl 0 rfl) ?_
            refine my_if_eq (tgt := 80) hx hb dX1_orderOfGaps_72 (by decide) (fun c100 => ?_) (fun c100 => ?_)
            · rw [if_pos c100] at hf
              refine lv_lload hx hb dX1_orderOfGaps_80 (lv_at hl 5 rfl) ?_
              obtain ⟨r101, er101, hf⟩ := ob_e hf
              refine my_callPi (As := [.long a0, .long (f_X0_opposite a1), .long (f_X0_opposite a2), .long a3]) (rest := []) ⟨hx, hb, hml, hown, hts⟩ (m_X1_signOfSum l a0 (f_X0_opposite a1) (f_X0_opposite a2) a3 _ er101) gX1_orderOfGaps_X1_signOfSum rfl ⟨rfl, rfl⟩ (by decide +kernel) ⟨Nat.le_of_ble_eq_true rfl, Nat.le_of_ble_eq_true rfl⟩ ⟨Nat.le_of_ble_eq_true rfl, Nat.le_of_ble_eq_true rfl⟩ hl.1 rfl rfl (Nat.le_of_ble_eq_true rfl) dX1_orderOfGaps_82 ?_
              exact W.iret (v := r101) hx hb hr (fun t ht hW => ⟨_, rfl, Option.some.inj hf, ht⟩) (fun q hq => absurd hq List.not_mem_nil) dX1_orderOfGaps_85
            · rw [if_neg c100] at hf
              refine lv_lload hx hb dX1_orderOfGaps_75 (lv_at hl 4 rfl) ?_
              refine lv_goto (tgt := 82) hx hb dX1_orderOfGaps_77 (by decide) ?_
              obtain ⟨r102, er102, hf⟩ := ob_e hf
              refine my_callPi (As := [.long a0, .long (f_X0_opposite a1), .long (f_X0_opposite a2), .long a2]) (rest := []) ⟨hx, hb, hml, hown, hts⟩ (m_X1_signOfSum l a0 (f_X0_opposite a1) (f_X0_opposite a2) a2 _ er102) gX1_orderOfGaps_X1_signOfSum rfl ⟨rfl, rfl⟩ (by decide +kernel) ⟨Nat.le_of_ble_eq_true rfl, Nat.le_of_ble_eq_true rfl⟩ ⟨Nat.le_of_ble_eq_true rfl, Nat.le_of_ble_eq_true rfl⟩ hl.1 rfl rfl (Nat.le_of_ble_eq_true rfl) dX1_orderOfGaps_82 ?_
              exact W.iret (v := r102) hx hb hr (fun t ht hW => ⟨_, rfl, Option.some.inj hf, ht⟩) (fun q hq => absurd hq List.not_mem_nil) dX1_orderOfGaps_85
          · rw [if_neg c99] at hf
            refine lv_lload hx hb dX1_orderOfGaps_60 (lv_at hl 5 rfl) ?_
            refine lv_goto (tgt := 67) hx hb dX1_orderOfGaps_62 (by decide) ?_
            refine my_callPl (As := [.long a3]) (rest := [.long (f_X0_opposite a1), .long a0]) ⟨hx, hb, hml, hown, hts⟩ (m_X0_opposite l a3 _ rfl) gX1_orderOfGaps_X0_opposite rfl ⟨rfl, rfl⟩ (by decide +kernel) ⟨Nat.le_of_ble_eq_true rfl, Nat.le_of_ble_eq_true rfl⟩ ⟨Nat.le_of_ble_eq_true rfl, Nat.le_of_ble_eq_true rfl⟩ hl.1 rfl rfl (Nat.le_of_ble_eq_true rfl) dX1_orderOfGaps_67 ?_
            refine lv_iload hx hb dX1_orderOfGaps_70 (lv_at hl 0 rfl) ?_
            refine my_if_eq (tgt := 80) hx hb dX1_orderOfGaps_72 (by decide) (fun c103 => ?_) (fun c103 => ?_)
            · rw [if_pos c103] at hf
              refine lv_lload hx hb dX1_orderOfGaps_80 (lv_at hl 5 rfl) ?_
              obtain ⟨r104, er104, hf⟩ := ob_e hf
              refine my_callPi (As := [.long a0, .long (f_X0_opposite a1), .long (f_X0_opposite a3), .long a3]) (rest := []) ⟨hx, hb, hml, hown, hts⟩ (m_X1_signOfSum l a0 (f_X0_opposite a1) (f_X0_opposite a3) a3 _ er104) gX1_orderOfGaps_X1_signOfSum rfl ⟨rfl, rfl⟩ (by decide +kernel) ⟨Nat.le_of_ble_eq_true rfl, Nat.le_of_ble_eq_true rfl⟩ ⟨Nat.le_of_ble_eq_true rfl, Nat.le_of_ble_eq_true rfl⟩ hl.1 rfl rfl (Nat.le_of_ble_eq_true rfl) dX1_orderOfGaps_82 ?_
              exact W.iret (v := r104) hx hb hr (fun t ht hW => ⟨_, rfl, Option.some.inj hf, ht⟩) (fun q hq => absurd hq List.not_mem_nil) dX1_orderOfGaps_85
            · rw [if_neg c103] at hf
              refine lv_lload hx hb dX1_orderOfGaps_75 (lv_at hl 4 rfl) ?_
              refine lv_goto (tgt := 82) hx hb dX1_orderOfGaps_77 (by decide) ?_
              obtain ⟨r105, er105, hf⟩ := ob_e hf
              refine my_callPi (As := [.long a0, .long (f_X0_opposite a1), .long (f_X0_opposite a3), .long a2]) (rest := []) ⟨hx, hb, hml, hown, hts⟩ (m_X1_signOfSum l a0 (f_X0_opposite a1) (f_X0_opposite a3) a2 _ er105) gX1_orderOfGaps_X1_signOfSum rfl ⟨rfl, rfl⟩ (by decide +kernel) ⟨Nat.le_of_ble_eq_true rfl, Nat.le_of_ble_eq_true rfl⟩ ⟨Nat.le_of_ble_eq_true rfl, Nat.le_of_ble_eq_true rfl⟩ hl.1 rfl rfl (Nat.le_of_ble_eq_true rfl) dX1_orderOfGaps_82 ?_
              exact W.iret (v := r105) hx hb hr (fun t ht hW => ⟨_, rfl, Option.some.inj hf, ht⟩) (fun q hq => absurd hq List.not_mem_nil) dX1_orderOfGaps_85
        · rw [if_neg c98] at hf
          refine lv_lload_n hx hb dX1_orderOfGaps_47 rfl (lv_at hl 2 rfl) ?_
          refine lv_goto (tgt := 52) hx hb dX1_orderOfGaps_48 (by decide) ?_
          refine my_callPl (As := [.long a0]) (rest := [.long a0]) ⟨hx, hb, hml, hown, hts⟩ (m_X0_opposite l a0 _ rfl) gX1_orderOfGaps_X0_opposite rfl ⟨rfl, rfl⟩ (by decide +kernel) ⟨Nat.le_of_ble_eq_true rfl, Nat.le_of_ble_eq_true rfl⟩ ⟨Nat.le_of_ble_eq_true rfl, Nat.le_of_ble_eq_true rfl⟩ hl.1 rfl rfl (Nat.le_of_ble_eq_true rfl) dX1_orderOfGaps_52 ?_
          refine lv_iload hx hb dX1_orderOfGaps_55 (lv_at hl 0 rfl) ?_
          refine my_if_eq (tgt := 65) hx hb dX1_orderOfGaps_57 (by decide) (fun c106 => ?_) (fun c106 => ?_)
          · rw [if_pos c106] at hf
            refine lv_lload hx hb dX1_orderOfGaps_65 (lv_at hl 4 rfl) ?_
            refine my_callPl (As := [.long a2]) (rest := [.long (f_X0_opposite a0), .long a0]) ⟨hx, hb, hml, hown, hts⟩ (m_X0_opposite l a2 _ rfl) gX1_orderOfGaps_X0_opposite rfl ⟨rfl, rfl⟩ (by decide +kernel) ⟨Nat.le_of_ble_eq_true rfl, Nat.le_of_ble_eq_true rfl⟩ ⟨Nat.le_of_ble_eq_true rfl, Nat.le_of_ble_eq_true rfl⟩ hl.1 rfl rfl (Nat.le_of_ble_eq_true rfl) dX1_orderOfGaps_67 ?_
            refine lv_iload hx hb dX1_orderOfGaps_70 (lv_at hl 0 rfl) ?_
            refine my_if_eq (tgt := 80) hx hb dX1_orderOfGaps_72 (by decide) (fun c107 => ?_) (fun c107 => ?_)
            · rw [if_pos c107] at hf
              refine lv_lload hx hb dX1_orderOfGaps_80 (lv_at hl 5 rfl) ?_
              obtain ⟨r108, er108, hf⟩ := ob_e hf
              refine my_callPi (As := [.long a0, .long (f_X0_opposite a0), .long (f_X0_opposite a2), .long a3]) (rest := []) ⟨hx, hb, hml, hown, hts⟩ (m_X1_signOfSum l a0 (f_X0_opposite a0) (f_X0_opposite a2) a3 _ er108) gX1_orderOfGaps_X1_signOfSum rfl ⟨rfl, rfl⟩ (by decide +kernel) ⟨Nat.le_of_ble_eq_true rfl, Nat.le_of_ble_eq_true rfl⟩ ⟨Nat.le_of_ble_eq_true rfl, Nat.le_of_ble_eq_true rfl⟩ hl.1 rfl rfl (Nat.le_of_ble_eq_true rfl) dX1_orderOfGaps_82 ?_
              exact W.iret (v := r108) hx hb hr (fun t ht hW => ⟨_, rfl, Option.some.inj hf, ht⟩) (fun q hq => absurd hq List.not_mem_nil) dX1_orderOfGaps_85
            · rw [if_neg c107] at hf
              refine lv_lload hx hb dX1_orderOfGaps_75 (lv_at hl 4 rfl) ?_
              refine lv_goto (tgt := 82) hx hb dX1_orderOfGaps_77 (by decide) ?_
              obtain ⟨r109, er109, hf⟩ := ob_e hf
              refine my_callPi (As := [.long a0, .long (f_X0_opposite a0), .long (f_X0_opposite a2), .long a2]) (rest := []) ⟨hx, hb, hml, hown, hts⟩ (m_X1_signOfSum l a0 (f_X0_opposite a0) (f_X0_opposite a2) a2 _ er109) gX1_orderOfGaps_X1_signOfSum rfl ⟨rfl, rfl⟩ (by decide +kernel) ⟨Nat.le_of_ble_eq_true rfl, Nat.le_of_ble_eq_true rfl⟩ ⟨Nat.le_of_ble_eq_true rfl, Nat.le_of_ble_eq_true rfl⟩ hl.1 rfl rfl (Nat.le_of_ble_eq_true rfl) dX1_orderOfGaps_82 ?_
              exact W.iret (v := r109) hx hb hr (fun t ht hW => ⟨_, rfl, Option.some.inj hf, ht⟩) (fun q hq => absurd hq List.not_mem_nil) dX1_orderOfGaps_85
          · rw [if_neg c106] at hf
            refine lv_lload hx hb dX1_orderOfGaps_60 (lv_at hl 5 rfl) ?_
            refine lv_goto (tgt := 67) hx hb dX1_orderOfGaps_62 (by decide) ?_
            refine my_callPl (As := [.long a3]) (rest := [.long (f_X0_opposite a0), .long a0]) ⟨hx, hb, hml, hown, hts⟩ (m_X0_opposite l a3 _ rfl) gX1_orderOfGaps_X0_opposite rfl ⟨rfl, rfl⟩ (by decide +kernel) ⟨Nat.le_of_ble_eq_true rfl, Nat.le_of_ble_eq_true rfl⟩ ⟨Nat.le_of_ble_eq_true rfl, Nat.le_of_ble_eq_true rfl⟩ hl.1 rfl rfl (Nat.le_of_ble_eq_true rfl) dX1_orderOfGaps_67 ?_
            refine lv_iload hx hb dX1_orderOfGaps_70 (lv_at hl 0 rfl) ?_
            refine my_if_eq (tgt := 80) hx hb dX1_orderOfGaps_72 (by decide) (fun c110 => ?_) (fun c110 => ?_)
            · rw [if_pos c110] at hf
              refine lv_lload hx hb dX1_orderOfGaps_80 (lv_at hl 5 rfl) ?_
              obtain ⟨r111, er111, hf⟩ := ob_e hf
              refine my_callPi (As := [.long a0, .long (f_X0_opposite a0), .long (f_X0_opposite a3), .long a3]) (rest := []) ⟨hx, hb, hml, hown, hts⟩ (m_X1_signOfSum l a0 (f_X0_opposite a0) (f_X0_opposite a3) a3 _ er111) gX1_orderOfGaps_X1_signOfSum rfl ⟨rfl, rfl⟩ (by decide +kernel) ⟨Nat.le_of_ble_eq_true rfl, Nat.le_of_ble_eq_true rfl⟩ ⟨Nat.le_of_ble_eq_true rfl, Nat.le_of_ble_eq_true rfl⟩ hl.1 rfl rfl (Nat.le_of_ble_eq_true rfl) dX1_orderOfGaps_82 ?_
              exact W.iret (v := r111) hx hb hr (fun t ht hW => ⟨_, rfl, Option.some.inj hf, ht⟩) (fun q hq => absurd hq List.not_mem_nil) dX1_orderOfGaps_85
            · rw [if_neg c110] at hf
              refine lv_lload hx hb dX1_orderOfGaps_75 (lv_at hl 4 rfl) ?_
              refine lv_goto (tgt := 82) hx hb dX1_orderOfGaps_77 (by decide) ?_
              obtain ⟨r112, er112, hf⟩ := ob_e hf
              refine my_callPi (As := [.long a0, .long (f_X0_opposite a0), .long (f_X0_opposite a3), .long a2]) (rest := []) ⟨hx, hb, hml, hown, hts⟩ (m_X1_signOfSum l a0 (f_X0_opposite a0) (f_X0_opposite a3) a2 _ er112) gX1_orderOfGaps_X1_signOfSum rfl ⟨rfl, rfl⟩ (by decide +kernel) ⟨Nat.le_of_ble_eq_true rfl, Nat.le_of_ble_eq_true rfl⟩ ⟨Nat.le_of_ble_eq_true rfl, Nat.le_of_ble_eq_true rfl⟩ hl.1 rfl rfl (Nat.le_of_ble_eq_true rfl) dX1_orderOfGaps_82 ?_
              exact W.iret (v := r112) hx hb hr (fun t ht hW => ⟨_, rfl, Option.some.inj hf, ht⟩) (fun q hq => absurd hq List.not_mem_nil) dX1_orderOfGaps_85
      · rw [if_neg c97] at hf
        refine lv_lload_n hx hb dX1_orderOfGaps_37 rfl (lv_at hl 3 rfl) ?_
        refine lv_goto (tgt := 42) hx hb dX1_orderOfGaps_38 (by decide) ?_
        refine lv_iload hx hb dX1_orderOfGaps_42 (lv_at hl 1 rfl) ?_
        refine my_if_eq (tgt := 51) hx hb dX1_orderOfGaps_44 (by decide) (fun c113 => ?_) (fun c113 => ?_)
        · rw [if_pos c113] at hf
          refine lv_lload_n hx hb dX1_orderOfGaps_51 rfl (lv_at hl 3 rfl) ?_
          refine my_callPl (As := [.long a1]) (rest := [.long a1]) ⟨hx, hb, hml, hown, hts⟩ (m_X0_opposite l a1 _ rfl) gX1_orderOfGaps_X0_opposite rfl ⟨rfl, rfl⟩ (by decide +kernel) ⟨Nat.le_of_ble_eq_true rfl, Nat.le_of_ble_eq_true rfl⟩ ⟨Nat.le_of_ble_eq_true rfl, Nat.le_of_ble_eq_true rfl⟩ hl.1 rfl rfl (Nat.le_of_ble_eq_true rfl) dX1_orderOfGaps_52 ?_
          refine lv_iload hx hb dX1_orderOfGaps_55 (lv_at hl 0 rfl) ?_
          refine my_if_eq (tgt := 65) hx hb dX1_orderOfGaps_57 (by decide) (fun c114 => ?_) (fun c114 => ?_)
          · rw [if_pos c114] at hf
            refine lv_lload hx hb dX1_orderOfGaps_65 (lv_at hl 4 rfl) ?_
            refine my_callPl (As := [.long a2]) (rest := [.long (f_X0_opposite a1), .long a1]) ⟨hx, hb, hml, hown, hts⟩ (m_X0_opposite l a2 _ rfl) gX1_orderOfGaps_X0_opposite rfl ⟨rfl, rfl⟩ (by decide +kernel) ⟨Nat.le_of_ble_eq_true rfl, Nat.le_of_ble_eq_true rfl⟩ ⟨Nat.le_of_ble_eq_true rfl, Nat.le_of_ble_eq_true rfl⟩ hl.1 rfl rfl (Nat.le_of_ble_eq_true rfl) dX1_orderOfGaps_67 ?_
            refine lv_iload hx hb dX1_orderOfGaps_70 (lv_at hl 0 rfl) ?_
            refine my_if_eq (tgt := 80) hx hb dX1_orderOfGaps_72 (by decide) (fun c115 => ?_) (fun c115 => ?_)
            · rw [if_pos c115] at hf
              refine lv_lload hx hb dX1_orderOfGaps_80 (lv_at hl 5 rfl) ?_
              obtain ⟨r116, er116, hf⟩ := ob_e hf
              refine my_callPi (As := [.long a1, .long (f_X0_opposite a1), .long (f_X0_opposite a2), .long a3]) (rest := []) ⟨hx, hb, hml, hown, hts⟩ (m_X1_signOfSum l a1 (f_X0_opposite a1) (f_X0_opposite a2) a3 _ er116) gX1_orderOfGaps_X1_signOfSum rfl ⟨rfl, rfl⟩ (by decide +kernel) ⟨Nat.le_of_ble_eq_true rfl, Nat.le_of_ble_eq_true rfl⟩ ⟨Nat.le_of_ble_eq_true rfl, Nat.le_of_ble_eq_true rfl⟩ hl.1 rfl rfl (Nat.le_of_ble_eq_true rfl) dX1_orderOfGaps_82 ?_
              exact W.iret (v := r116) hx hb hr (fun t ht hW => ⟨_, rfl, Option.some.inj hf, ht⟩) (fun q hq => absurd hq List.not_mem_nil) dX1_orderOfGaps_85
            · rw [if_neg c115] at hf
              refine lv_lload hx hb dX1_orderOfGaps_75 (lv_at hl 4 rfl) ?_
              refine lv_goto (tgt := 82) hx hb dX1_orderOfGaps_77 (by decide) ?_
              obtain ⟨r117, er117, hf⟩ := ob_e hf
              refine my_callPi (As := [.long a1, .long (f_X0_opposite a1), .long (f_X0_opposite a2), .long a2]) (rest := []) ⟨hx, hb, hml, hown, hts⟩ (m_X1_signOfSum l a1 (f_X0_opposite a1) (f_X0_opposite a2) a2 _ er117) gX1_orderOfGaps_X1_signOfSum rfl ⟨rfl, rfl⟩ (by decide +kernel) ⟨Nat.le_of_ble_eq_true rfl, Nat.le_of_ble_eq_true rfl⟩ ⟨Nat.le_of_ble_eq_true rfl, Nat.le_of_ble_eq_true rfl⟩ hl.1 rfl rfl (Nat.le_of_ble_eq_true rfl) dX1_orderOfGaps_82 ?_
              exact W.iret (v := r117) hx hb hr (fun t ht hW => ⟨_, rfl, Option.some.inj hf, ht⟩) (fun q hq => absurd hq List.not_mem_nil) dX1_orderOfGaps_85
          · rw [if_neg c114] at hf
            refine lv_lload hx hb dX1_orderOfGaps_60 (lv_at hl 5 rfl) ?_
            refine lv_goto (tgt := 67) hx hb dX1_orderOfGaps_62 (by decide) ?_
            refine my_callPl (As := [.long a3]) (rest := [.long (f_X0_opposite a1), .long a1]) ⟨hx, hb, hml, hown, hts⟩ (m_X0_opposite l a3 _ rfl) gX1_orderOfGaps_X0_opposite rfl ⟨rfl, rfl⟩ (by decide +kernel) ⟨Nat.le_of_ble_eq_true rfl, Nat.le_of_ble_eq_true rfl⟩ ⟨Nat.le_of_ble_eq_true rfl, Nat.le_of_ble_eq_true rfl⟩ hl.1 rfl rfl (Nat.le_of_ble_eq_true rfl) dX1_orderOfGaps_67 ?_
            refine lv_iload hx hb dX1_orderOfGaps_70 (lv_at hl 0 rfl) ?_
            refine my_if_eq (tgt := 80) hx hb dX1_orderOfGaps_72 (by decide) (fun c118 => ?_) (fun c118 => ?_)
            · rw [if_pos c118] at hf
              refine lv_lload hx hb dX1_orderOfGaps_80 (lv_at hl 5 rfl) ?_
              obtain ⟨r119, er119, hf⟩ := ob_e hf
              refine my_callPi (As := [.long a1, .long (f_X0_opposite a1), .long (f_X0_opposite a3), .long a3]) (rest := []) ⟨hx, hb, hml, hown, hts⟩ (m_X1_signOfSum l a1 (f_X0_opposite a1) (f_X0_opposite a3) a3 _ er119) gX1_orderOfGaps_X1_signOfSum rfl ⟨rfl, rfl⟩ (by decide +kernel) ⟨Nat.le_of_ble_eq_true rfl, Nat.le_of_ble_eq_true rfl⟩ ⟨Nat.le_of_ble_eq_true rfl, Nat.le_of_ble_eq_true rfl⟩ hl.1 rfl rfl (Nat.le_of_ble_eq_true rfl) dX1_orderOfGaps_82 ?_
              exact W.iret (v := r119) hx hb hr (fun t ht hW => ⟨_, rfl, Option.some.inj hf, ht⟩) (fun q hq => absurd hq List.not_mem_nil) dX1_orderOfGaps_85
            · rw [if_neg c118] at hf
              refine lv_lload hx hb dX1_orderOfGaps_75 (lv_at hl 4 rfl) ?_
              refine lv_goto (tgt := 82) hx hb dX1_orderOfGaps_77 (by decide) ?_
              obtain ⟨r120, er120, hf⟩ := ob_e hf
              refine my_callPi (As := [.long a1, .long (f_X0_opposite a1), .long (f_X0_opposite a3), .long a2]) (rest := []) ⟨hx, hb, hml, hown, hts⟩ (m_X1_signOfSum l a1 (f_X0_opposite a1) (f_X0_opposite a3) a2 _ er120) gX1_orderOfGaps_X1_signOfSum rfl ⟨rfl, rfl⟩ (by decide +kernel) ⟨Nat.le_of_ble_eq_true rfl, Nat.le_of_ble_eq_true rfl⟩ ⟨Nat.le_of_ble_eq_true rfl, Nat.le_of_ble_eq_true rfl⟩ hl.1 rfl rfl (Nat.le_of_ble_eq_true rfl) dX1_orderOfGaps_82 ?_
              exact W.iret (v := r120) hx hb hr (fun t ht hW => ⟨_, rfl, Option.some.inj hf, ht⟩) (fun q hq => absurd hq List.not_mem_nil) dX1_orderOfGaps_85
        · rw [if_neg c113] at hf
          refine lv_lload_n hx hb dX1_orderOfGaps_47 rfl (lv_at hl 2 rfl) ?_
          refine lv_goto (tgt := 52) hx hb dX1_orderOfGaps_48 (by decide) ?_
          refine my_callPl (As := [.long a0]) (rest := [.long a1]) ⟨hx, hb, hml, hown, hts⟩ (m_X0_opposite l a0 _ rfl) gX1_orderOfGaps_X0_opposite rfl ⟨rfl, rfl⟩ (by decide +kernel) ⟨Nat.le_of_ble_eq_true rfl, Nat.le_of_ble_eq_true rfl⟩ ⟨Nat.le_of_ble_eq_true rfl, Nat.le_of_ble_eq_true rfl⟩ hl.1 rfl rfl (Nat.le_of_ble_eq_true rfl) dX1_orderOfGaps_52 ?_
          refine lv_iload hx hb dX1_orderOfGaps_55 (lv_at hl 0 rfl) ?_
          refine my_if_eq (tgt := 65) hx hb dX1_orderOfGaps_57 (by decide) (fun c121 => ?_) (fun c121 => ?_)
          · rw [if_pos c121] at hf
            refine lv_lload hx hb dX1_orderOfGaps_65 (lv_at hl 4 rfl) ?_
            refine my_callPl (As := [.long a2]) (rest := [.long (f_X0_opposite a0), .long a1]) ⟨hx, hb, hml, hown, hts⟩ (m_X0_opposite l a2 _ rfl) gX1_orderOfGaps_X0_opposite rfl ⟨rfl, rfl⟩ (by decide +kernel) ⟨Nat.le_of_ble_eq_true rfl, Nat.le_of_ble_eq_true rfl⟩ ⟨Nat.le_of_ble_eq_true rfl, Nat.le_of_ble_eq_true rfl⟩ hl.1 rfl rfl (Nat.le_of_ble_eq_true rfl) dX1_orderOfGaps_67 ?_
            refine lv_iload hx hb dX1_orderOfGaps_70 (lv_at hl 0 rfl) ?_
            refine my_if_eq (tgt := 80) hx hb dX1_orderOfGaps_72 (by decide) (fun c122 => ?_) (fun c122 => ?_)
            · rw [if_pos c122] at hf
              refine lv_lload hx hb dX1_orderOfGaps_80 (lv_at hl 5 rfl) ?_
              obtain ⟨r123, er123, hf⟩ := ob_e hf
              refine my_callPi (As := [.long a1, .long (f_X0_opposite a0), .long (f_X0_opposite a2), .long a3]) (rest := []) ⟨hx, hb, hml, hown, hts⟩ (m_X1_signOfSum l a1 (f_X0_opposite a0) (f_X0_opposite a2) a3 _ er123) gX1_orderOfGaps_X1_signOfSum rfl ⟨rfl, rfl⟩ (by decide +kernel) ⟨Nat.le_of_ble_eq_true rfl, Nat.le_of_ble_eq_true rfl⟩ ⟨Nat.le_of_ble_eq_true rfl, Nat.le_of_ble_eq_true rfl⟩ hl.1 rfl rfl (Nat.le_of_ble_eq_true rfl) dX1_orderOfGaps_82 ?_
              exact W.iret (v := r123) hx hb hr (fun t ht hW => ⟨_, rfl, Option.some.inj hf, ht⟩) (fun q hq => absurd hq List.not_mem_nil) dX1_orderOfGaps_85
            · rw [if_neg c122] at hf
              refine lv_lload hx hb dX1_orderOfGaps_75 (lv_at hl 4 rfl) ?_
              refine lv_goto (tgt := 82) hx hb dX1_orderOfGaps_77 (by decide) ?_
              obtain ⟨r124, er124, hf⟩ := ob_e hf
              refine my_callPi (As := [.long a1, .long (f_X0_opposite a0), .long (f_X0_opposite a2), .long a2]) (rest := []) ⟨hx, hb, hml, hown, hts⟩ (m_X1_signOfSum l a1 (f_X0_opposite a0) (f_X0_opposite a2) a2 _ er124) gX1_orderOfGaps_X1_signOfSum rfl ⟨rfl, rfl⟩ (by decide +kernel) ⟨Nat.le_of_ble_eq_true rfl, Nat.le_of_ble_eq_true rfl⟩ ⟨Nat.le_of_ble_eq_true rfl, Nat.le_of_ble_eq_true rfl⟩ hl.1 rfl rfl (Nat.le_of_ble_eq_true rfl) dX1_orderOfGaps_82 ?_
              exact W.iret (v := r124) hx hb hr (fun t ht hW => ⟨_, rfl, Option.some.inj hf, ht⟩) (fun q hq => absurd hq List.not_mem_nil) dX1_orderOfGaps_85
          · rw [if_neg c121] at hf
            refine lv_lload hx hb dX1_orderOfGaps_60 (lv_at hl 5 rfl) ?_
            refine lv_goto (tgt := 67) hx hb dX1_orderOfGaps_62 (by decide) ?_
            refine my_callPl (As := [.long a3]) (rest := [.long (f_X0_opposite a0), .long a1]) ⟨hx, hb, hml, hown, hts⟩ (m_X0_opposite l a3 _ rfl) gX1_orderOfGaps_X0_opposite rfl ⟨rfl, rfl⟩ (by decide +kernel) ⟨Nat.le_of_ble_eq_true rfl, Nat.le_of_ble_eq_true rfl⟩ ⟨Nat.le_of_ble_eq_true rfl, Nat.le_of_ble_eq_true rfl⟩ hl.1 rfl rfl (Nat.le_of_ble_eq_true rfl) dX1_orderOfGaps_67 ?_
            refine lv_iload hx hb dX1_orderOfGaps_70 (lv_at hl 0 rfl) ?_
            refine my_if_eq (tgt := 80) hx hb dX1_orderOfGaps_72 (by decide) (fun c125 => ?_) (fun c125 => ?_)
            · rw [if_pos c125] at hf
              refine lv_lload hx hb dX1_orderOfGaps_80 (lv_at hl 5 rfl) ?_
              obtain ⟨r126, er126, hf⟩ := ob_e hf
              refine my_callPi (As := [.long a1, .long (f_X0_opposite a0), .long (f_X0_opposite a3), .long a3]) (rest := []) ⟨hx, hb, hml, hown, hts⟩ (m_X1_signOfSum l a1 (f_X0_opposite a0) (f_X0_opposite a3) a3 _ er126) gX1_orderOfGaps_X1_signOfSum rfl ⟨rfl, rfl⟩ (by decide +kernel) ⟨Nat.le_of_ble_eq_true rfl, Nat.le_of_ble_eq_true rfl⟩ ⟨Nat.le_of_ble_eq_true rfl, Nat.le_of_ble_eq_true rfl⟩ hl.1 rfl rfl (Nat.le_of_ble_eq_true rfl) dX1_orderOfGaps_82 ?_
              exact W.iret (v := r126) hx hb hr (fun t ht hW => ⟨_, rfl, Option.some.inj hf, ht⟩) (fun q hq => absurd hq List.not_mem_nil) dX1_orderOfGaps_85
            · rw [if_neg c125] at hf
              refine lv_lload hx hb dX1_orderOfGaps_75 (lv_at hl 4 rfl) ?_
              refine lv_goto (tgt := 82) hx hb dX1_orderOfGaps_77 (by decide) ?_
              obtain ⟨r127, er127, hf⟩ := ob_e hf
              refine my_callPi (As := [.long a1, .long (f_X0_opposite a0), .long (f_X0_opposite a3), .long a2]) (rest := []) ⟨hx, hb, hml, hown, hts⟩ (m_X1_signOfSum l a1 (f_X0_opposite a0) (f_X0_opposite a3) a2 _ er127) gX1_orderOfGaps_X1_signOfSum rfl ⟨rfl, rfl⟩ (by decide +kernel) ⟨Nat.le_of_ble_eq_true rfl, Nat.le_of_ble_eq_true rfl⟩ ⟨Nat.le_of_ble_eq_true rfl, Nat.le_of_ble_eq_true rfl⟩ hl.1 rfl rfl (Nat.le_of_ble_eq_true rfl) dX1_orderOfGaps_82 ?_
              exact W.iret (v := r127) hx hb hr (fun t ht hW => ⟨_, rfl, Option.some.inj hf, ht⟩) (fun q hq => absurd hq List.not_mem_nil) dX1_orderOfGaps_85

def f_X3_isWord (a0 : Int32) (a1 : Int32) : Bool := (if a0 = 117 then (if a1 < 0 then false else (if 15 < a1 then false else true)) else (if a0 = 100 then (if a1 < 0 then false else (if 15 < a1 then false else true)) else (if a0 = 120 then (if a1 < (-40) then false else (if 40 < a1 then false else true)) else (if a0 = 110 then (if a1 = 0 then true else false) else false))))
abbrev rmX3_isWord : Room := { frames := 0, cells := 0, slots := 0, locals := 0 }
set_option maxHeartbeats 4000000 in
set_option maxRecDepth 100000 in
theorem m_X3_isWord (l : Launch) (a0 : Int32) (a1 : Int32) (res : Bool) (hf : f_X3_isWord a0 a1 = res) : Met l yX3_isWord wsX3_isWord rmX3_isWord (my_PcP [.int a0, .int a1]) (vp_Si (fun z => z = b2i res)) 0 0 (fun _ => False) := by
  refine Met.ofW (cc := cX3_isWord) (maxL := 2) (ret := (some .boolean)) (by decide) rfl ?_
  intro p e s m args below meth c s₁ B hml hv
  obtain ⟨rfl, -⟩ := hv
  have hx := B.exec
  have hb := B.bytes
  have hr := B.returns
  have hts : ∀ w ∈ wsX3_isWord, w.before ([.int a0, .int a1] : List Value).toArray s = true := atoms_spec (ws := wsX3_isWord) B.pre
  have hown : s.vm.findClass RX3 = some m.cls := findClass_of_methodNamed B.named
  have hlk : meth.locks = false := B.notSynchronized
  have hl := lv_entry ([.int a0, .int a1]) (n := 2) (Nat.le_of_ble_eq_true rfl)
  rw [lg_entry_eq]
  generalize (lg_sl ([.int a0, .int a1]) ++ List.replicate (2 - (lg_sl ([.int a0, .int a1])).length) Slot.unset).toArray = ls at hl ⊢
  have hl : lv_has ls 2 [(0, .int a0), (1, .int a1)] := hl
  unfold f_X3_isWord at hf
  refine lv_iload_n hx hb dX3_isWord_0 rfl (lv_at hl 0 rfl) ?_
  refine lv_bipush (v := 117) hx hb dX3_isWord_1 (by decide) ?_
  refine my_ic_eq (tgt := 12) hx hb dX3_isWord_3 (by decide) (fun c1 => ?_) (fun c1 => ?_)
  · rw [if_pos c1] at hf
    refine lv_iload_n hx hb dX3_isWord_12 rfl (lv_at hl 1 rfl) ?_
    refine my_if_lt (tgt := 26) hx hb dX3_isWord_13 (by decide) (fun c2 => ?_) (fun c2 => ?_)
    · rw [if_pos c2] at hf
      refine lv_iconst (v := 0) hx hb dX3_isWord_26 (by decide) ?_
      exact W.zret (v := b2i false) (ty := .boolean) hx hb hr (b2i_nar _) (fun t ht hW => ⟨_, rfl, congrArg b2i (hf), ht⟩) (fun q hq => absurd hq List.not_mem_nil) dX3_isWord_27
    · rw [if_neg c2] at hf
      refine lv_iload_n hx hb dX3_isWord_16 rfl (lv_at hl 1 rfl) ?_
      refine lv_bipush (v := 15) hx hb dX3_isWord_17 (by decide) ?_
      refine my_ic_gt (tgt := 26) hx hb dX3_isWord_19 (by decide) (fun c3 => ?_) (fun c3 => ?_)
      · rw [if_pos c3] at hf
        refine lv_iconst (v := 0) hx hb dX3_isWord_26 (by decide) ?_
        exact W.zret (v := b2i false) (ty := .boolean) hx hb hr (b2i_nar _) (fun t ht hW => ⟨_, rfl, congrArg b2i (hf), ht⟩) (fun q hq => absurd hq List.not_mem_nil) dX3_isWord_27
      · rw [if_neg c3] at hf
        refine lv_iconst (v := 1) hx hb dX3_isWord_22 (by decide) ?_
        refine lv_goto (tgt := 27) hx hb dX3_isWord_23 (by decide) ?_
        exact W.zret (v := b2i true) (ty := .boolean) hx hb hr (b2i_nar _) (fun t ht hW => ⟨_, rfl, congrArg b2i (hf), ht⟩) (fun q hq => absurd hq List.not_mem_nil) dX3_isWord_27
  · rw [if_neg c1] at hf
    refine lv_iload_n hx hb dX3_isWord_6 rfl (lv_at hl 0 rfl) ?_
    refine lv_bipush (v := 100) hx hb dX3_isWord_7 (by decide) ?_
    refine my_ic_ne (tgt := 28) hx hb dX3_isWord_9 (by decide) (fun c4 => ?_) (fun c4 => ?_)
    · rw [if_neg c4] at hf
      refine lv_iload_n hx hb dX3_isWord_28 rfl (lv_at hl 0 rfl) ?_
      refine lv_bipush (v := 120) hx hb dX3_isWord_29 (by decide) ?_
      refine my_ic_ne (tgt := 52) hx hb dX3_isWord_31 (by decide) (fun c5 => ?_) (fun c5 => ?_)
      · rw [if_neg c5] at hf
        refine lv_iload_n hx hb dX3_isWord_52 rfl (lv_at hl 0 rfl) ?_
        refine lv_bipush (v := 110) hx hb dX3_isWord_53 (by decide) ?_
        refine my_ic_ne (tgt := 66) hx hb dX3_isWord_55 (by decide) (fun c6 => ?_) (fun c6 => ?_)
        · rw [if_neg c6] at hf
          refine lv_iconst (v := 0) hx hb dX3_isWord_66 (by decide) ?_
          exact W.zret (v := b2i false) (ty := .boolean) hx hb hr (b2i_nar _) (fun t ht hW => ⟨_, rfl, congrArg b2i (hf), ht⟩) (fun q hq => absurd hq List.not_mem_nil) dX3_isWord_67
        · rw [if_pos c6] at hf
          refine lv_iload_n hx hb dX3_isWord_58 rfl (lv_at hl 1 rfl) ?_
          refine my_if_ne (tgt := 66) hx hb dX3_isWord_59 (by decide) (fun c7 => ?_) (fun c7 => ?_)
          · rw [if_neg c7] at hf
            refine lv_iconst (v := 0) hx hb dX3_isWord_66 (by decide) ?_
            exact W.zret (v := b2i false) (ty := .boolean) hx hb hr (b2i_nar _) (fun t ht hW => ⟨_, rfl, congrArg b2i (hf), ht⟩) (fun q hq => absurd hq List.not_mem_nil) dX3_isWord_67
          · rw [if_pos c7] at hf
            refine lv_iconst (v := 1) hx hb dX3_isWord_62 (by decide) ?_
            refine lv_goto (tgt := 67) hx hb dX3_isWord_63 (by decide) ?_
            exact W.zret (v := b2i true) (ty := .boolean) hx hb hr (b2i_nar _) (fun t ht hW => ⟨_, rfl, congrArg b2i (hf), ht⟩) (fun q hq => absurd hq List.not_mem_nil) dX3_isWord_67
      · rw [if_pos c5] at hf
        refine lv_iload_n hx hb dX3_isWord_34 rfl (lv_at hl 1 rfl) ?_
        refine lv_bipush (v := (-40)) hx hb dX3_isWord_35 (by decide) ?_
        refine my_ic_lt (tgt := 50) hx hb dX3_isWord_37 (by decide) (fun c8 => ?_) (fun c8 => ?_)
        · rw [if_pos c8] at hf
          refine lv_iconst (v := 0) hx hb dX3_isWord_50 (by decide) ?_
          exact W.zret (v := b2i false) (ty := .boolean) hx hb hr (b2i_nar _) (fun t ht hW => ⟨_, rfl, congrArg b2i (hf), ht⟩) (fun q hq => absurd hq List.not_mem_nil) dX3_isWord_51
        · rw [if_neg c8] at hf
          refine lv_iload_n hx hb dX3_isWord_40 rfl (lv_at hl 1 rfl) ?_
          refine lv_bipush (v := 40) hx hb dX3_isWord_41 (by decide) ?_
          refine my_ic_gt (tgt := 50) hx hb dX3_isWord_43 (by decide) (fun c9 => ?_) (fun c9 => ?_)
          · rw [if_pos c9] at hf
            refine lv_iconst (v := 0) hx hb dX3_isWord_50 (by decide) ?_
            exact W.zret (v := b2i false) (ty := .boolean) hx hb hr (b2i_nar _) (fun t ht hW => ⟨_, rfl, congrArg b2i (hf), ht⟩) (fun q hq => absurd hq List.not_mem_nil) dX3_isWord_51
          · rw [if_neg c9] at hf
            refine lv_iconst (v := 1) hx hb dX3_isWord_46 (by decide) ?_
            refine lv_goto (tgt := 51) hx hb dX3_isWord_47 (by decide) ?_
            exact W.zret (v := b2i true) (ty := .boolean) hx hb hr (b2i_nar _) (fun t ht hW => ⟨_, rfl, congrArg b2i (hf), ht⟩) (fun q hq => absurd hq List.not_mem_nil) dX3_isWord_51
    · rw [if_pos c4] at hf
      refine lv_iload_n hx hb dX3_isWord_12 rfl (lv_at hl 1 rfl) ?_
      refine my_if_lt (tgt := 26) hx hb dX3_isWord_13 (by decide) (fun c10 => ?_) (fun c10 => ?_)
      · rw [if_pos c10] at hf
        refine lv_iconst (v := 0) hx hb dX3_isWord_26 (by decide) ?_
        exact W.zret (v := b2i false) (ty := .boolean) hx hb hr (b2i_nar _) (fun t ht hW => ⟨_, rfl, congrArg b2i (hf), ht⟩) (fun q hq => absurd hq List.not_mem_nil) dX3_isWord_27
      · rw [if_neg c10] at hf
        refine lv_iload_n hx hb dX3_isWord_16 rfl (lv_at hl 1 rfl) ?_
        refine lv_bipush (v := 15) hx hb dX3_isWord_17 (by decide) ?_
        refine my_ic_gt (tgt := 26) hx hb dX3_isWord_19 (by decide) (fun c11 => ?_) (fun c11 => ?_)
        · rw [if_pos c11] at hf
          refine lv_iconst (v := 0) hx hb dX3_isWord_26 (by decide) ?_
          exact W.zret (v := b2i false) (ty := .boolean) hx hb hr (b2i_nar _) (fun t ht hW => ⟨_, rfl, congrArg b2i (hf), ht⟩) (fun q hq => absurd hq List.not_mem_nil) dX3_isWord_27
        · rw [if_neg c11] at hf
          refine lv_iconst (v := 1) hx hb dX3_isWord_22 (by decide) ?_
          refine lv_goto (tgt := 27) hx hb dX3_isWord_23 (by decide) ?_
          exact W.zret (v := b2i true) (ty := .boolean) hx hb hr (b2i_nar _) (fun t ht hW => ⟨_, rfl, congrArg b2i (hf), ht⟩) (fun q hq => absurd hq List.not_mem_nil) dX3_isWord_27

def f_X3_done (a0 : Int32) (a1 : Int32) (a2 : Int64) : Int64 := (if a0 = 110 then (f_X0_opposite a2) else (if a0 = 120 then (f_X0_scaled a2 a1) else (if a0 = 117 then (if a1 < 0 then (f_X0_lowered a2 (-a1)) else (f_X0_raised a2 a1)) else (if (-a1) < 0 then (f_X0_lowered a2 (-(-a1))) else (f_X0_raised a2 (-a1))))))
abbrev rmX3_done : Room := { frames := 4, cells := 0, slots := 0, locals := 89 }
set_option maxHeartbeats 4000000 in
set_option maxRecDepth 100000 in
theorem m_X3_done (l : Launch) (a0 : Int32) (a1 : Int32) (a2 : Int64) (res : Int64) (hf : f_X3_done a0 a1 a2 = res) : Met l yX3_done wsX3_done rmX3_done (my_PcP [.int a0, .int a1, .long a2]) (vp_Sl (fun z => z = res)) 0 0 (fun _ => False) := by
  refine Met.ofW (cc := cX3_done) (maxL := 5) (ret := (some .long)) (by decide) rfl ?_
  intro p e s m args below meth c s₁ B hml hv
  obtain ⟨rfl, -⟩ := hv
  have hx := B.exec
  have hb := B.bytes
  have hr := B.returns
  have hts : ∀ w ∈ wsX3_done, w.before ([.int a0, .int a1, .long a2] : List Value).toArray s = true := atoms_spec (ws := wsX3_done) B.pre
  have hown : s.vm.findClass RX3 = some m.cls := findClass_of_methodNamed B.named
  have hlk : meth.locks = false := B.notSynchronized
  have hl := lv_entry ([.int a0, .int a1, .long a2]) (n := 5) (Nat.le_of_ble_eq_true rfl)
  rw [lg_entry_eq]
  generalize (lg_sl ([.int a0, .int a1, .long a2]) ++ List.replicate (5 - (lg_sl ([.int a0, .int a1, .long a2])).length) Slot.unset).toArray = ls at hl ⊢
  have hl : lv_has ls 5 [(0, .int a0), (1, .int a1), (2, .long a2)] := hl
  unfold f_X3_done at hf
  refine lv_iload_n hx hb dX3_done_0 rfl (lv_at hl 0 rfl) ?_
  refine lv_bipush (v := 110) hx hb dX3_done_1 (by decide) ?_
  refine my_ic_ne (tgt := 11) hx hb dX3_done_3 (by decide) (fun c1 => ?_) (fun c1 => ?_)
  · rw [if_neg c1] at hf
    refine lv_iload_n hx hb dX3_done_11 rfl (lv_at hl 0 rfl) ?_
    refine lv_bipush (v := 120) hx hb dX3_done_12 (by decide) ?_
    refine my_ic_ne (tgt := 23) hx hb dX3_done_14 (by decide) (fun c2 => ?_) (fun c2 => ?_)
    · rw [if_neg c2] at hf
      refine lv_iload_n hx hb dX3_done_23 rfl (lv_at hl 0 rfl) ?_
      refine lv_bipush (v := 117) hx hb dX3_done_24 (by decide) ?_
      refine my_ic_ne (tgt := 33) hx hb dX3_done_26 (by decide) (fun c3 => ?_) (fun c3 => ?_)
      · rw [if_neg c3] at hf
        refine lv_iload_n hx hb dX3_done_33 rfl (lv_at hl 1 rfl) ?_
        refine lv_ineg hx hb dX3_done_34 ?_
        refine lv_istore (lv' := [(4, .int (-a1)), (0, .int a0), (1, .int a1), (2, .long a2)]) hx hb dX3_done_35 hl (by decide) rfl (fun ls hl => ?_)
        refine lv_iload hx hb dX3_done_37 (lv_at hl 0 rfl) ?_
        refine my_if_ge (tgt := 52) hx hb dX3_done_39 (by decide) (fun c4 => ?_) (fun c4 => ?_)
        · rw [if_neg c4] at hf
          refine lv_lload_n hx hb dX3_done_52 rfl (lv_at hl 3 rfl) ?_
          refine lv_iload hx hb dX3_done_53 (lv_at hl 0 rfl) ?_
          refine my_callPl (As := [.long a2, .int (-a1)]) (rest := []) ⟨hx, hb, hml, hown, hts⟩ (m_X0_raised l a2 (-a1) _ rfl) gX3_done_X0_raised rfl ⟨rfl, rfl⟩ (by decide +kernel) ⟨Nat.le_of_ble_eq_true rfl, Nat.le_of_ble_eq_true rfl⟩ ⟨Nat.le_of_ble_eq_true rfl, Nat.le_of_ble_eq_true rfl⟩ hl.1 rfl rfl (Nat.le_of_ble_eq_true rfl) dX3_done_55 ?_
          exact W.lret (v := (f_X0_raised a2 (-a1))) hx hb hr (fun t ht hW => ⟨_, rfl, hf, ht⟩) (fun q hq => absurd hq List.not_mem_nil) dX3_done_58
        · rw [if_pos c4] at hf
          refine lv_lload_n hx hb dX3_done_42 rfl (lv_at hl 3 rfl) ?_
          refine lv_iload hx hb dX3_done_43 (lv_at hl 0 rfl) ?_
          refine lv_ineg hx hb dX3_done_45 ?_
          refine my_callPl (As := [.long a2, .int (-(-a1))]) (rest := []) ⟨hx, hb, hml, hown, hts⟩ (m_X0_lowered l a2 (-(-a1)) _ rfl) gX3_done_X0_lowered rfl ⟨rfl, rfl⟩ (by decide +kernel) ⟨Nat.le_of_ble_eq_true rfl, Nat.le_of_ble_eq_true rfl⟩ ⟨Nat.le_of_ble_eq_true rfl, Nat.le_of_ble_eq_true rfl⟩ hl.1 rfl rfl (Nat.le_of_ble_eq_true rfl) dX3_done_46 ?_
          refine lv_goto (tgt := 58) hx hb dX3_done_49 (by decide) ?_
          exact W.lret (v := (f_X0_lowered a2 (-(-a1)))) hx hb hr (fun t ht hW => ⟨_, rfl, hf, ht⟩) (fun q hq => absurd hq List.not_mem_nil) dX3_done_58
      · rw [if_pos c3] at hf
        refine lv_iload_n hx hb dX3_done_29 rfl (lv_at hl 1 rfl) ?_
        refine lv_goto (tgt := 35) hx hb dX3_done_30 (by decide) ?_
        refine lv_istore (lv' := [(4, .int a1), (0, .int a0), (1, .int a1), (2, .long a2)]) hx hb dX3_done_35 hl (by decide) rfl (fun ls hl => ?_)
        refine lv_iload hx hb dX3_done_37 (lv_at hl 0 rfl) ?_
        refine my_if_ge (tgt := 52) hx hb dX3_done_39 (by decide) (fun c5 => ?_) (fun c5 => ?_)
        · rw [if_neg c5] at hf
          refine lv_lload_n hx hb dX3_done_52 rfl (lv_at hl 3 rfl) ?_
          refine lv_iload hx hb dX3_done_53 (lv_at hl 0 rfl) ?_
          refine my_callPl (As := [.long a2, .int a1]) (rest := []) ⟨hx, hb, hml, hown, hts⟩ (m_X0_raised l a2 a1 _ rfl) gX3_done_X0_raised rfl ⟨rfl, rfl⟩ (by decide +kernel) ⟨Nat.le_of_ble_eq_true rfl, Nat.le_of_ble_eq_true rfl⟩ ⟨Nat.le_of_ble_eq_true rfl, Nat.le_of_ble_eq_true rfl⟩ hl.1 rfl rfl (Nat.le_of_ble_eq_true rfl) dX3_done_55 ?_
          exact W.lret (v := (f_X0_raised a2 a1)) hx hb hr (fun t ht hW => ⟨_, rfl, hf, ht⟩) (fun q hq => absurd hq List.not_mem_nil) dX3_done_58
        · rw [if_pos c5] at hf
          refine lv_lload_n hx hb dX3_done_42 rfl (lv_at hl 3 rfl) ?_
          refine lv_iload hx hb dX3_done_43 (lv_at hl 0 rfl) ?_
          refine lv_ineg hx hb dX3_done_45 ?_
          refine my_callPl (As := [.long a2, .int (-a1)]) (rest := []) ⟨hx, hb, hml, hown, hts⟩ (m_X0_lowered l a2 (-a1) _ rfl) gX3_done_X0_lowered rfl ⟨rfl, rfl⟩ (by decide +kernel) ⟨Nat.le_of_ble_eq_true rfl, Nat.le_of_ble_eq_true rfl⟩ ⟨Nat.le_of_ble_eq_true rfl, Nat.le_of_ble_eq_true rfl⟩ hl.1 rfl rfl (Nat.le_of_ble_eq_true rfl) dX3_done_46 ?_
          refine lv_goto (tgt := 58) hx hb dX3_done_49 (by decide) ?_
          exact W.lret (v := (f_X0_lowered a2 (-a1))) hx hb hr (fun t ht hW => ⟨_, rfl, hf, ht⟩) (fun q hq => absurd hq List.not_mem_nil) dX3_done_58
    · rw [if_pos c2] at hf
      refine lv_lload_n hx hb dX3_done_17 rfl (lv_at hl 2 rfl) ?_
      refine lv_iload_n hx hb dX3_done_18 rfl (lv_at hl 1 rfl) ?_
      refine my_callPl (As := [.long a2, .int a1]) (rest := []) ⟨hx, hb, hml, hown, hts⟩ (m_X0_scaled l a2 a1 _ rfl) gX3_done_X0_scaled rfl ⟨rfl, rfl⟩ (by decide +kernel) ⟨Nat.le_of_ble_eq_true rfl, Nat.le_of_ble_eq_true rfl⟩ ⟨Nat.le_of_ble_eq_true rfl, Nat.le_of_ble_eq_true rfl⟩ hl.1 rfl rfl (Nat.le_of_ble_eq_true rfl) dX3_done_19 ?_
      exact W.lret (v := (f_X0_scaled a2 a1)) hx hb hr (fun t ht hW => ⟨_, rfl, hf, ht⟩) (fun q hq => absurd hq List.not_mem_nil) dX3_done_22
  · rw [if_pos c1] at hf
    refine lv_lload_n hx hb dX3_done_6 rfl (lv_at hl 2 rfl) ?_
    refine my_callPl (As := [.long a2]) (rest := []) ⟨hx, hb, hml, hown, hts⟩ (m_X0_opposite l a2 _ rfl) gX3_done_X0_opposite rfl ⟨rfl, rfl⟩ (by decide +kernel) ⟨Nat.le_of_ble_eq_true rfl, Nat.le_of_ble_eq_true rfl⟩ ⟨Nat.le_of_ble_eq_true rfl, Nat.le_of_ble_eq_true rfl⟩ hl.1 rfl rfl (Nat.le_of_ble_eq_true rfl) dX3_done_7 ?_
    exact W.lret (v := (f_X0_opposite a2)) hx hb hr (fun t ht hW => ⟨_, rfl, hf, ht⟩) (fun q hq => absurd hq List.not_mem_nil) dX3_done_10

def f_X4_stepsHold (a0 : Int64) : Bool := (if a0 = 9218868437227405312 then (if (f_X0_raised a0 1) = a0 then true else false) else (if (f_X0_placeOf (f_X0_raised a0 1)) = ((f_X0_placeOf a0) + 1) then (if (f_X0_order (f_X0_lowered (f_X0_raised a0 1) 1) a0) = 0 then true else false) else false))
abbrev rmX4_stepsHold : Room := { frames := 3, cells := 0, slots := 0, locals := 67 }
set_option maxHeartbeats 4000000 in
set_option maxRecDepth 100000 in
theorem m_X4_stepsHold (l : Launch) (a0 : Int64) (res : Bool) (hf : f_X4_stepsHold a0 = res) : Met l yX4_stepsHold wsX4_stepsHold rmX4_stepsHold (my_PcP [.long a0]) (vp_Si (fun z => z = b2i res)) 0 0 (fun _ => False) := by
  refine Met.ofW (cc := cX4_stepsHold) (maxL := 4) (ret := (some .boolean)) (by decide) rfl ?_
  intro p e s m args below meth c s₁ B hml hv
  obtain ⟨rfl, -⟩ := hv
  have hx := B.exec
  have hb := B.bytes
  have hr := B.returns
  have hts : ∀ w ∈ wsX4_stepsHold, w.before ([.long a0] : List Value).toArray s = true := atoms_spec (ws := wsX4_stepsHold) B.pre
  have hown : s.vm.findClass RX4 = some m.cls := findClass_of_methodNamed B.named
  have hlk : meth.locks = false := B.notSynchronized
  have q1 := hts (.constantLong RX4 37 (9218868437227405312)) (by decide +kernel)
  have hl := lv_entry ([.long a0]) (n := 4) (Nat.le_of_ble_eq_true rfl)
  rw [lg_entry_eq]
  generalize (lg_sl ([.long a0]) ++ List.replicate (4 - (lg_sl ([.long a0])).length) Slot.unset).toArray = ls at hl ⊢
  have hl : lv_has ls 4 [(0, .long a0)] := hl
  unfold f_X4_stepsHold at hf
  refine lv_lload_n hx hb dX4_stepsHold_0 rfl (lv_at hl 0 rfl) ?_
  refine lv_iconst (v := 1) hx hb dX4_stepsHold_1 (by decide) ?_
  refine my_callPl (As := [.long a0, .int 1]) (rest := []) ⟨hx, hb, hml, hown, hts⟩ (m_X0_raised l a0 1 _ rfl) gX4_stepsHold_X0_raised rfl ⟨rfl, rfl⟩ (by decide +kernel) ⟨Nat.le_of_ble_eq_true rfl, Nat.le_of_ble_eq_true rfl⟩ ⟨Nat.le_of_ble_eq_true rfl, Nat.le_of_ble_eq_true rfl⟩ hl.1 rfl rfl (Nat.le_of_ble_eq_true rfl) dX4_stepsHold_2 ?_
  refine lv_lstore_n (lv' := [(2, .long (f_X0_raised a0 1)), (0, .long a0)]) hx hb dX4_stepsHold_5 rfl hl (by decide) rfl (fun ls hl => ?_)
  refine lv_lload_n hx hb dX4_stepsHold_6 rfl (lv_at hl 1 rfl) ?_
  refine lv_ldc2 (v := 9218868437227405312) hx hb hown q1 dX4_stepsHold_7 ?_
  refine my_lc_ne (tgt := 26) hx hb dX4_stepsHold_10 dX4_stepsHold_11 (by decide) (fun c1 => ?_) (fun c1 => ?_)
  · rw [if_neg c1] at hf
    refine lv_lload_n hx hb dX4_stepsHold_26 rfl (lv_at hl 0 rfl) ?_
    refine my_callPl (As := [.long (f_X0_raised a0 1)]) (rest := []) ⟨hx, hb, hml, hown, hts⟩ (m_X0_placeOf l (f_X0_raised a0 1) _ rfl) gX4_stepsHold_X0_placeOf rfl ⟨rfl, rfl⟩ (by decide +kernel) ⟨Nat.le_of_ble_eq_true rfl, Nat.le_of_ble_eq_true rfl⟩ ⟨Nat.le_of_ble_eq_true rfl, Nat.le_of_ble_eq_true rfl⟩ hl.1 rfl rfl (Nat.le_of_ble_eq_true rfl) dX4_stepsHold_27 ?_
    refine lv_lload_n hx hb dX4_stepsHold_30 rfl (lv_at hl 1 rfl) ?_
    refine my_callPl (As := [.long a0]) (rest := [.long (f_X0_placeOf (f_X0_raised a0 1))]) ⟨hx, hb, hml, hown, hts⟩ (m_X0_placeOf l a0 _ rfl) gX4_stepsHold_X0_placeOf rfl ⟨rfl, rfl⟩ (by decide +kernel) ⟨Nat.le_of_ble_eq_true rfl, Nat.le_of_ble_eq_true rfl⟩ ⟨Nat.le_of_ble_eq_true rfl, Nat.le_of_ble_eq_true rfl⟩ hl.1 rfl rfl (Nat.le_of_ble_eq_true rfl) dX4_stepsHold_31 ?_
    refine lv_lconst (v := 1) hx hb dX4_stepsHold_34 (by decide) ?_
    refine lv_ladd hx hb dX4_stepsHold_35 ?_
    refine my_lc_ne (tgt := 56) hx hb dX4_stepsHold_36 dX4_stepsHold_37 (by decide) (fun c2 => ?_) (fun c2 => ?_)
    · rw [if_neg c2] at hf
      refine lv_iconst (v := 0) hx hb dX4_stepsHold_56 (by decide) ?_
      exact W.zret (v := b2i false) (ty := .boolean) hx hb hr (b2i_nar _) (fun t ht hW => ⟨_, rfl, congrArg b2i (hf), ht⟩) (fun q hq => absurd hq List.not_mem_nil) dX4_stepsHold_57
    · rw [if_pos c2] at hf
      refine lv_lload_n hx hb dX4_stepsHold_40 rfl (lv_at hl 0 rfl) ?_
      refine lv_iconst (v := 1) hx hb dX4_stepsHold_41 (by decide) ?_
      refine my_callPl (As := [.long (f_X0_raised a0 1), .int 1]) (rest := []) ⟨hx, hb, hml, hown, hts⟩ (m_X0_lowered l (f_X0_raised a0 1) 1 _ rfl) gX4_stepsHold_X0_lowered rfl ⟨rfl, rfl⟩ (by decide +kernel) ⟨Nat.le_of_ble_eq_true rfl, Nat.le_of_ble_eq_true rfl⟩ ⟨Nat.le_of_ble_eq_true rfl, Nat.le_of_ble_eq_true rfl⟩ hl.1 rfl rfl (Nat.le_of_ble_eq_true rfl) dX4_stepsHold_42 ?_
      refine lv_lload_n hx hb dX4_stepsHold_45 rfl (lv_at hl 1 rfl) ?_
      refine my_callPi (As := [.long (f_X0_lowered (f_X0_raised a0 1) 1), .long a0]) (rest := []) ⟨hx, hb, hml, hown, hts⟩ (m_X0_order l (f_X0_lowered (f_X0_raised a0 1) 1) a0 _ rfl) gX4_stepsHold_X0_order rfl ⟨rfl, rfl⟩ (by decide +kernel) ⟨Nat.le_of_ble_eq_true rfl, Nat.le_of_ble_eq_true rfl⟩ ⟨Nat.le_of_ble_eq_true rfl, Nat.le_of_ble_eq_true rfl⟩ hl.1 rfl rfl (Nat.le_of_ble_eq_true rfl) dX4_stepsHold_46 ?_
      refine my_if_ne (tgt := 56) hx hb dX4_stepsHold_49 (by decide) (fun c3 => ?_) (fun c3 => ?_)
      · rw [if_neg c3] at hf
        refine lv_iconst (v := 0) hx hb dX4_stepsHold_56 (by decide) ?_
        exact W.zret (v := b2i false) (ty := .boolean) hx hb hr (b2i_nar _) (fun t ht hW => ⟨_, rfl, congrArg b2i (hf), ht⟩) (fun q hq => absurd hq List.not_mem_nil) dX4_stepsHold_57
      · rw [if_pos c3] at hf
        refine lv_iconst (v := 1) hx hb dX4_stepsHold_52 (by decide) ?_
        refine lv_goto (tgt := 57) hx hb dX4_stepsHold_53 (by decide) ?_
        exact W.zret (v := b2i true) (ty := .boolean) hx hb hr (b2i_nar _) (fun t ht hW => ⟨_, rfl, congrArg b2i (hf), ht⟩) (fun q hq => absurd hq List.not_mem_nil) dX4_stepsHold_57
  · rw [if_pos c1] at hf
    refine lv_lload_n hx hb dX4_stepsHold_14 rfl (lv_at hl 0 rfl) ?_
    refine lv_lload_n hx hb dX4_stepsHold_15 rfl (lv_at hl 1 rfl) ?_
    refine my_lc_ne (tgt := 24) hx hb dX4_stepsHold_16 dX4_stepsHold_17 (by decide) (fun c4 => ?_) (fun c4 => ?_)
    · rw [if_neg c4] at hf
      refine lv_iconst (v := 0) hx hb dX4_stepsHold_24 (by decide) ?_
      exact W.zret (v := b2i false) (ty := .boolean) hx hb hr (b2i_nar _) (fun t ht hW => ⟨_, rfl, congrArg b2i (hf), ht⟩) (fun q hq => absurd hq List.not_mem_nil) dX4_stepsHold_25
    · rw [if_pos c4] at hf
      refine lv_iconst (v := 1) hx hb dX4_stepsHold_20 (by decide) ?_
      refine lv_goto (tgt := 25) hx hb dX4_stepsHold_21 (by decide) ?_
      exact W.zret (v := b2i true) (ty := .boolean) hx hb hr (b2i_nar _) (fun t ht hW => ⟨_, rfl, congrArg b2i (hf), ht⟩) (fun q hq => absurd hq List.not_mem_nil) dX4_stepsHold_25

def f_X4_unitHolds (a0 : Int64) : Option (Bool) := (if (f_X0_hasNoEnd a0) = false then (if (f_X0_hasNoEnd (f_X0_raised (f_X0_sizeOf a0) 1)) = false then ((f_X1_signOfSum (f_X0_raised (f_X0_sizeOf a0) 1) (f_X0_opposite (f_X0_sizeOf a0)) (f_X0_opposite (f_X0_unitOf a0)) 0).bind fun r3 => (if r3 = 0 then some true else some false)) else some true) else (if (f_X0_unitOf a0) = 9218868437227405312 then some true else some false))
abbrev rmX4_unitHolds : Room := { frames := 5, cells := 0, slots := 0, locals := 108 }
set_option maxHeartbeats 4000000 in
set_option maxRecDepth 100000 in
theorem m_X4_unitHolds (l : Launch) (a0 : Int64) (res : Bool) (hf : f_X4_unitHolds a0 = some res) : Met l yX4_unitHolds wsX4_unitHolds rmX4_unitHolds (my_PcP [.long a0]) (vp_Si (fun z => z = b2i res)) 0 0 (fun _ => False) := by
  refine Met.ofW (cc := cX4_unitHolds) (maxL := 8) (ret := (some .boolean)) (by decide) rfl ?_
  intro p e s m args below meth c s₁ B hml hv
  obtain ⟨rfl, -⟩ := hv
  have hx := B.exec
  have hb := B.bytes
  have hr := B.returns
  have hts : ∀ w ∈ wsX4_unitHolds, w.before ([.long a0] : List Value).toArray s = true := atoms_spec (ws := wsX4_unitHolds) B.pre
  have hown : s.vm.findClass RX4 = some m.cls := findClass_of_methodNamed B.named
  have hlk : meth.locks = false := B.notSynchronized
  have q1 := hts (.constantLong RX4 37 (9218868437227405312)) (by decide +kernel)
  have hl := lv_entry ([.long a0]) (n := 8) (Nat.le_of_ble_eq_true rfl)
  rw [lg_entry_eq]
  generalize (lg_sl ([.long a0]) ++ List.replicate (8 - (lg_sl ([.long a0])).length) Slot.unset).toArray = ls at hl ⊢
  have hl : lv_has ls 8 [(0, .long a0)] := hl
  unfold f_X4_unitHolds at hf
  refine lv_lload_n hx hb dX4_unitHolds_0 rfl (lv_at hl 0 rfl) ?_
  refine my_callPl (As := [.long a0]) (rest := []) ⟨hx, hb, hml, hown, hts⟩ (m_X0_unitOf l a0 _ rfl) gX4_unitHolds_X0_unitOf rfl ⟨rfl, rfl⟩ (by decide +kernel) ⟨Nat.le_of_ble_eq_true rfl, Nat.le_of_ble_eq_true rfl⟩ ⟨Nat.le_of_ble_eq_true rfl, Nat.le_of_ble_eq_true rfl⟩ hl.1 rfl rfl (Nat.le_of_ble_eq_true rfl) dX4_unitHolds_1 ?_
  refine lv_lstore_n (lv' := [(2, .long (f_X0_unitOf a0)), (0, .long a0)]) hx hb dX4_unitHolds_4 rfl hl (by decide) rfl (fun ls hl => ?_)
  refine lv_lload_n hx hb dX4_unitHolds_5 rfl (lv_at hl 1 rfl) ?_
  refine my_callPi (As := [.long a0]) (rest := []) ⟨hx, hb, hml, hown, hts⟩ (m_X0_hasNoEnd l a0 _ rfl) gX4_unitHolds_X0_hasNoEnd rfl ⟨rfl, rfl⟩ (by decide +kernel) ⟨Nat.le_of_ble_eq_true rfl, Nat.le_of_ble_eq_true rfl⟩ ⟨Nat.le_of_ble_eq_true rfl, Nat.le_of_ble_eq_true rfl⟩ hl.1 rfl rfl (Nat.le_of_ble_eq_true rfl) dX4_unitHolds_6 ?_
  refine my_bz_eq (x := (f_X0_hasNoEnd a0)) (tgt := 26) hx hb dX4_unitHolds_9 (by decide) (fun c1 => ?_) (fun c1 => ?_)
  · rw [if_pos c1] at hf
    refine lv_lload_n hx hb dX4_unitHolds_26 rfl (lv_at hl 1 rfl) ?_
    refine my_callPl (As := [.long a0]) (rest := []) ⟨hx, hb, hml, hown, hts⟩ (m_X0_sizeOf l a0 _ rfl) gX4_unitHolds_X0_sizeOf rfl ⟨rfl, rfl⟩ (by decide +kernel) ⟨Nat.le_of_ble_eq_true rfl, Nat.le_of_ble_eq_true rfl⟩ ⟨Nat.le_of_ble_eq_true rfl, Nat.le_of_ble_eq_true rfl⟩ hl.1 rfl rfl (Nat.le_of_ble_eq_true rfl) dX4_unitHolds_27 ?_
    refine lv_lstore (lv' := [(4, .long (f_X0_sizeOf a0)), (2, .long (f_X0_unitOf a0)), (0, .long a0)]) hx hb dX4_unitHolds_30 hl (by decide) rfl (fun ls hl => ?_)
    refine lv_lload hx hb dX4_unitHolds_32 (lv_at hl 0 rfl) ?_
    refine lv_iconst (v := 1) hx hb dX4_unitHolds_34 (by decide) ?_
    refine my_callPl (As := [.long (f_X0_sizeOf a0), .int 1]) (rest := []) ⟨hx, hb, hml, hown, hts⟩ (m_X0_raised l (f_X0_sizeOf a0) 1 _ rfl) gX4_unitHolds_X0_raised rfl ⟨rfl, rfl⟩ (by decide +kernel) ⟨Nat.le_of_ble_eq_true rfl, Nat.le_of_ble_eq_true rfl⟩ ⟨Nat.le_of_ble_eq_true rfl, Nat.le_of_ble_eq_true rfl⟩ hl.1 rfl rfl (Nat.le_of_ble_eq_true rfl) dX4_unitHolds_35 ?_
    refine lv_lstore (lv' := [(6, .long (f_X0_raised (f_X0_sizeOf a0) 1)), (4, .long (f_X0_sizeOf a0)), (2, .long (f_X0_unitOf a0)), (0, .long a0)]) hx hb dX4_unitHolds_38 hl (by decide) rfl (fun ls hl => ?_)
    refine lv_lload hx hb dX4_unitHolds_40 (lv_at hl 0 rfl) ?_
    refine my_callPi (As := [.long (f_X0_raised (f_X0_sizeOf a0) 1)]) (rest := []) ⟨hx, hb, hml, hown, hts⟩ (m_X0_hasNoEnd l (f_X0_raised (f_X0_sizeOf a0) 1) _ rfl) gX4_unitHolds_X0_hasNoEnd rfl ⟨rfl, rfl⟩ (by decide +kernel) ⟨Nat.le_of_ble_eq_true rfl, Nat.le_of_ble_eq_true rfl⟩ ⟨Nat.le_of_ble_eq_true rfl, Nat.le_of_ble_eq_true rfl⟩ hl.1 rfl rfl (Nat.le_of_ble_eq_true rfl) dX4_unitHolds_42 ?_
    refine my_bz_ne (x := (f_X0_hasNoEnd (f_X0_raised (f_X0_sizeOf a0) 1))) (tgt := 66) hx hb dX4_unitHolds_45 (by decide) (fun c2 => ?_) (fun c2 => ?_)
    · rw [if_neg c2] at hf
      refine lv_iconst (v := 1) hx hb dX4_unitHolds_66 (by decide) ?_
      refine lv_goto (tgt := 71) hx hb dX4_unitHolds_67 (by decide) ?_
      exact W.zret (v := b2i true) (ty := .boolean) hx hb hr (b2i_nar _) (fun t ht hW => ⟨_, rfl, congrArg b2i (Option.some.inj hf), ht⟩) (fun q hq => absurd hq List.not_mem_nil) dX4_unitHolds_71
    · rw [if_pos c2] at hf
      refine lv_lload hx hb dX4_unitHolds_48 (lv_at hl 0 rfl) ?_
      refine lv_lload hx hb dX4_unitHolds_50 (lv_at hl 1 rfl) ?_
      refine my_callPl (As := [.long (f_X0_sizeOf a0)]) (rest := [.long (f_X0_raised (f_X0_sizeOf a0) 1)]) ⟨hx, hb, hml, hown, hts⟩ (m_X0_opposite l (f_X0_sizeOf a0) _ rfl) gX4_unitHolds_X0_opposite rfl ⟨rfl, rfl⟩ (by decide +kernel) ⟨Nat.le_of_ble_eq_true rfl, Nat.le_of_ble_eq_true rfl⟩ ⟨Nat.le_of_ble_eq_true rfl, Nat.le_of_ble_eq_true rfl⟩ hl.1 rfl rfl (Nat.le_of_ble_eq_true rfl) dX4_unitHolds_52 ?_
      refine lv_lload_n hx hb dX4_unitHolds_55 rfl (lv_at hl 2 rfl) ?_
      refine my_callPl (As := [.long (f_X0_unitOf a0)]) (rest := [.long (f_X0_opposite (f_X0_sizeOf a0)), .long (f_X0_raised (f_X0_sizeOf a0) 1)]) ⟨hx, hb, hml, hown, hts⟩ (m_X0_opposite l (f_X0_unitOf a0) _ rfl) gX4_unitHolds_X0_opposite rfl ⟨rfl, rfl⟩ (by decide +kernel) ⟨Nat.le_of_ble_eq_true rfl, Nat.le_of_ble_eq_true rfl⟩ ⟨Nat.le_of_ble_eq_true rfl, Nat.le_of_ble_eq_true rfl⟩ hl.1 rfl rfl (Nat.le_of_ble_eq_true rfl) dX4_unitHolds_56 ?_
      refine lv_lconst (v := 0) hx hb dX4_unitHolds_59 (by decide) ?_
      obtain ⟨r3, er3, hf⟩ := ob_e hf
      refine my_callPi (As := [.long (f_X0_raised (f_X0_sizeOf a0) 1), .long (f_X0_opposite (f_X0_sizeOf a0)), .long (f_X0_opposite (f_X0_unitOf a0)), .long 0]) (rest := []) ⟨hx, hb, hml, hown, hts⟩ (m_X1_signOfSum l (f_X0_raised (f_X0_sizeOf a0) 1) (f_X0_opposite (f_X0_sizeOf a0)) (f_X0_opposite (f_X0_unitOf a0)) 0 _ er3) gX4_unitHolds_X1_signOfSum rfl ⟨rfl, rfl⟩ (by decide +kernel) ⟨Nat.le_of_ble_eq_true rfl, Nat.le_of_ble_eq_true rfl⟩ ⟨Nat.le_of_ble_eq_true rfl, Nat.le_of_ble_eq_true rfl⟩ hl.1 rfl rfl (Nat.le_of_ble_eq_true rfl) dX4_unitHolds_60 ?_
      refine my_if_ne (tgt := 70) hx hb dX4_unitHolds_63 (by decide) (fun c4 => ?_) (fun c4 => ?_)
      · rw [if_neg c4] at hf
        refine lv_iconst (v := 0) hx hb dX4_unitHolds_70 (by decide) ?_
        exact W.zret (v := b2i false) (ty := .boolean) hx hb hr (b2i_nar _) (fun t ht hW => ⟨_, rfl, congrArg b2i (Option.some.inj hf), ht⟩) (fun q hq => absurd hq List.not_mem_nil) dX4_unitHolds_71
      · rw [if_pos c4] at hf
        refine lv_iconst (v := 1) hx hb dX4_unitHolds_66 (by decide) ?_
        refine lv_goto (tgt := 71) hx hb dX4_unitHolds_67 (by decide) ?_
        exact W.zret (v := b2i true) (ty := .boolean) hx hb hr (b2i_nar _) (fun t ht hW => ⟨_, rfl, congrArg b2i (Option.some.inj hf), ht⟩) (fun q hq => absurd hq List.not_mem_nil) dX4_unitHolds_71
  · rw [if_neg c1] at hf
    refine lv_lload_n hx hb dX4_unitHolds_12 rfl (lv_at hl 0 rfl) ?_
    refine lv_ldc2 (v := 9218868437227405312) hx hb hown q1 dX4_unitHolds_13 ?_
    refine my_lc_ne (tgt := 24) hx hb dX4_unitHolds_16 dX4_unitHolds_17 (by decide) (fun c5 => ?_) (fun c5 => ?_)
    · rw [if_neg c5] at hf
      refine lv_iconst (v := 0) hx hb dX4_unitHolds_24 (by decide) ?_
      exact W.zret (v := b2i false) (ty := .boolean) hx hb hr (b2i_nar _) (fun t ht hW => ⟨_, rfl, congrArg b2i (Option.some.inj hf), ht⟩) (fun q hq => absurd hq List.not_mem_nil) dX4_unitHolds_25
    · rw [if_pos c5] at hf
      refine lv_iconst (v := 1) hx hb dX4_unitHolds_20 (by decide) ?_
      refine lv_goto (tgt := 25) hx hb dX4_unitHolds_21 (by decide) ?_
      exact W.zret (v := b2i true) (ty := .boolean) hx hb hr (b2i_nar _) (fun t ht hW => ⟨_, rfl, congrArg b2i (Option.some.inj hf), ht⟩) (fun q hq => absurd hq List.not_mem_nil) dX4_unitHolds_25

def f_X4_powersHold (a0 : Int64) : Bool := (if (f_X0_isZero a0) = false then (if (f_X0_hasNoEnd a0) = false then (if (f_X0_leadOf a0) < (f_X0_tailOf a0) then false else (if 0 < (f_X0_order (f_X0_powerOfTwo (f_X0_leadOf a0)) (f_X0_sizeOf a0)) then false else (if (f_X0_order (f_X0_sizeOf a0) (f_X0_scaled (f_X0_powerOfTwo (f_X0_leadOf a0)) 1)) < 0 then (if (f_X0_hasNoEnd (f_X0_scaled a0 1)) = false then (if (f_X0_scaled (f_X0_scaled a0 1) (-1)) = a0 then true else false) else true) else false))) else (if (f_X0_scaled a0 1) = a0 then true else false)) else (if (f_X0_scaled a0 1) = a0 then true else false))
abbrev rmX4_powersHold : Room := { frames := 4, cells := 0, slots := 0, locals := 89 }
set_option maxHeartbeats 4000000 in
set_option maxRecDepth 100000 in
theorem m_X4_powersHold (l : Launch) (a0 : Int64) (res : Bool) (hf : f_X4_powersHold a0 = res) : Met l yX4_powersHold wsX4_powersHold rmX4_powersHold (my_PcP [.long a0]) (vp_Si (fun z => z = b2i res)) 0 0 (fun _ => False) := by
  refine Met.ofW (cc := cX4_powersHold) (maxL := 8) (ret := (some .boolean)) (by decide) rfl ?_
  intro p e s m args below meth c s₁ B hml hv
  obtain ⟨rfl, -⟩ := hv
  have hx := B.exec
  have hb := B.bytes
  have hr := B.returns
  have hts : ∀ w ∈ wsX4_powersHold, w.before ([.long a0] : List Value).toArray s = true := atoms_spec (ws := wsX4_powersHold) B.pre
  have hown : s.vm.findClass RX4 = some m.cls := findClass_of_methodNamed B.named
  have hlk : meth.locks = false := B.notSynchronized
  have hl := lv_entry ([.long a0]) (n := 8) (Nat.le_of_ble_eq_true rfl)
  rw [lg_entry_eq]
  generalize (lg_sl ([.long a0]) ++ List.replicate (8 - (lg_sl ([.long a0])).length) Slot.unset).toArray = ls at hl ⊢
  have hl : lv_has ls 8 [(0, .long a0)] := hl
  unfold f_X4_powersHold at hf
  refine lv_lload_n hx hb dX4_powersHold_0 rfl (lv_at hl 0 rfl) ?_
  refine my_callPi (As := [.long a0]) (rest := []) ⟨hx, hb, hml, hown, hts⟩ (m_X0_isZero l a0 _ rfl) gX4_powersHold_X0_isZero rfl ⟨rfl, rfl⟩ (by decide +kernel) ⟨Nat.le_of_ble_eq_true rfl, Nat.le_of_ble_eq_true rfl⟩ ⟨Nat.le_of_ble_eq_true rfl, Nat.le_of_ble_eq_true rfl⟩ hl.1 rfl rfl (Nat.le_of_ble_eq_true rfl) dX4_powersHold_1 ?_
  refine my_bz_ne (x := (f_X0_isZero a0)) (tgt := 14) hx hb dX4_powersHold_4 (by decide) (fun c1 => ?_) (fun c1 => ?_)
  · rw [if_neg c1] at hf
    refine lv_lload_n hx hb dX4_powersHold_14 rfl (lv_at hl 0 rfl) ?_
    refine lv_iconst (v := 1) hx hb dX4_powersHold_15 (by decide) ?_
    refine my_callPl (As := [.long a0, .int 1]) (rest := []) ⟨hx, hb, hml, hown, hts⟩ (m_X0_scaled l a0 1 _ rfl) gX4_powersHold_X0_scaled rfl ⟨rfl, rfl⟩ (by decide +kernel) ⟨Nat.le_of_ble_eq_true rfl, Nat.le_of_ble_eq_true rfl⟩ ⟨Nat.le_of_ble_eq_true rfl, Nat.le_of_ble_eq_true rfl⟩ hl.1 rfl rfl (Nat.le_of_ble_eq_true rfl) dX4_powersHold_16 ?_
    refine lv_lload_n hx hb dX4_powersHold_19 rfl (lv_at hl 0 rfl) ?_
    refine my_lc_ne (tgt := 28) hx hb dX4_powersHold_20 dX4_powersHold_21 (by decide) (fun c2 => ?_) (fun c2 => ?_)
    · rw [if_neg c2] at hf
      refine lv_iconst (v := 0) hx hb dX4_powersHold_28 (by decide) ?_
      exact W.zret (v := b2i false) (ty := .boolean) hx hb hr (b2i_nar _) (fun t ht hW => ⟨_, rfl, congrArg b2i (hf), ht⟩) (fun q hq => absurd hq List.not_mem_nil) dX4_powersHold_29
    · rw [if_pos c2] at hf
      refine lv_iconst (v := 1) hx hb dX4_powersHold_24 (by decide) ?_
      refine lv_goto (tgt := 29) hx hb dX4_powersHold_25 (by decide) ?_
      exact W.zret (v := b2i true) (ty := .boolean) hx hb hr (b2i_nar _) (fun t ht hW => ⟨_, rfl, congrArg b2i (hf), ht⟩) (fun q hq => absurd hq List.not_mem_nil) dX4_powersHold_29
  · rw [if_pos c1] at hf
    refine lv_lload_n hx hb dX4_powersHold_7 rfl (lv_at hl 0 rfl) ?_
    refine my_callPi (As := [.long a0]) (rest := []) ⟨hx, hb, hml, hown, hts⟩ (m_X0_hasNoEnd l a0 _ rfl) gX4_powersHold_X0_hasNoEnd rfl ⟨rfl, rfl⟩ (by decide +kernel) ⟨Nat.le_of_ble_eq_true rfl, Nat.le_of_ble_eq_true rfl⟩ ⟨Nat.le_of_ble_eq_true rfl, Nat.le_of_ble_eq_true rfl⟩ hl.1 rfl rfl (Nat.le_of_ble_eq_true rfl) dX4_powersHold_8 ?_
    refine my_bz_eq (x := (f_X0_hasNoEnd a0)) (tgt := 30) hx hb dX4_powersHold_11 (by decide) (fun c3 => ?_) (fun c3 => ?_)
    · rw [if_pos c3] at hf
      refine lv_lload_n hx hb dX4_powersHold_30 rfl (lv_at hl 0 rfl) ?_
      refine my_callPl (As := [.long a0]) (rest := []) ⟨hx, hb, hml, hown, hts⟩ (m_X0_sizeOf l a0 _ rfl) gX4_powersHold_X0_sizeOf rfl ⟨rfl, rfl⟩ (by decide +kernel) ⟨Nat.le_of_ble_eq_true rfl, Nat.le_of_ble_eq_true rfl⟩ ⟨Nat.le_of_ble_eq_true rfl, Nat.le_of_ble_eq_true rfl⟩ hl.1 rfl rfl (Nat.le_of_ble_eq_true rfl) dX4_powersHold_31 ?_
      refine lv_lstore_n (lv' := [(2, .long (f_X0_sizeOf a0)), (0, .long a0)]) hx hb dX4_powersHold_34 rfl hl (by decide) rfl (fun ls hl => ?_)
      refine lv_lload_n hx hb dX4_powersHold_35 rfl (lv_at hl 1 rfl) ?_
      refine my_callPi (As := [.long a0]) (rest := []) ⟨hx, hb, hml, hown, hts⟩ (m_X0_leadOf l a0 _ rfl) gX4_powersHold_X0_leadOf rfl ⟨rfl, rfl⟩ (by decide +kernel) ⟨Nat.le_of_ble_eq_true rfl, Nat.le_of_ble_eq_true rfl⟩ ⟨Nat.le_of_ble_eq_true rfl, Nat.le_of_ble_eq_true rfl⟩ hl.1 rfl rfl (Nat.le_of_ble_eq_true rfl) dX4_powersHold_36 ?_
      refine my_callPl (As := [.int (f_X0_leadOf a0)]) (rest := []) ⟨hx, hb, hml, hown, hts⟩ (m_X0_powerOfTwo l (f_X0_leadOf a0) _ rfl) gX4_powersHold_X0_powerOfTwo rfl ⟨rfl, rfl⟩ (by decide +kernel) ⟨Nat.le_of_ble_eq_true rfl, Nat.le_of_ble_eq_true rfl⟩ ⟨Nat.le_of_ble_eq_true rfl, Nat.le_of_ble_eq_true rfl⟩ hl.1 rfl rfl (Nat.le_of_ble_eq_true rfl) dX4_powersHold_39 ?_
      refine lv_lstore (lv' := [(4, .long (f_X0_powerOfTwo (f_X0_leadOf a0))), (2, .long (f_X0_sizeOf a0)), (0, .long a0)]) hx hb dX4_powersHold_42 hl (by decide) rfl (fun ls hl => ?_)
      refine lv_lload_n hx hb dX4_powersHold_44 rfl (lv_at hl 2 rfl) ?_
      refine lv_iconst (v := 1) hx hb dX4_powersHold_45 (by decide) ?_
      refine my_callPl (As := [.long a0, .int 1]) (rest := []) ⟨hx, hb, hml, hown, hts⟩ (m_X0_scaled l a0 1 _ rfl) gX4_powersHold_X0_scaled rfl ⟨rfl, rfl⟩ (by decide +kernel) ⟨Nat.le_of_ble_eq_true rfl, Nat.le_of_ble_eq_true rfl⟩ ⟨Nat.le_of_ble_eq_true rfl, Nat.le_of_ble_eq_true rfl⟩ hl.1 rfl rfl (Nat.le_of_ble_eq_true rfl) dX4_powersHold_46 ?_
      refine lv_lstore (lv' := [(6, .long (f_X0_scaled a0 1)), (4, .long (f_X0_powerOfTwo (f_X0_leadOf a0))), (2, .long (f_X0_sizeOf a0)), (0, .long a0)]) hx hb dX4_powersHold_49 hl (by decide) rfl (fun ls hl => ?_)
      refine lv_lload_n hx hb dX4_powersHold_51 rfl (lv_at hl 3 rfl) ?_
      refine my_callPi (As := [.long a0]) (rest := []) ⟨hx, hb, hml, hown, hts⟩ (m_X0_tailOf l a0 _ rfl) gX4_powersHold_X0_tailOf rfl ⟨rfl, rfl⟩ (by decide +kernel) ⟨Nat.le_of_ble_eq_true rfl, Nat.le_of_ble_eq_true rfl⟩ ⟨Nat.le_of_ble_eq_true rfl, Nat.le_of_ble_eq_true rfl⟩ hl.1 rfl rfl (Nat.le_of_ble_eq_true rfl) dX4_powersHold_52 ?_
      refine lv_lload_n hx hb dX4_powersHold_55 rfl (lv_at hl 3 rfl) ?_
      refine my_callPi (As := [.long a0]) (rest := [.int (f_X0_tailOf a0)]) ⟨hx, hb, hml, hown, hts⟩ (m_X0_leadOf l a0 _ rfl) gX4_powersHold_X0_leadOf rfl ⟨rfl, rfl⟩ (by decide +kernel) ⟨Nat.le_of_ble_eq_true rfl, Nat.le_of_ble_eq_true rfl⟩ ⟨Nat.le_of_ble_eq_true rfl, Nat.le_of_ble_eq_true rfl⟩ hl.1 rfl rfl (Nat.le_of_ble_eq_true rfl) dX4_powersHold_56 ?_
      refine my_ic_gt (tgt := 107) hx hb dX4_powersHold_59 (by decide) (fun c4 => ?_) (fun c4 => ?_)
      · rw [if_pos c4] at hf
        refine lv_iconst (v := 0) hx hb dX4_powersHold_107 (by decide) ?_
        exact W.zret (v := b2i false) (ty := .boolean) hx hb hr (b2i_nar _) (fun t ht hW => ⟨_, rfl, congrArg b2i (hf), ht⟩) (fun q hq => absurd hq List.not_mem_nil) dX4_powersHold_108
      · rw [if_neg c4] at hf
        refine lv_lload hx hb dX4_powersHold_62 (lv_at hl 1 rfl) ?_
        refine lv_lload_n hx hb dX4_powersHold_64 rfl (lv_at hl 2 rfl) ?_
        refine my_callPi (As := [.long (f_X0_powerOfTwo (f_X0_leadOf a0)), .long (f_X0_sizeOf a0)]) (rest := []) ⟨hx, hb, hml, hown, hts⟩ (m_X0_order l (f_X0_powerOfTwo (f_X0_leadOf a0)) (f_X0_sizeOf a0) _ rfl) gX4_powersHold_X0_order rfl ⟨rfl, rfl⟩ (by decide +kernel) ⟨Nat.le_of_ble_eq_true rfl, Nat.le_of_ble_eq_true rfl⟩ ⟨Nat.le_of_ble_eq_true rfl, Nat.le_of_ble_eq_true rfl⟩ hl.1 rfl rfl (Nat.le_of_ble_eq_true rfl) dX4_powersHold_65 ?_
        refine my_if_gt (tgt := 107) hx hb dX4_powersHold_68 (by decide) (fun c5 => ?_) (fun c5 => ?_)
        · rw [if_pos c5] at hf
          refine lv_iconst (v := 0) hx hb dX4_powersHold_107 (by decide) ?_
          exact W.zret (v := b2i false) (ty := .boolean) hx hb hr (b2i_nar _) (fun t ht hW => ⟨_, rfl, congrArg b2i (hf), ht⟩) (fun q hq => absurd hq List.not_mem_nil) dX4_powersHold_108
        · rw [if_neg c5] at hf
          refine lv_lload_n hx hb dX4_powersHold_71 rfl (lv_at hl 2 rfl) ?_
          refine lv_lload hx hb dX4_powersHold_72 (lv_at hl 1 rfl) ?_
          refine lv_iconst (v := 1) hx hb dX4_powersHold_74 (by decide) ?_
          refine my_callPl (As := [.long (f_X0_powerOfTwo (f_X0_leadOf a0)), .int 1]) (rest := [.long (f_X0_sizeOf a0)]) ⟨hx, hb, hml, hown, hts⟩ (m_X0_scaled l (f_X0_powerOfTwo (f_X0_leadOf a0)) 1 _ rfl) gX4_powersHold_X0_scaled rfl ⟨rfl, rfl⟩ (by decide +kernel) ⟨Nat.le_of_ble_eq_true rfl, Nat.le_of_ble_eq_true rfl⟩ ⟨Nat.le_of_ble_eq_true rfl, Nat.le_of_ble_eq_true rfl⟩ hl.1 rfl rfl (Nat.le_of_ble_eq_true rfl) dX4_powersHold_75 ?_
          refine my_callPi (As := [.long (f_X0_sizeOf a0), .long (f_X0_scaled (f_X0_powerOfTwo (f_X0_leadOf a0)) 1)]) (rest := []) ⟨hx, hb, hml, hown, hts⟩ (m_X0_order l (f_X0_sizeOf a0) (f_X0_scaled (f_X0_powerOfTwo (f_X0_leadOf a0)) 1) _ rfl) gX4_powersHold_X0_order rfl ⟨rfl, rfl⟩ (by decide +kernel) ⟨Nat.le_of_ble_eq_true rfl, Nat.le_of_ble_eq_true rfl⟩ ⟨Nat.le_of_ble_eq_true rfl, Nat.le_of_ble_eq_true rfl⟩ hl.1 rfl rfl (Nat.le_of_ble_eq_true rfl) dX4_powersHold_78 ?_
          refine my_if_ge (tgt := 107) hx hb dX4_powersHold_81 (by decide) (fun c6 => ?_) (fun c6 => ?_)
          · rw [if_neg c6] at hf
            refine lv_iconst (v := 0) hx hb dX4_powersHold_107 (by decide) ?_
            exact W.zret (v := b2i false) (ty := .boolean) hx hb hr (b2i_nar _) (fun t ht hW => ⟨_, rfl, congrArg b2i (hf), ht⟩) (fun q hq => absurd hq List.not_mem_nil) dX4_powersHold_108
          · rw [if_pos c6] at hf
            refine lv_lload hx hb dX4_powersHold_84 (lv_at hl 0 rfl) ?_
            refine my_callPi (As := [.long (f_X0_scaled a0 1)]) (rest := []) ⟨hx, hb, hml, hown, hts⟩ (m_X0_hasNoEnd l (f_X0_scaled a0 1) _ rfl) gX4_powersHold_X0_hasNoEnd rfl ⟨rfl, rfl⟩ (by decide +kernel) ⟨Nat.le_of_ble_eq_true rfl, Nat.le_of_ble_eq_true rfl⟩ ⟨Nat.le_of_ble_eq_true rfl, Nat.le_of_ble_eq_true rfl⟩ hl.1 rfl rfl (Nat.le_of_ble_eq_true rfl) dX4_powersHold_86 ?_
            refine my_bz_ne (x := (f_X0_hasNoEnd (f_X0_scaled a0 1))) (tgt := 103) hx hb dX4_powersHold_89 (by decide) (fun c7 => ?_) (fun c7 => ?_)
            · rw [if_neg c7] at hf
              refine lv_iconst (v := 1) hx hb dX4_powersHold_103 (by decide) ?_
              refine lv_goto (tgt := 108) hx hb dX4_powersHold_104 (by decide) ?_
              exact W.zret (v := b2i true) (ty := .boolean) hx hb hr (b2i_nar _) (fun t ht hW => ⟨_, rfl, congrArg b2i (hf), ht⟩) (fun q hq => absurd hq List.not_mem_nil) dX4_powersHold_108
            · rw [if_pos c7] at hf
              refine lv_lload hx hb dX4_powersHold_92 (lv_at hl 0 rfl) ?_
              refine lv_iconst (v := (-1)) hx hb dX4_powersHold_94 (by decide) ?_
              refine my_callPl (As := [.long (f_X0_scaled a0 1), .int (-1)]) (rest := []) ⟨hx, hb, hml, hown, hts⟩ (m_X0_scaled l (f_X0_scaled a0 1) (-1) _ rfl) gX4_powersHold_X0_scaled rfl ⟨rfl, rfl⟩ (by decide +kernel) ⟨Nat.le_of_ble_eq_true rfl, Nat.le_of_ble_eq_true rfl⟩ ⟨Nat.le_of_ble_eq_true rfl, Nat.le_of_ble_eq_true rfl⟩ hl.1 rfl rfl (Nat.le_of_ble_eq_true rfl) dX4_powersHold_95 ?_
              refine lv_lload_n hx hb dX4_powersHold_98 rfl (lv_at hl 3 rfl) ?_
              refine my_lc_ne (tgt := 107) hx hb dX4_powersHold_99 dX4_powersHold_100 (by decide) (fun c8 => ?_) (fun c8 => ?_)
              · rw [if_neg c8] at hf
                refine lv_iconst (v := 0) hx hb dX4_powersHold_107 (by decide) ?_
                exact W.zret (v := b2i false) (ty := .boolean) hx hb hr (b2i_nar _) (fun t ht hW => ⟨_, rfl, congrArg b2i (hf), ht⟩) (fun q hq => absurd hq List.not_mem_nil) dX4_powersHold_108
              · rw [if_pos c8] at hf
                refine lv_iconst (v := 1) hx hb dX4_powersHold_103 (by decide) ?_
                refine lv_goto (tgt := 108) hx hb dX4_powersHold_104 (by decide) ?_
                exact W.zret (v := b2i true) (ty := .boolean) hx hb hr (b2i_nar _) (fun t ht hW => ⟨_, rfl, congrArg b2i (hf), ht⟩) (fun q hq => absurd hq List.not_mem_nil) dX4_powersHold_108
    · rw [if_neg c3] at hf
      refine lv_lload_n hx hb dX4_powersHold_14 rfl (lv_at hl 0 rfl) ?_
      refine lv_iconst (v := 1) hx hb dX4_powersHold_15 (by decide) ?_
      refine my_callPl (As := [.long a0, .int 1]) (rest := []) ⟨hx, hb, hml, hown, hts⟩ (m_X0_scaled l a0 1 _ rfl) gX4_powersHold_X0_scaled rfl ⟨rfl, rfl⟩ (by decide +kernel) ⟨Nat.le_of_ble_eq_true rfl, Nat.le_of_ble_eq_true rfl⟩ ⟨Nat.le_of_ble_eq_true rfl, Nat.le_of_ble_eq_true rfl⟩ hl.1 rfl rfl (Nat.le_of_ble_eq_true rfl) dX4_powersHold_16 ?_
      refine lv_lload_n hx hb dX4_powersHold_19 rfl (lv_at hl 0 rfl) ?_
      refine my_lc_ne (tgt := 28) hx hb dX4_powersHold_20 dX4_powersHold_21 (by decide) (fun c9 => ?_) (fun c9 => ?_)
      · rw [if_neg c9] at hf
        refine lv_iconst (v := 0) hx hb dX4_powersHold_28 (by decide) ?_
        exact W.zret (v := b2i false) (ty := .boolean) hx hb hr (b2i_nar _) (fun t ht hW => ⟨_, rfl, congrArg b2i (hf), ht⟩) (fun q hq => absurd hq List.not_mem_nil) dX4_powersHold_29
      · rw [if_pos c9] at hf
        refine lv_iconst (v := 1) hx hb dX4_powersHold_24 (by decide) ?_
        refine lv_goto (tgt := 29) hx hb dX4_powersHold_25 (by decide) ?_
        exact W.zret (v := b2i true) (ty := .boolean) hx hb hr (b2i_nar _) (fun t ht hW => ⟨_, rfl, congrArg b2i (hf), ht⟩) (fun q hq => absurd hq List.not_mem_nil) dX4_powersHold_29

def f_X4_holdsAt (a0 : Int64) : Option (Bool) := (if (f_X4_stepsHold a0) = false then some false else (if (f_X4_stepsHold (f_X0_opposite a0)) = false then some false else ((f_X4_unitHolds a0).bind fun r3 => (if r3 = false then some false else (if (f_X4_powersHold a0) = false then some false else some true)))))
abbrev rmX4_holdsAt : Room := { frames := 6, cells := 0, slots := 0, locals := 135 }
set_option maxHeartbeats 4000000 in
set_option maxRecDepth 100000 in
theorem m_X4_holdsAt (l : Launch) (a0 : Int64) (res : Bool) (hf : f_X4_holdsAt a0 = some res) : Met l yX4_holdsAt wsX4_holdsAt rmX4_holdsAt (my_PcP [.long a0]) (vp_Si (fun z => z = b2i res)) 0 0 (fun _ => False) := by
  refine Met.ofW (cc := cX4_holdsAt) (maxL := 2) (ret := (some .boolean)) (by decide) rfl ?_
  intro p e s m args below meth c s₁ B hml hv
  obtain ⟨rfl, -⟩ := hv
  have hx := B.exec
  have hb := B.bytes
  have hr := B.returns
  have hts : ∀ w ∈ wsX4_holdsAt, w.before ([.long a0] : List Value).toArray s = true := atoms_spec (ws := wsX4_holdsAt) B.pre
  have hown : s.vm.findClass RX4 = some m.cls := findClass_of_methodNamed B.named
  have hlk : meth.locks = false := B.notSynchronized
  have hl := lv_entry ([.long a0]) (n := 2) (Nat.le_of_ble_eq_true rfl)
  rw [lg_entry_eq]
  generalize (lg_sl ([.long a0]) ++ List.replicate (2 - (lg_sl ([.long a0])).length) Slot.unset).toArray = ls at hl ⊢
  have hl : lv_has ls 2 [(0, .long a0)] := hl
  unfold f_X4_holdsAt at hf
  refine lv_lload_n hx hb dX4_holdsAt_0 rfl (lv_at hl 0 rfl) ?_
  refine my_callPi (As := [.long a0]) (rest := []) ⟨hx, hb, hml, hown, hts⟩ (m_X4_stepsHold l a0 _ rfl) gX4_holdsAt_X4_stepsHold rfl ⟨rfl, rfl⟩ (by decide +kernel) ⟨Nat.le_of_ble_eq_true rfl, Nat.le_of_ble_eq_true rfl⟩ ⟨Nat.le_of_ble_eq_true rfl, Nat.le_of_ble_eq_true rfl⟩ hl.1 rfl rfl (Nat.le_of_ble_eq_true rfl) dX4_holdsAt_1 ?_
  refine my_bz_eq (x := (f_X4_stepsHold a0)) (tgt := 35) hx hb dX4_holdsAt_4 (by decide) (fun c1 => ?_) (fun c1 => ?_)
  · rw [if_pos c1] at hf
    refine lv_iconst (v := 0) hx hb dX4_holdsAt_35 (by decide) ?_
    exact W.zret (v := b2i false) (ty := .boolean) hx hb hr (b2i_nar _) (fun t ht hW => ⟨_, rfl, congrArg b2i (Option.some.inj hf), ht⟩) (fun q hq => absurd hq List.not_mem_nil) dX4_holdsAt_36
  · rw [if_neg c1] at hf
    refine lv_lload_n hx hb dX4_holdsAt_7 rfl (lv_at hl 0 rfl) ?_
    refine my_callPl (As := [.long a0]) (rest := []) ⟨hx, hb, hml, hown, hts⟩ (m_X0_opposite l a0 _ rfl) gX4_holdsAt_X0_opposite rfl ⟨rfl, rfl⟩ (by decide +kernel) ⟨Nat.le_of_ble_eq_true rfl, Nat.le_of_ble_eq_true rfl⟩ ⟨Nat.le_of_ble_eq_true rfl, Nat.le_of_ble_eq_true rfl⟩ hl.1 rfl rfl (Nat.le_of_ble_eq_true rfl) dX4_holdsAt_8 ?_
    refine my_callPi (As := [.long (f_X0_opposite a0)]) (rest := []) ⟨hx, hb, hml, hown, hts⟩ (m_X4_stepsHold l (f_X0_opposite a0) _ rfl) gX4_holdsAt_X4_stepsHold rfl ⟨rfl, rfl⟩ (by decide +kernel) ⟨Nat.le_of_ble_eq_true rfl, Nat.le_of_ble_eq_true rfl⟩ ⟨Nat.le_of_ble_eq_true rfl, Nat.le_of_ble_eq_true rfl⟩ hl.1 rfl rfl (Nat.le_of_ble_eq_true rfl) dX4_holdsAt_11 ?_
    refine my_bz_eq (x := (f_X4_stepsHold (f_X0_opposite a0))) (tgt := 35) hx hb dX4_holdsAt_14 (by decide) (fun c2 => ?_) (fun c2 => ?_)
    · rw [if_pos c2] at hf
      refine lv_iconst (v := 0) hx hb dX4_holdsAt_35 (by decide) ?_
      exact W.zret (v := b2i false) (ty := .boolean) hx hb hr (b2i_nar _) (fun t ht hW => ⟨_, rfl, congrArg b2i (Option.some.inj hf), ht⟩) (fun q hq => absurd hq List.not_mem_nil) dX4_holdsAt_36
    · rw [if_neg c2] at hf
      refine lv_lload_n hx hb dX4_holdsAt_17 rfl (lv_at hl 0 rfl) ?_
      obtain ⟨r3, er3, hf⟩ := ob_e hf
      refine my_callPi (As := [.long a0]) (rest := []) ⟨hx, hb, hml, hown, hts⟩ (m_X4_unitHolds l a0 _ er3) gX4_holdsAt_X4_unitHolds rfl ⟨rfl, rfl⟩ (by decide +kernel) ⟨Nat.le_of_ble_eq_true rfl, Nat.le_of_ble_eq_true rfl⟩ ⟨Nat.le_of_ble_eq_true rfl, Nat.le_of_ble_eq_true rfl⟩ hl.1 rfl rfl (Nat.le_of_ble_eq_true rfl) dX4_holdsAt_18 ?_
      refine my_bz_eq (x := r3) (tgt := 35) hx hb dX4_holdsAt_21 (by decide) (fun c4 => ?_) (fun c4 => ?_)
      · rw [if_pos c4] at hf
        refine lv_iconst (v := 0) hx hb dX4_holdsAt_35 (by decide) ?_
        exact W.zret (v := b2i false) (ty := .boolean) hx hb hr (b2i_nar _) (fun t ht hW => ⟨_, rfl, congrArg b2i (Option.some.inj hf), ht⟩) (fun q hq => absurd hq List.not_mem_nil) dX4_holdsAt_36
      · rw [if_neg c4] at hf
        refine lv_lload_n hx hb dX4_holdsAt_24 rfl (lv_at hl 0 rfl) ?_
        refine my_callPi (As := [.long a0]) (rest := []) ⟨hx, hb, hml, hown, hts⟩ (m_X4_powersHold l a0 _ rfl) gX4_holdsAt_X4_powersHold rfl ⟨rfl, rfl⟩ (by decide +kernel) ⟨Nat.le_of_ble_eq_true rfl, Nat.le_of_ble_eq_true rfl⟩ ⟨Nat.le_of_ble_eq_true rfl, Nat.le_of_ble_eq_true rfl⟩ hl.1 rfl rfl (Nat.le_of_ble_eq_true rfl) dX4_holdsAt_25 ?_
        refine my_bz_eq (x := (f_X4_powersHold a0)) (tgt := 35) hx hb dX4_holdsAt_28 (by decide) (fun c5 => ?_) (fun c5 => ?_)
        · rw [if_pos c5] at hf
          refine lv_iconst (v := 0) hx hb dX4_holdsAt_35 (by decide) ?_
          exact W.zret (v := b2i false) (ty := .boolean) hx hb hr (b2i_nar _) (fun t ht hW => ⟨_, rfl, congrArg b2i (Option.some.inj hf), ht⟩) (fun q hq => absurd hq List.not_mem_nil) dX4_holdsAt_36
        · rw [if_neg c5] at hf
          refine lv_iconst (v := 1) hx hb dX4_holdsAt_31 (by decide) ?_
          refine lv_goto (tgt := 36) hx hb dX4_holdsAt_32 (by decide) ?_
          exact W.zret (v := b2i true) (ty := .boolean) hx hb hr (b2i_nar _) (fun t ht hW => ⟨_, rfl, congrArg b2i (Option.some.inj hf), ht⟩) (fun q hq => absurd hq List.not_mem_nil) dX4_holdsAt_36

def f_X4_stepHolds (a0 : Int64) (a1 : Int64) : Bool := (if (f_X0_order a0 a1) = 0 then (if (f_X0_nearer a0 a1) = a1 then true else false) else (if (f_X0_distance (f_X0_nearer a0 a1) a1) = ((f_X0_distance a0 a1) - 1) then true else false))
abbrev rmX4_stepHolds : Room := { frames := 4, cells := 0, slots := 0, locals := 91 }
set_option maxHeartbeats 4000000 in
set_option maxRecDepth 100000 in
theorem m_X4_stepHolds (l : Launch) (a0 : Int64) (a1 : Int64) (res : Bool) (hf : f_X4_stepHolds a0 a1 = res) : Met l yX4_stepHolds wsX4_stepHolds rmX4_stepHolds (my_PcP [.long a0, .long a1]) (vp_Si (fun z => z = b2i res)) 0 0 (fun _ => False) := by
  refine Met.ofW (cc := cX4_stepHolds) (maxL := 6) (ret := (some .boolean)) (by decide) rfl ?_
  intro p e s m args below meth c s₁ B hml hv
  obtain ⟨rfl, -⟩ := hv
  have hx := B.exec
  have hb := B.bytes
  have hr := B.returns
  have hts : ∀ w ∈ wsX4_stepHolds, w.before ([.long a0, .long a1] : List Value).toArray s = true := atoms_spec (ws := wsX4_stepHolds) B.pre
  have hown : s.vm.findClass RX4 = some m.cls := findClass_of_methodNamed B.named
  have hlk : meth.locks = false := B.notSynchronized
  have hl := lv_entry ([.long a0, .long a1]) (n := 6) (Nat.le_of_ble_eq_true rfl)
  rw [lg_entry_eq]
  generalize (lg_sl ([.long a0, .long a1]) ++ List.replicate (6 - (lg_sl ([.long a0, .long a1])).length) Slot.unset).toArray = ls at hl ⊢
  have hl : lv_has ls 6 [(0, .long a0), (2, .long a1)] := hl
  unfold f_X4_stepHolds at hf
  refine lv_lload_n hx hb dX4_stepHolds_0 rfl (lv_at hl 0 rfl) ?_
  refine lv_lload_n hx hb dX4_stepHolds_1 rfl (lv_at hl 1 rfl) ?_
  refine my_callPl (As := [.long a0, .long a1]) (rest := []) ⟨hx, hb, hml, hown, hts⟩ (m_X0_nearer l a0 a1 _ rfl) gX4_stepHolds_X0_nearer rfl ⟨rfl, rfl⟩ (by decide +kernel) ⟨Nat.le_of_ble_eq_true rfl, Nat.le_of_ble_eq_true rfl⟩ ⟨Nat.le_of_ble_eq_true rfl, Nat.le_of_ble_eq_true rfl⟩ hl.1 rfl rfl (Nat.le_of_ble_eq_true rfl) dX4_stepHolds_2 ?_
  refine lv_lstore (lv' := [(4, .long (f_X0_nearer a0 a1)), (0, .long a0), (2, .long a1)]) hx hb dX4_stepHolds_5 hl (by decide) rfl (fun ls hl => ?_)
  refine lv_lload_n hx hb dX4_stepHolds_7 rfl (lv_at hl 1 rfl) ?_
  refine lv_lload_n hx hb dX4_stepHolds_8 rfl (lv_at hl 2 rfl) ?_
  refine my_callPi (As := [.long a0, .long a1]) (rest := []) ⟨hx, hb, hml, hown, hts⟩ (m_X0_order l a0 a1 _ rfl) gX4_stepHolds_X0_order rfl ⟨rfl, rfl⟩ (by decide +kernel) ⟨Nat.le_of_ble_eq_true rfl, Nat.le_of_ble_eq_true rfl⟩ ⟨Nat.le_of_ble_eq_true rfl, Nat.le_of_ble_eq_true rfl⟩ hl.1 rfl rfl (Nat.le_of_ble_eq_true rfl) dX4_stepHolds_9 ?_
  refine my_if_ne (tgt := 28) hx hb dX4_stepHolds_12 (by decide) (fun c1 => ?_) (fun c1 => ?_)
  · rw [if_neg c1] at hf
    refine lv_lload hx hb dX4_stepHolds_28 (lv_at hl 0 rfl) ?_
    refine lv_lload_n hx hb dX4_stepHolds_30 rfl (lv_at hl 2 rfl) ?_
    refine my_callPl (As := [.long (f_X0_nearer a0 a1), .long a1]) (rest := []) ⟨hx, hb, hml, hown, hts⟩ (m_X0_distance l (f_X0_nearer a0 a1) a1 _ rfl) gX4_stepHolds_X0_distance rfl ⟨rfl, rfl⟩ (by decide +kernel) ⟨Nat.le_of_ble_eq_true rfl, Nat.le_of_ble_eq_true rfl⟩ ⟨Nat.le_of_ble_eq_true rfl, Nat.le_of_ble_eq_true rfl⟩ hl.1 rfl rfl (Nat.le_of_ble_eq_true rfl) dX4_stepHolds_31 ?_
    refine lv_lload_n hx hb dX4_stepHolds_34 rfl (lv_at hl 1 rfl) ?_
    refine lv_lload_n hx hb dX4_stepHolds_35 rfl (lv_at hl 2 rfl) ?_
    refine my_callPl (As := [.long a0, .long a1]) (rest := [.long (f_X0_distance (f_X0_nearer a0 a1) a1)]) ⟨hx, hb, hml, hown, hts⟩ (m_X0_distance l a0 a1 _ rfl) gX4_stepHolds_X0_distance rfl ⟨rfl, rfl⟩ (by decide +kernel) ⟨Nat.le_of_ble_eq_true rfl, Nat.le_of_ble_eq_true rfl⟩ ⟨Nat.le_of_ble_eq_true rfl, Nat.le_of_ble_eq_true rfl⟩ hl.1 rfl rfl (Nat.le_of_ble_eq_true rfl) dX4_stepHolds_36 ?_
    refine lv_lconst (v := 1) hx hb dX4_stepHolds_39 (by decide) ?_
    refine lv_lsub hx hb dX4_stepHolds_40 ?_
    refine my_lc_ne (tgt := 49) hx hb dX4_stepHolds_41 dX4_stepHolds_42 (by decide) (fun c2 => ?_) (fun c2 => ?_)
    · rw [if_neg c2] at hf
      refine lv_iconst (v := 0) hx hb dX4_stepHolds_49 (by decide) ?_
      exact W.zret (v := b2i false) (ty := .boolean) hx hb hr (b2i_nar _) (fun t ht hW => ⟨_, rfl, congrArg b2i (hf), ht⟩) (fun q hq => absurd hq List.not_mem_nil) dX4_stepHolds_50
    · rw [if_pos c2] at hf
      refine lv_iconst (v := 1) hx hb dX4_stepHolds_45 (by decide) ?_
      refine lv_goto (tgt := 50) hx hb dX4_stepHolds_46 (by decide) ?_
      exact W.zret (v := b2i true) (ty := .boolean) hx hb hr (b2i_nar _) (fun t ht hW => ⟨_, rfl, congrArg b2i (hf), ht⟩) (fun q hq => absurd hq List.not_mem_nil) dX4_stepHolds_50
  · rw [if_pos c1] at hf
    refine lv_lload hx hb dX4_stepHolds_15 (lv_at hl 0 rfl) ?_
    refine lv_lload_n hx hb dX4_stepHolds_17 rfl (lv_at hl 2 rfl) ?_
    refine my_lc_ne (tgt := 26) hx hb dX4_stepHolds_18 dX4_stepHolds_19 (by decide) (fun c3 => ?_) (fun c3 => ?_)
    · rw [if_neg c3] at hf
      refine lv_iconst (v := 0) hx hb dX4_stepHolds_26 (by decide) ?_
      exact W.zret (v := b2i false) (ty := .boolean) hx hb hr (b2i_nar _) (fun t ht hW => ⟨_, rfl, congrArg b2i (hf), ht⟩) (fun q hq => absurd hq List.not_mem_nil) dX4_stepHolds_27
    · rw [if_pos c3] at hf
      refine lv_iconst (v := 1) hx hb dX4_stepHolds_22 (by decide) ?_
      refine lv_goto (tgt := 27) hx hb dX4_stepHolds_23 (by decide) ?_
      exact W.zret (v := b2i true) (ty := .boolean) hx hb hr (b2i_nar _) (fun t ht hW => ⟨_, rfl, congrArg b2i (hf), ht⟩) (fun q hq => absurd hq List.not_mem_nil) dX4_stepHolds_27

def f_X4_holdsBetween (a0 : Int64) (a1 : Int64) : Bool := (if (f_X0_order a0 a1) = (-(f_X0_order a1 a0)) then (if (f_X4_stepHolds a0 a1) = false then false else true) else false)
abbrev rmX4_holdsBetween : Room := { frames := 5, cells := 0, slots := 0, locals := 116 }
set_option maxHeartbeats 4000000 in
set_option maxRecDepth 100000 in
theorem m_X4_holdsBetween (l : Launch) (a0 : Int64) (a1 : Int64) (res : Bool) (hf : f_X4_holdsBetween a0 a1 = res) : Met l yX4_holdsBetween wsX4_holdsBetween rmX4_holdsBetween (my_PcP [.long a0, .long a1]) (vp_Si (fun z => z = b2i res)) 0 0 (fun _ => False) := by
  refine Met.ofW (cc := cX4_holdsBetween) (maxL := 4) (ret := (some .boolean)) (by decide) rfl ?_
  intro p e s m args below meth c s₁ B hml hv
  obtain ⟨rfl, -⟩ := hv
  have hx := B.exec
  have hb := B.bytes
  have hr := B.returns
  have hts : ∀ w ∈ wsX4_holdsBetween, w.before ([.long a0, .long a1] : List Value).toArray s = true := atoms_spec (ws := wsX4_holdsBetween) B.pre
  have hown : s.vm.findClass RX4 = some m.cls := findClass_of_methodNamed B.named
  have hlk : meth.locks = false := B.notSynchronized
  have hl := lv_entry ([.long a0, .long a1]) (n := 4) (Nat.le_of_ble_eq_true rfl)
  rw [lg_entry_eq]
  generalize (lg_sl ([.long a0, .long a1]) ++ List.replicate (4 - (lg_sl ([.long a0, .long a1])).length) Slot.unset).toArray = ls at hl ⊢
  have hl : lv_has ls 4 [(0, .long a0), (2, .long a1)] := hl
  unfold f_X4_holdsBetween at hf
  refine lv_lload_n hx hb dX4_holdsBetween_0 rfl (lv_at hl 0 rfl) ?_
  refine lv_lload_n hx hb dX4_holdsBetween_1 rfl (lv_at hl 1 rfl) ?_
  refine my_callPi (As := [.long a0, .long a1]) (rest := []) ⟨hx, hb, hml, hown, hts⟩ (m_X0_order l a0 a1 _ rfl) gX4_holdsBetween_X0_order rfl ⟨rfl, rfl⟩ (by decide +kernel) ⟨Nat.le_of_ble_eq_true rfl, Nat.le_of_ble_eq_true rfl⟩ ⟨Nat.le_of_ble_eq_true rfl, Nat.le_of_ble_eq_true rfl⟩ hl.1 rfl rfl (Nat.le_of_ble_eq_true rfl) dX4_holdsBetween_2 ?_
  refine lv_lload_n hx hb dX4_holdsBetween_5 rfl (lv_at hl 1 rfl) ?_
  refine lv_lload_n hx hb dX4_holdsBetween_6 rfl (lv_at hl 0 rfl) ?_
  refine my_callPi (As := [.long a1, .long a0]) (rest := [.int (f_X0_order a0 a1)]) ⟨hx, hb, hml, hown, hts⟩ (m_X0_order l a1 a0 _ rfl) gX4_holdsBetween_X0_order rfl ⟨rfl, rfl⟩ (by decide +kernel) ⟨Nat.le_of_ble_eq_true rfl, Nat.le_of_ble_eq_true rfl⟩ ⟨Nat.le_of_ble_eq_true rfl, Nat.le_of_ble_eq_true rfl⟩ hl.1 rfl rfl (Nat.le_of_ble_eq_true rfl) dX4_holdsBetween_7 ?_
  refine lv_ineg hx hb dX4_holdsBetween_10 ?_
  refine my_ic_ne (tgt := 26) hx hb dX4_holdsBetween_11 (by decide) (fun c1 => ?_) (fun c1 => ?_)
  · rw [if_neg c1] at hf
    refine lv_iconst (v := 0) hx hb dX4_holdsBetween_26 (by decide) ?_
    exact W.zret (v := b2i false) (ty := .boolean) hx hb hr (b2i_nar _) (fun t ht hW => ⟨_, rfl, congrArg b2i (hf), ht⟩) (fun q hq => absurd hq List.not_mem_nil) dX4_holdsBetween_27
  · rw [if_pos c1] at hf
    refine lv_lload_n hx hb dX4_holdsBetween_14 rfl (lv_at hl 0 rfl) ?_
    refine lv_lload_n hx hb dX4_holdsBetween_15 rfl (lv_at hl 1 rfl) ?_
    refine my_callPi (As := [.long a0, .long a1]) (rest := []) ⟨hx, hb, hml, hown, hts⟩ (m_X4_stepHolds l a0 a1 _ rfl) gX4_holdsBetween_X4_stepHolds rfl ⟨rfl, rfl⟩ (by decide +kernel) ⟨Nat.le_of_ble_eq_true rfl, Nat.le_of_ble_eq_true rfl⟩ ⟨Nat.le_of_ble_eq_true rfl, Nat.le_of_ble_eq_true rfl⟩ hl.1 rfl rfl (Nat.le_of_ble_eq_true rfl) dX4_holdsBetween_16 ?_
    refine my_bz_eq (x := (f_X4_stepHolds a0 a1)) (tgt := 26) hx hb dX4_holdsBetween_19 (by decide) (fun c2 => ?_) (fun c2 => ?_)
    · rw [if_pos c2] at hf
      refine lv_iconst (v := 0) hx hb dX4_holdsBetween_26 (by decide) ?_
      exact W.zret (v := b2i false) (ty := .boolean) hx hb hr (b2i_nar _) (fun t ht hW => ⟨_, rfl, congrArg b2i (hf), ht⟩) (fun q hq => absurd hq List.not_mem_nil) dX4_holdsBetween_27
    · rw [if_neg c2] at hf
      refine lv_iconst (v := 1) hx hb dX4_holdsBetween_22 (by decide) ?_
      refine lv_goto (tgt := 27) hx hb dX4_holdsBetween_23 (by decide) ?_
      exact W.zret (v := b2i true) (ty := .boolean) hx hb hr (b2i_nar _) (fun t ht hW => ⟨_, rfl, congrArg b2i (hf), ht⟩) (fun q hq => absurd hq List.not_mem_nil) dX4_holdsBetween_27

def f_X6_in (a0 : Int32) (a1 : Int32) (a2 : Int32) : Bool := (if a0 < a1 then false else (if a2 < a0 then false else true))
abbrev rmX6_in : Room := { frames := 0, cells := 0, slots := 0, locals := 0 }
set_option maxHeartbeats 4000000 in
set_option maxRecDepth 100000 in
theorem m_X6_in (l : Launch) (a0 : Int32) (a1 : Int32) (a2 : Int32) (res : Bool) (hf : f_X6_in a0 a1 a2 = res) : Met l yX6_in wsX6_in rmX6_in (my_PcP [.int a0, .int a1, .int a2]) (vp_Si (fun z => z = b2i res)) 0 0 (fun _ => False) := by
  refine Met.ofW (cc := cX6_in) (maxL := 3) (ret := (some .boolean)) (by decide) rfl ?_
  intro p e s m args below meth c s₁ B hml hv
  obtain ⟨rfl, -⟩ := hv
  have hx := B.exec
  have hb := B.bytes
  have hr := B.returns
  have hts : ∀ w ∈ wsX6_in, w.before ([.int a0, .int a1, .int a2] : List Value).toArray s = true := atoms_spec (ws := wsX6_in) B.pre
  have hown : s.vm.findClass RX6 = some m.cls := findClass_of_methodNamed B.named
  have hlk : meth.locks = false := B.notSynchronized
  have hl := lv_entry ([.int a0, .int a1, .int a2]) (n := 3) (Nat.le_of_ble_eq_true rfl)
  rw [lg_entry_eq]
  generalize (lg_sl ([.int a0, .int a1, .int a2]) ++ List.replicate (3 - (lg_sl ([.int a0, .int a1, .int a2])).length) Slot.unset).toArray = ls at hl ⊢
  have hl : lv_has ls 3 [(0, .int a0), (1, .int a1), (2, .int a2)] := hl
  unfold f_X6_in at hf
  refine lv_iload_n hx hb dX6_in_0 rfl (lv_at hl 0 rfl) ?_
  refine lv_iload_n hx hb dX6_in_1 rfl (lv_at hl 1 rfl) ?_
  refine my_ic_lt (tgt := 14) hx hb dX6_in_2 (by decide) (fun c1 => ?_) (fun c1 => ?_)
  · rw [if_pos c1] at hf
    refine lv_iconst (v := 0) hx hb dX6_in_14 (by decide) ?_
    exact W.zret (v := b2i false) (ty := .boolean) hx hb hr (b2i_nar _) (fun t ht hW => ⟨_, rfl, congrArg b2i (hf), ht⟩) (fun q hq => absurd hq List.not_mem_nil) dX6_in_15
  · rw [if_neg c1] at hf
    refine lv_iload_n hx hb dX6_in_5 rfl (lv_at hl 0 rfl) ?_
    refine lv_iload_n hx hb dX6_in_6 rfl (lv_at hl 2 rfl) ?_
    refine my_ic_gt (tgt := 14) hx hb dX6_in_7 (by decide) (fun c2 => ?_) (fun c2 => ?_)
    · rw [if_pos c2] at hf
      refine lv_iconst (v := 0) hx hb dX6_in_14 (by decide) ?_
      exact W.zret (v := b2i false) (ty := .boolean) hx hb hr (b2i_nar _) (fun t ht hW => ⟨_, rfl, congrArg b2i (hf), ht⟩) (fun q hq => absurd hq List.not_mem_nil) dX6_in_15
    · rw [if_neg c2] at hf
      refine lv_iconst (v := 1) hx hb dX6_in_10 (by decide) ?_
      refine lv_goto (tgt := 15) hx hb dX6_in_11 (by decide) ?_
      exact W.zret (v := b2i true) (ty := .boolean) hx hb hr (b2i_nar _) (fun t ht hW => ⟨_, rfl, congrArg b2i (hf), ht⟩) (fun q hq => absurd hq List.not_mem_nil) dX6_in_15

def f_X6_isSlot (a0 : Int32) : Bool := (f_X6_in a0 0 7)
abbrev rmX6_isSlot : Room := { frames := 1, cells := 0, slots := 0, locals := 22 }
set_option maxHeartbeats 4000000 in
set_option maxRecDepth 100000 in
theorem m_X6_isSlot (l : Launch) (a0 : Int32) (res : Bool) (hf : f_X6_isSlot a0 = res) : Met l yX6_isSlot wsX6_isSlot rmX6_isSlot (my_PcP [.int a0]) (vp_Si (fun z => z = b2i res)) 0 0 (fun _ => False) := by
  refine Met.ofW (cc := cX6_isSlot) (maxL := 1) (ret := (some .boolean)) (by decide) rfl ?_
  intro p e s m args below meth c s₁ B hml hv
  obtain ⟨rfl, -⟩ := hv
  have hx := B.exec
  have hb := B.bytes
  have hr := B.returns
  have hts : ∀ w ∈ wsX6_isSlot, w.before ([.int a0] : List Value).toArray s = true := atoms_spec (ws := wsX6_isSlot) B.pre
  have hown : s.vm.findClass RX6 = some m.cls := findClass_of_methodNamed B.named
  have hlk : meth.locks = false := B.notSynchronized
  have hl := lv_entry ([.int a0]) (n := 1) (Nat.le_of_ble_eq_true rfl)
  rw [lg_entry_eq]
  generalize (lg_sl ([.int a0]) ++ List.replicate (1 - (lg_sl ([.int a0])).length) Slot.unset).toArray = ls at hl ⊢
  have hl : lv_has ls 1 [(0, .int a0)] := hl
  unfold f_X6_isSlot at hf
  refine lv_iload_n hx hb dX6_isSlot_0 rfl (lv_at hl 0 rfl) ?_
  refine lv_iconst (v := 0) hx hb dX6_isSlot_1 (by decide) ?_
  refine lv_bipush (v := 7) hx hb dX6_isSlot_2 (by decide) ?_
  refine my_callPi (As := [.int a0, .int 0, .int 7]) (rest := []) ⟨hx, hb, hml, hown, hts⟩ (m_X6_in l a0 0 7 _ rfl) gX6_isSlot_X6_in rfl ⟨rfl, rfl⟩ (by decide +kernel) ⟨Nat.le_of_ble_eq_true rfl, Nat.le_of_ble_eq_true rfl⟩ ⟨Nat.le_of_ble_eq_true rfl, Nat.le_of_ble_eq_true rfl⟩ hl.1 rfl rfl (Nat.le_of_ble_eq_true rfl) dX6_isSlot_4 ?_
  exact W.zret (v := b2i (f_X6_in a0 0 7)) (ty := .boolean) hx hb hr (b2i_nar _) (fun t ht hW => ⟨_, rfl, congrArg b2i (hf), ht⟩) (fun q hq => absurd hq List.not_mem_nil) dX6_isSlot_7

def f_X6_size (a0 : Int64) : Int64 := (if a0 < 0 then ((-1) - a0) else a0)
abbrev rmX6_size : Room := { frames := 0, cells := 0, slots := 0, locals := 0 }
set_option maxHeartbeats 4000000 in
set_option maxRecDepth 100000 in
theorem m_X6_size (l : Launch) (a0 : Int64) (res : Int64) (hf : f_X6_size a0 = res) : Met l yX6_size wsX6_size rmX6_size (my_PcP [.long a0]) (vp_Sl (fun z => z = res)) 0 0 (fun _ => False) := by
  refine Met.ofW (cc := cX6_size) (maxL := 2) (ret := (some .long)) (by decide) rfl ?_
  intro p e s m args below meth c s₁ B hml hv
  obtain ⟨rfl, -⟩ := hv
  have hx := B.exec
  have hb := B.bytes
  have hr := B.returns
  have hts : ∀ w ∈ wsX6_size, w.before ([.long a0] : List Value).toArray s = true := atoms_spec (ws := wsX6_size) B.pre
  have hown : s.vm.findClass RX6 = some m.cls := findClass_of_methodNamed B.named
  have hlk : meth.locks = false := B.notSynchronized
  have q1 := hts (.constantLong RX6 43 (-1)) (by decide +kernel)
  have hl := lv_entry ([.long a0]) (n := 2) (Nat.le_of_ble_eq_true rfl)
  rw [lg_entry_eq]
  generalize (lg_sl ([.long a0]) ++ List.replicate (2 - (lg_sl ([.long a0])).length) Slot.unset).toArray = ls at hl ⊢
  have hl : lv_has ls 2 [(0, .long a0)] := hl
  unfold f_X6_size at hf
  refine lv_lload_n hx hb dX6_size_0 rfl (lv_at hl 0 rfl) ?_
  refine lv_lconst (v := 0) hx hb dX6_size_1 (by decide) ?_
  refine my_lc_lt (tgt := 10) hx hb dX6_size_2 dX6_size_3 (by decide) (fun c1 => ?_) (fun c1 => ?_)
  · rw [if_pos c1] at hf
    refine lv_ldc2 (v := (-1)) hx hb hown q1 dX6_size_10 ?_
    refine lv_lload_n hx hb dX6_size_13 rfl (lv_at hl 0 rfl) ?_
    refine lv_lsub hx hb dX6_size_14 ?_
    exact W.lret (v := ((-1) - a0)) hx hb hr (fun t ht hW => ⟨_, rfl, hf, ht⟩) (fun q hq => absurd hq List.not_mem_nil) dX6_size_15
  · rw [if_neg c1] at hf
    refine lv_lload_n hx hb dX6_size_6 rfl (lv_at hl 0 rfl) ?_
    refine lv_goto (tgt := 15) hx hb dX6_size_7 (by decide) ?_
    exact W.lret (v := a0) hx hb hr (fun t ht hW => ⟨_, rfl, hf, ht⟩) (fun q hq => absurd hq List.not_mem_nil) dX6_size_15

def f_X6_placeOf (a0 : Int64) : Int64 := (if a0 < 0 then (a0 + 1) else a0)
abbrev rmX6_placeOf : Room := { frames := 0, cells := 0, slots := 0, locals := 0 }
set_option maxHeartbeats 4000000 in
set_option maxRecDepth 100000 in
theorem m_X6_placeOf (l : Launch) (a0 : Int64) (res : Int64) (hf : f_X6_placeOf a0 = res) : Met l yX6_placeOf wsX6_placeOf rmX6_placeOf (my_PcP [.long a0]) (vp_Sl (fun z => z = res)) 0 0 (fun _ => False) := by
  refine Met.ofW (cc := cX6_placeOf) (maxL := 2) (ret := (some .long)) (by decide) rfl ?_
  intro p e s m args below meth c s₁ B hml hv
  obtain ⟨rfl, -⟩ := hv
  have hx := B.exec
  have hb := B.bytes
  have hr := B.returns
  have hts : ∀ w ∈ wsX6_placeOf, w.before ([.long a0] : List Value).toArray s = true := atoms_spec (ws := wsX6_placeOf) B.pre
  have hown : s.vm.findClass RX6 = some m.cls := findClass_of_methodNamed B.named
  have hlk : meth.locks = false := B.notSynchronized
  have hl := lv_entry ([.long a0]) (n := 2) (Nat.le_of_ble_eq_true rfl)
  rw [lg_entry_eq]
  generalize (lg_sl ([.long a0]) ++ List.replicate (2 - (lg_sl ([.long a0])).length) Slot.unset).toArray = ls at hl ⊢
  have hl : lv_has ls 2 [(0, .long a0)] := hl
  unfold f_X6_placeOf at hf
  refine lv_lload_n hx hb dX6_placeOf_0 rfl (lv_at hl 0 rfl) ?_
  refine lv_lconst (v := 0) hx hb dX6_placeOf_1 (by decide) ?_
  refine my_lc_lt (tgt := 10) hx hb dX6_placeOf_2 dX6_placeOf_3 (by decide) (fun c1 => ?_) (fun c1 => ?_)
  · rw [if_pos c1] at hf
    refine lv_lload_n hx hb dX6_placeOf_10 rfl (lv_at hl 0 rfl) ?_
    refine lv_lconst (v := 1) hx hb dX6_placeOf_11 (by decide) ?_
    refine lv_ladd hx hb dX6_placeOf_12 ?_
    exact W.lret (v := (a0 + 1)) hx hb hr (fun t ht hW => ⟨_, rfl, hf, ht⟩) (fun q hq => absurd hq List.not_mem_nil) dX6_placeOf_13
  · rw [if_neg c1] at hf
    refine lv_lload_n hx hb dX6_placeOf_6 rfl (lv_at hl 0 rfl) ?_
    refine lv_goto (tgt := 13) hx hb dX6_placeOf_7 (by decide) ?_
    exact W.lret (v := a0) hx hb hr (fun t ht hW => ⟨_, rfl, hf, ht⟩) (fun q hq => absurd hq List.not_mem_nil) dX6_placeOf_13

def f_X6_codeOf (a0 : Int64) : Int64 := (if a0 < 0 then (a0 - 1) else a0)
abbrev rmX6_codeOf : Room := { frames := 0, cells := 0, slots := 0, locals := 0 }
set_option maxHeartbeats 4000000 in
set_option maxRecDepth 100000 in
theorem m_X6_codeOf (l : Launch) (a0 : Int64) (res : Int64) (hf : f_X6_codeOf a0 = res) : Met l yX6_codeOf wsX6_codeOf rmX6_codeOf (my_PcP [.long a0]) (vp_Sl (fun z => z = res)) 0 0 (fun _ => False) := by
  refine Met.ofW (cc := cX6_codeOf) (maxL := 2) (ret := (some .long)) (by decide) rfl ?_
  intro p e s m args below meth c s₁ B hml hv
  obtain ⟨rfl, -⟩ := hv
  have hx := B.exec
  have hb := B.bytes
  have hr := B.returns
  have hts : ∀ w ∈ wsX6_codeOf, w.before ([.long a0] : List Value).toArray s = true := atoms_spec (ws := wsX6_codeOf) B.pre
  have hown : s.vm.findClass RX6 = some m.cls := findClass_of_methodNamed B.named
  have hlk : meth.locks = false := B.notSynchronized
  have hl := lv_entry ([.long a0]) (n := 2) (Nat.le_of_ble_eq_true rfl)
  rw [lg_entry_eq]
  generalize (lg_sl ([.long a0]) ++ List.replicate (2 - (lg_sl ([.long a0])).length) Slot.unset).toArray = ls at hl ⊢
  have hl : lv_has ls 2 [(0, .long a0)] := hl
  unfold f_X6_codeOf at hf
  refine lv_lload_n hx hb dX6_codeOf_0 rfl (lv_at hl 0 rfl) ?_
  refine lv_lconst (v := 0) hx hb dX6_codeOf_1 (by decide) ?_
  refine my_lc_lt (tgt := 10) hx hb dX6_codeOf_2 dX6_codeOf_3 (by decide) (fun c1 => ?_) (fun c1 => ?_)
  · rw [if_pos c1] at hf
    refine lv_lload_n hx hb dX6_codeOf_10 rfl (lv_at hl 0 rfl) ?_
    refine lv_lconst (v := 1) hx hb dX6_codeOf_11 (by decide) ?_
    refine lv_lsub hx hb dX6_codeOf_12 ?_
    exact W.lret (v := (a0 - 1)) hx hb hr (fun t ht hW => ⟨_, rfl, hf, ht⟩) (fun q hq => absurd hq List.not_mem_nil) dX6_codeOf_13
  · rw [if_neg c1] at hf
    refine lv_lload_n hx hb dX6_codeOf_6 rfl (lv_at hl 0 rfl) ?_
    refine lv_goto (tgt := 13) hx hb dX6_codeOf_7 (by decide) ?_
    exact W.lret (v := a0) hx hb hr (fun t ht hW => ⟨_, rfl, hf, ht⟩) (fun q hq => absurd hq List.not_mem_nil) dX6_codeOf_13

def f_X6_opposite (a0 : Int64) : Int64 := ((-1) - a0)
abbrev rmX6_opposite : Room := { frames := 0, cells := 0, slots := 0, locals := 0 }
set_option maxHeartbeats 4000000 in
set_option maxRecDepth 100000 in
theorem m_X6_opposite (l : Launch) (a0 : Int64) (res : Int64) (hf : f_X6_opposite a0 = res) : Met l yX6_opposite wsX6_opposite rmX6_opposite (my_PcP [.long a0]) (vp_Sl (fun z => z = res)) 0 0 (fun _ => False) := by
  refine Met.ofW (cc := cX6_opposite) (maxL := 2) (ret := (some .long)) (by decide) rfl ?_
  intro p e s m args below meth c s₁ B hml hv
  obtain ⟨rfl, -⟩ := hv
  have hx := B.exec
  have hb := B.bytes
  have hr := B.returns
  have hts : ∀ w ∈ wsX6_opposite, w.before ([.long a0] : List Value).toArray s = true := atoms_spec (ws := wsX6_opposite) B.pre
  have hown : s.vm.findClass RX6 = some m.cls := findClass_of_methodNamed B.named
  have hlk : meth.locks = false := B.notSynchronized
  have q1 := hts (.constantLong RX6 43 (-1)) (by decide +kernel)
  have hl := lv_entry ([.long a0]) (n := 2) (Nat.le_of_ble_eq_true rfl)
  rw [lg_entry_eq]
  generalize (lg_sl ([.long a0]) ++ List.replicate (2 - (lg_sl ([.long a0])).length) Slot.unset).toArray = ls at hl ⊢
  have hl : lv_has ls 2 [(0, .long a0)] := hl
  unfold f_X6_opposite at hf
  refine lv_ldc2 (v := (-1)) hx hb hown q1 dX6_opposite_0 ?_
  refine lv_lload_n hx hb dX6_opposite_3 rfl (lv_at hl 0 rfl) ?_
  refine lv_lsub hx hb dX6_opposite_4 ?_
  exact W.lret (v := ((-1) - a0)) hx hb hr (fun t ht hW => ⟨_, rfl, hf, ht⟩) (fun q hq => absurd hq List.not_mem_nil) dX6_opposite_5

def f_X6_isEnd (a0 : Int64) : Bool := (if (f_X6_size a0) = 9218868437227405312 then true else false)
abbrev rmX6_isEnd : Room := { frames := 1, cells := 0, slots := 0, locals := 21 }
set_option maxHeartbeats 4000000 in
set_option maxRecDepth 100000 in
theorem m_X6_isEnd (l : Launch) (a0 : Int64) (res : Bool) (hf : f_X6_isEnd a0 = res) : Met l yX6_isEnd wsX6_isEnd rmX6_isEnd (my_PcP [.long a0]) (vp_Si (fun z => z = b2i res)) 0 0 (fun _ => False) := by
  refine Met.ofW (cc := cX6_isEnd) (maxL := 2) (ret := (some .boolean)) (by decide) rfl ?_
  intro p e s m args below meth c s₁ B hml hv
  obtain ⟨rfl, -⟩ := hv
  have hx := B.exec
  have hb := B.bytes
  have hr := B.returns
  have hts : ∀ w ∈ wsX6_isEnd, w.before ([.long a0] : List Value).toArray s = true := atoms_spec (ws := wsX6_isEnd) B.pre
  have hown : s.vm.findClass RX6 = some m.cls := findClass_of_methodNamed B.named
  have hlk : meth.locks = false := B.notSynchronized
  have q1 := hts (.constantLong RX6 49 (9218868437227405312)) (by decide +kernel)
  have hl := lv_entry ([.long a0]) (n := 2) (Nat.le_of_ble_eq_true rfl)
  rw [lg_entry_eq]
  generalize (lg_sl ([.long a0]) ++ List.replicate (2 - (lg_sl ([.long a0])).length) Slot.unset).toArray = ls at hl ⊢
  have hl : lv_has ls 2 [(0, .long a0)] := hl
  unfold f_X6_isEnd at hf
  refine lv_lload_n hx hb dX6_isEnd_0 rfl (lv_at hl 0 rfl) ?_
  refine my_callPl (As := [.long a0]) (rest := []) ⟨hx, hb, hml, hown, hts⟩ (m_X6_size l a0 _ rfl) gX6_isEnd_X6_size rfl ⟨rfl, rfl⟩ (by decide +kernel) ⟨Nat.le_of_ble_eq_true rfl, Nat.le_of_ble_eq_true rfl⟩ ⟨Nat.le_of_ble_eq_true rfl, Nat.le_of_ble_eq_true rfl⟩ hl.1 rfl rfl (Nat.le_of_ble_eq_true rfl) dX6_isEnd_1 ?_
  refine lv_ldc2 (v := 9218868437227405312) hx hb hown q1 dX6_isEnd_4 ?_
  refine my_lc_ne (tgt := 15) hx hb dX6_isEnd_7 dX6_isEnd_8 (by decide) (fun c1 => ?_) (fun c1 => ?_)
  · rw [if_neg c1] at hf
    refine lv_iconst (v := 0) hx hb dX6_isEnd_15 (by decide) ?_
    exact W.zret (v := b2i false) (ty := .boolean) hx hb hr (b2i_nar _) (fun t ht hW => ⟨_, rfl, congrArg b2i (hf), ht⟩) (fun q hq => absurd hq List.not_mem_nil) dX6_isEnd_16
  · rw [if_pos c1] at hf
    refine lv_iconst (v := 1) hx hb dX6_isEnd_11 (by decide) ?_
    refine lv_goto (tgt := 16) hx hb dX6_isEnd_12 (by decide) ?_
    exact W.zret (v := b2i true) (ty := .boolean) hx hb hr (b2i_nar _) (fun t ht hW => ⟨_, rfl, congrArg b2i (hf), ht⟩) (fun q hq => absurd hq List.not_mem_nil) dX6_isEnd_16

def f_X6_isNothing (a0 : Int64) : Bool := (if (f_X6_size a0) = 0 then true else false)
abbrev rmX6_isNothing : Room := { frames := 1, cells := 0, slots := 0, locals := 21 }
set_option maxHeartbeats 4000000 in
set_option maxRecDepth 100000 in
theorem m_X6_isNothing (l : Launch) (a0 : Int64) (res : Bool) (hf : f_X6_isNothing a0 = res) : Met l yX6_isNothing wsX6_isNothing rmX6_isNothing (my_PcP [.long a0]) (vp_Si (fun z => z = b2i res)) 0 0 (fun _ => False) := by
  refine Met.ofW (cc := cX6_isNothing) (maxL := 2) (ret := (some .boolean)) (by decide) rfl ?_
  intro p e s m args below meth c s₁ B hml hv
  obtain ⟨rfl, -⟩ := hv
  have hx := B.exec
  have hb := B.bytes
  have hr := B.returns
  have hts : ∀ w ∈ wsX6_isNothing, w.before ([.long a0] : List Value).toArray s = true := atoms_spec (ws := wsX6_isNothing) B.pre
  have hown : s.vm.findClass RX6 = some m.cls := findClass_of_methodNamed B.named
  have hlk : meth.locks = false := B.notSynchronized
  have hl := lv_entry ([.long a0]) (n := 2) (Nat.le_of_ble_eq_true rfl)
  rw [lg_entry_eq]
  generalize (lg_sl ([.long a0]) ++ List.replicate (2 - (lg_sl ([.long a0])).length) Slot.unset).toArray = ls at hl ⊢
  have hl : lv_has ls 2 [(0, .long a0)] := hl
  unfold f_X6_isNothing at hf
  refine lv_lload_n hx hb dX6_isNothing_0 rfl (lv_at hl 0 rfl) ?_
  refine my_callPl (As := [.long a0]) (rest := []) ⟨hx, hb, hml, hown, hts⟩ (m_X6_size l a0 _ rfl) gX6_isNothing_X6_size rfl ⟨rfl, rfl⟩ (by decide +kernel) ⟨Nat.le_of_ble_eq_true rfl, Nat.le_of_ble_eq_true rfl⟩ ⟨Nat.le_of_ble_eq_true rfl, Nat.le_of_ble_eq_true rfl⟩ hl.1 rfl rfl (Nat.le_of_ble_eq_true rfl) dX6_isNothing_1 ?_
  refine lv_lconst (v := 0) hx hb dX6_isNothing_4 (by decide) ?_
  refine my_lc_ne (tgt := 13) hx hb dX6_isNothing_5 dX6_isNothing_6 (by decide) (fun c1 => ?_) (fun c1 => ?_)
  · rw [if_neg c1] at hf
    refine lv_iconst (v := 0) hx hb dX6_isNothing_13 (by decide) ?_
    exact W.zret (v := b2i false) (ty := .boolean) hx hb hr (b2i_nar _) (fun t ht hW => ⟨_, rfl, congrArg b2i (hf), ht⟩) (fun q hq => absurd hq List.not_mem_nil) dX6_isNothing_14
  · rw [if_pos c1] at hf
    refine lv_iconst (v := 1) hx hb dX6_isNothing_9 (by decide) ?_
    refine lv_goto (tgt := 14) hx hb dX6_isNothing_10 (by decide) ?_
    exact W.zret (v := b2i true) (ty := .boolean) hx hb hr (b2i_nar _) (fun t ht hW => ⟨_, rfl, congrArg b2i (hf), ht⟩) (fun q hq => absurd hq List.not_mem_nil) dX6_isNothing_14

def f_X6_above (a0 : Int64) : Int64 := (if (f_X6_placeOf a0) = 9218868437227405312 then a0 else (if (f_X6_placeOf a0) = (-1) then (-1) else (f_X6_codeOf ((f_X6_placeOf a0) + 1))))
abbrev rmX6_above : Room := { frames := 1, cells := 0, slots := 0, locals := 21 }
set_option maxHeartbeats 4000000 in
set_option maxRecDepth 100000 in
theorem m_X6_above (l : Launch) (a0 : Int64) (res : Int64) (hf : f_X6_above a0 = res) : Met l yX6_above wsX6_above rmX6_above (my_PcP [.long a0]) (vp_Sl (fun z => z = res)) 0 0 (fun _ => False) := by
  refine Met.ofW (cc := cX6_above) (maxL := 4) (ret := (some .long)) (by decide) rfl ?_
  intro p e s m args below meth c s₁ B hml hv
  obtain ⟨rfl, -⟩ := hv
  have hx := B.exec
  have hb := B.bytes
  have hr := B.returns
  have hts : ∀ w ∈ wsX6_above, w.before ([.long a0] : List Value).toArray s = true := atoms_spec (ws := wsX6_above) B.pre
  have hown : s.vm.findClass RX6 = some m.cls := findClass_of_methodNamed B.named
  have hlk : meth.locks = false := B.notSynchronized
  have q1 := hts (.constantLong RX6 49 (9218868437227405312)) (by decide +kernel)
  have q2 := hts (.constantLong RX6 43 (-1)) (by decide +kernel)
  have hl := lv_entry ([.long a0]) (n := 4) (Nat.le_of_ble_eq_true rfl)
  rw [lg_entry_eq]
  generalize (lg_sl ([.long a0]) ++ List.replicate (4 - (lg_sl ([.long a0])).length) Slot.unset).toArray = ls at hl ⊢
  have hl : lv_has ls 4 [(0, .long a0)] := hl
  unfold f_X6_above at hf
  refine lv_lload_n hx hb dX6_above_0 rfl (lv_at hl 0 rfl) ?_
  refine my_callPl (As := [.long a0]) (rest := []) ⟨hx, hb, hml, hown, hts⟩ (m_X6_placeOf l a0 _ rfl) gX6_above_X6_placeOf rfl ⟨rfl, rfl⟩ (by decide +kernel) ⟨Nat.le_of_ble_eq_true rfl, Nat.le_of_ble_eq_true rfl⟩ ⟨Nat.le_of_ble_eq_true rfl, Nat.le_of_ble_eq_true rfl⟩ hl.1 rfl rfl (Nat.le_of_ble_eq_true rfl) dX6_above_1 ?_
  refine lv_lstore_n (lv' := [(2, .long (f_X6_placeOf a0)), (0, .long a0)]) hx hb dX6_above_4 rfl hl (by decide) rfl (fun ls hl => ?_)
  refine lv_lload_n hx hb dX6_above_5 rfl (lv_at hl 0 rfl) ?_
  refine lv_ldc2 (v := 9218868437227405312) hx hb hown q1 dX6_above_6 ?_
  refine my_lc_ne (tgt := 15) hx hb dX6_above_9 dX6_above_10 (by decide) (fun c1 => ?_) (fun c1 => ?_)
  · rw [if_neg c1] at hf
    refine lv_lload_n hx hb dX6_above_15 rfl (lv_at hl 0 rfl) ?_
    refine lv_ldc2 (v := (-1)) hx hb hown q2 dX6_above_16 ?_
    refine my_lc_ne (tgt := 29) hx hb dX6_above_19 dX6_above_20 (by decide) (fun c2 => ?_) (fun c2 => ?_)
    · rw [if_neg c2] at hf
      refine lv_lload_n hx hb dX6_above_29 rfl (lv_at hl 0 rfl) ?_
      refine lv_lconst (v := 1) hx hb dX6_above_30 (by decide) ?_
      refine lv_ladd hx hb dX6_above_31 ?_
      refine my_callPl (As := [.long ((f_X6_placeOf a0) + 1)]) (rest := []) ⟨hx, hb, hml, hown, hts⟩ (m_X6_codeOf l ((f_X6_placeOf a0) + 1) _ rfl) gX6_above_X6_codeOf rfl ⟨rfl, rfl⟩ (by decide +kernel) ⟨Nat.le_of_ble_eq_true rfl, Nat.le_of_ble_eq_true rfl⟩ ⟨Nat.le_of_ble_eq_true rfl, Nat.le_of_ble_eq_true rfl⟩ hl.1 rfl rfl (Nat.le_of_ble_eq_true rfl) dX6_above_32 ?_
      exact W.lret (v := (f_X6_codeOf ((f_X6_placeOf a0) + 1))) hx hb hr (fun t ht hW => ⟨_, rfl, hf, ht⟩) (fun q hq => absurd hq List.not_mem_nil) dX6_above_35
    · rw [if_pos c2] at hf
      refine lv_ldc2 (v := (-1)) hx hb hown q2 dX6_above_23 ?_
      refine lv_goto (tgt := 35) hx hb dX6_above_26 (by decide) ?_
      exact W.lret (v := (-1)) hx hb hr (fun t ht hW => ⟨_, rfl, hf, ht⟩) (fun q hq => absurd hq List.not_mem_nil) dX6_above_35
  · rw [if_pos c1] at hf
    refine lv_lload_n hx hb dX6_above_13 rfl (lv_at hl 1 rfl) ?_
    exact W.lret (v := a0) hx hb hr (fun t ht hW => ⟨_, rfl, hf, ht⟩) (fun q hq => absurd hq List.not_mem_nil) dX6_above_14

def f_X6_below (a0 : Int64) : Int64 := (f_X6_opposite (f_X6_above (f_X6_opposite a0)))
abbrev rmX6_below : Room := { frames := 2, cells := 0, slots := 0, locals := 44 }
set_option maxHeartbeats 4000000 in
set_option maxRecDepth 100000 in
theorem m_X6_below (l : Launch) (a0 : Int64) (res : Int64) (hf : f_X6_below a0 = res) : Met l yX6_below wsX6_below rmX6_below (my_PcP [.long a0]) (vp_Sl (fun z => z = res)) 0 0 (fun _ => False) := by
  refine Met.ofW (cc := cX6_below) (maxL := 2) (ret := (some .long)) (by decide) rfl ?_
  intro p e s m args below meth c s₁ B hml hv
  obtain ⟨rfl, -⟩ := hv
  have hx := B.exec
  have hb := B.bytes
  have hr := B.returns
  have hts : ∀ w ∈ wsX6_below, w.before ([.long a0] : List Value).toArray s = true := atoms_spec (ws := wsX6_below) B.pre
  have hown : s.vm.findClass RX6 = some m.cls := findClass_of_methodNamed B.named
  have hlk : meth.locks = false := B.notSynchronized
  have hl := lv_entry ([.long a0]) (n := 2) (Nat.le_of_ble_eq_true rfl)
  rw [lg_entry_eq]
  generalize (lg_sl ([.long a0]) ++ List.replicate (2 - (lg_sl ([.long a0])).length) Slot.unset).toArray = ls at hl ⊢
  have hl : lv_has ls 2 [(0, .long a0)] := hl
  unfold f_X6_below at hf
  refine lv_lload_n hx hb dX6_below_0 rfl (lv_at hl 0 rfl) ?_
  refine my_callPl (As := [.long a0]) (rest := []) ⟨hx, hb, hml, hown, hts⟩ (m_X6_opposite l a0 _ rfl) gX6_below_X6_opposite rfl ⟨rfl, rfl⟩ (by decide +kernel) ⟨Nat.le_of_ble_eq_true rfl, Nat.le_of_ble_eq_true rfl⟩ ⟨Nat.le_of_ble_eq_true rfl, Nat.le_of_ble_eq_true rfl⟩ hl.1 rfl rfl (Nat.le_of_ble_eq_true rfl) dX6_below_1 ?_
  refine my_callPl (As := [.long (f_X6_opposite a0)]) (rest := []) ⟨hx, hb, hml, hown, hts⟩ (m_X6_above l (f_X6_opposite a0) _ rfl) gX6_below_X6_above rfl ⟨rfl, rfl⟩ (by decide +kernel) ⟨Nat.le_of_ble_eq_true rfl, Nat.le_of_ble_eq_true rfl⟩ ⟨Nat.le_of_ble_eq_true rfl, Nat.le_of_ble_eq_true rfl⟩ hl.1 rfl rfl (Nat.le_of_ble_eq_true rfl) dX6_below_4 ?_
  refine my_callPl (As := [.long (f_X6_above (f_X6_opposite a0))]) (rest := []) ⟨hx, hb, hml, hown, hts⟩ (m_X6_opposite l (f_X6_above (f_X6_opposite a0)) _ rfl) gX6_below_X6_opposite rfl ⟨rfl, rfl⟩ (by decide +kernel) ⟨Nat.le_of_ble_eq_true rfl, Nat.le_of_ble_eq_true rfl⟩ ⟨Nat.le_of_ble_eq_true rfl, Nat.le_of_ble_eq_true rfl⟩ hl.1 rfl rfl (Nat.le_of_ble_eq_true rfl) dX6_below_7 ?_
  exact W.lret (v := (f_X6_opposite (f_X6_above (f_X6_opposite a0)))) hx hb hr (fun t ht hW => ⟨_, rfl, hf, ht⟩) (fun q hq => absurd hq List.not_mem_nil) dX6_below_10

def f_X6_nearer (a0 : Int64) (a1 : Int64) : Int64 := (if (f_X6_placeOf a0) = (f_X6_placeOf a1) then a1 else (if (f_X6_placeOf a0) < (f_X6_placeOf a1) then (f_X6_above a0) else (f_X6_below a0)))
abbrev rmX6_nearer : Room := { frames := 3, cells := 0, slots := 0, locals := 65 }
set_option maxHeartbeats 4000000 in
set_option maxRecDepth 100000 in
theorem m_X6_nearer (l : Launch) (a0 : Int64) (a1 : Int64) (res : Int64) (hf : f_X6_nearer a0 a1 = res) : Met l yX6_nearer wsX6_nearer rmX6_nearer (my_PcP [.long a0, .long a1]) (vp_Sl (fun z => z = res)) 0 0 (fun _ => False) := by
  refine Met.ofW (cc := cX6_nearer) (maxL := 8) (ret := (some .long)) (by decide) rfl ?_
  intro p e s m args below meth c s₁ B hml hv
  obtain ⟨rfl, -⟩ := hv
  have hx := B.exec
  have hb := B.bytes
  have hr := B.returns
  have hts : ∀ w ∈ wsX6_nearer, w.before ([.long a0, .long a1] : List Value).toArray s = true := atoms_spec (ws := wsX6_nearer) B.pre
  have hown : s.vm.findClass RX6 = some m.cls := findClass_of_methodNamed B.named
  have hlk : meth.locks = false := B.notSynchronized
  have hl := lv_entry ([.long a0, .long a1]) (n := 8) (Nat.le_of_ble_eq_true rfl)
  rw [lg_entry_eq]
  generalize (lg_sl ([.long a0, .long a1]) ++ List.replicate (8 - (lg_sl ([.long a0, .long a1])).length) Slot.unset).toArray = ls at hl ⊢
  have hl : lv_has ls 8 [(0, .long a0), (2, .long a1)] := hl
  unfold f_X6_nearer at hf
  refine lv_lload_n hx hb dX6_nearer_0 rfl (lv_at hl 0 rfl) ?_
  refine my_callPl (As := [.long a0]) (rest := []) ⟨hx, hb, hml, hown, hts⟩ (m_X6_placeOf l a0 _ rfl) gX6_nearer_X6_placeOf rfl ⟨rfl, rfl⟩ (by decide +kernel) ⟨Nat.le_of_ble_eq_true rfl, Nat.le_of_ble_eq_true rfl⟩ ⟨Nat.le_of_ble_eq_true rfl, Nat.le_of_ble_eq_true rfl⟩ hl.1 rfl rfl (Nat.le_of_ble_eq_true rfl) dX6_nearer_1 ?_
  refine lv_lstore (lv' := [(4, .long (f_X6_placeOf a0)), (0, .long a0), (2, .long a1)]) hx hb dX6_nearer_4 hl (by decide) rfl (fun ls hl => ?_)
  refine lv_lload_n hx hb dX6_nearer_6 rfl (lv_at hl 2 rfl) ?_
  refine my_callPl (As := [.long a1]) (rest := []) ⟨hx, hb, hml, hown, hts⟩ (m_X6_placeOf l a1 _ rfl) gX6_nearer_X6_placeOf rfl ⟨rfl, rfl⟩ (by decide +kernel) ⟨Nat.le_of_ble_eq_true rfl, Nat.le_of_ble_eq_true rfl⟩ ⟨Nat.le_of_ble_eq_true rfl, Nat.le_of_ble_eq_true rfl⟩ hl.1 rfl rfl (Nat.le_of_ble_eq_true rfl) dX6_nearer_7 ?_
  refine lv_lstore (lv' := [(6, .long (f_X6_placeOf a1)), (4, .long (f_X6_placeOf a0)), (0, .long a0), (2, .long a1)]) hx hb dX6_nearer_10 hl (by decide) rfl (fun ls hl => ?_)
  refine lv_lload hx hb dX6_nearer_12 (lv_at hl 1 rfl) ?_
  refine lv_lload hx hb dX6_nearer_14 (lv_at hl 0 rfl) ?_
  refine my_lc_ne (tgt := 24) hx hb dX6_nearer_16 dX6_nearer_17 (by decide) (fun c1 => ?_) (fun c1 => ?_)
  · rw [if_neg c1] at hf
    refine lv_lload hx hb dX6_nearer_24 (lv_at hl 1 rfl) ?_
    refine lv_lload hx hb dX6_nearer_26 (lv_at hl 0 rfl) ?_
    refine my_lc_ge (tgt := 39) hx hb dX6_nearer_28 dX6_nearer_29 (by decide) (fun c2 => ?_) (fun c2 => ?_)
    · rw [if_neg c2] at hf
      refine lv_lload_n hx hb dX6_nearer_39 rfl (lv_at hl 2 rfl) ?_
      refine my_callPl (As := [.long a0]) (rest := []) ⟨hx, hb, hml, hown, hts⟩ (m_X6_below l a0 _ rfl) gX6_nearer_X6_below rfl ⟨rfl, rfl⟩ (by decide +kernel) ⟨Nat.le_of_ble_eq_true rfl, Nat.le_of_ble_eq_true rfl⟩ ⟨Nat.le_of_ble_eq_true rfl, Nat.le_of_ble_eq_true rfl⟩ hl.1 rfl rfl (Nat.le_of_ble_eq_true rfl) dX6_nearer_40 ?_
      exact W.lret (v := (f_X6_below a0)) hx hb hr (fun t ht hW => ⟨_, rfl, hf, ht⟩) (fun q hq => absurd hq List.not_mem_nil) dX6_nearer_43
    · rw [if_pos c2] at hf
      refine lv_lload_n hx hb dX6_nearer_32 rfl (lv_at hl 2 rfl) ?_
      refine my_callPl (As := [.long a0]) (rest := []) ⟨hx, hb, hml, hown, hts⟩ (m_X6_above l a0 _ rfl) gX6_nearer_X6_above rfl ⟨rfl, rfl⟩ (by decide +kernel) ⟨Nat.le_of_ble_eq_true rfl, Nat.le_of_ble_eq_true rfl⟩ ⟨Nat.le_of_ble_eq_true rfl, Nat.le_of_ble_eq_true rfl⟩ hl.1 rfl rfl (Nat.le_of_ble_eq_true rfl) dX6_nearer_33 ?_
      refine lv_goto (tgt := 43) hx hb dX6_nearer_36 (by decide) ?_
      exact W.lret (v := (f_X6_above a0)) hx hb hr (fun t ht hW => ⟨_, rfl, hf, ht⟩) (fun q hq => absurd hq List.not_mem_nil) dX6_nearer_43
  · rw [if_pos c1] at hf
    refine lv_lload_n hx hb dX6_nearer_20 rfl (lv_at hl 3 rfl) ?_
    refine lv_goto (tgt := 43) hx hb dX6_nearer_21 (by decide) ?_
    exact W.lret (v := a1) hx hb hr (fun t ht hW => ⟨_, rfl, hf, ht⟩) (fun q hq => absurd hq List.not_mem_nil) dX6_nearer_43

def f_X6_areApart (a0 : Int64) (a1 : Int64) : Bool := (if a1 < a0 then (if a1 < (a0 - 1) then true else false) else (if a0 < (a1 - 1) then true else false))
abbrev rmX6_areApart : Room := { frames := 0, cells := 0, slots := 0, locals := 0 }
set_option maxHeartbeats 4000000 in
set_option maxRecDepth 100000 in
theorem m_X6_areApart (l : Launch) (a0 : Int64) (a1 : Int64) (res : Bool) (hf : f_X6_areApart a0 a1 = res) : Met l yX6_areApart wsX6_areApart rmX6_areApart (my_PcP [.long a0, .long a1]) (vp_Si (fun z => z = b2i res)) 0 0 (fun _ => False) := by
  refine Met.ofW (cc := cX6_areApart) (maxL := 4) (ret := (some .boolean)) (by decide) rfl ?_
  intro p e s m args below meth c s₁ B hml hv
  obtain ⟨rfl, -⟩ := hv
  have hx := B.exec
  have hb := B.bytes
  have hr := B.returns
  have hts : ∀ w ∈ wsX6_areApart, w.before ([.long a0, .long a1] : List Value).toArray s = true := atoms_spec (ws := wsX6_areApart) B.pre
  have hown : s.vm.findClass RX6 = some m.cls := findClass_of_methodNamed B.named
  have hlk : meth.locks = false := B.notSynchronized
  have hl := lv_entry ([.long a0, .long a1]) (n := 4) (Nat.le_of_ble_eq_true rfl)
  rw [lg_entry_eq]
  generalize (lg_sl ([.long a0, .long a1]) ++ List.replicate (4 - (lg_sl ([.long a0, .long a1])).length) Slot.unset).toArray = ls at hl ⊢
  have hl : lv_has ls 4 [(0, .long a0), (2, .long a1)] := hl
  unfold f_X6_areApart at hf
  refine lv_lload_n hx hb dX6_areApart_0 rfl (lv_at hl 0 rfl) ?_
  refine lv_lload_n hx hb dX6_areApart_1 rfl (lv_at hl 1 rfl) ?_
  refine my_lc_le (tgt := 22) hx hb dX6_areApart_2 dX6_areApart_3 (by decide) (fun c1 => ?_) (fun c1 => ?_)
  · rw [if_neg c1] at hf
    refine lv_lload_n hx hb dX6_areApart_22 rfl (lv_at hl 1 rfl) ?_
    refine lv_lconst (v := 1) hx hb dX6_areApart_23 (by decide) ?_
    refine lv_lsub hx hb dX6_areApart_24 ?_
    refine lv_lload_n hx hb dX6_areApart_25 rfl (lv_at hl 0 rfl) ?_
    refine my_lc_le (tgt := 34) hx hb dX6_areApart_26 dX6_areApart_27 (by decide) (fun c2 => ?_) (fun c2 => ?_)
    · rw [if_neg c2] at hf
      refine lv_iconst (v := 0) hx hb dX6_areApart_34 (by decide) ?_
      exact W.zret (v := b2i false) (ty := .boolean) hx hb hr (b2i_nar _) (fun t ht hW => ⟨_, rfl, congrArg b2i (hf), ht⟩) (fun q hq => absurd hq List.not_mem_nil) dX6_areApart_35
    · rw [if_pos c2] at hf
      refine lv_iconst (v := 1) hx hb dX6_areApart_30 (by decide) ?_
      refine lv_goto (tgt := 35) hx hb dX6_areApart_31 (by decide) ?_
      exact W.zret (v := b2i true) (ty := .boolean) hx hb hr (b2i_nar _) (fun t ht hW => ⟨_, rfl, congrArg b2i (hf), ht⟩) (fun q hq => absurd hq List.not_mem_nil) dX6_areApart_35
  · rw [if_pos c1] at hf
    refine lv_lload_n hx hb dX6_areApart_6 rfl (lv_at hl 0 rfl) ?_
    refine lv_lconst (v := 1) hx hb dX6_areApart_7 (by decide) ?_
    refine lv_lsub hx hb dX6_areApart_8 ?_
    refine lv_lload_n hx hb dX6_areApart_9 rfl (lv_at hl 1 rfl) ?_
    refine my_lc_le (tgt := 18) hx hb dX6_areApart_10 dX6_areApart_11 (by decide) (fun c3 => ?_) (fun c3 => ?_)
    · rw [if_neg c3] at hf
      refine lv_iconst (v := 0) hx hb dX6_areApart_18 (by decide) ?_
      refine lv_goto (tgt := 35) hx hb dX6_areApart_19 (by decide) ?_
      exact W.zret (v := b2i false) (ty := .boolean) hx hb hr (b2i_nar _) (fun t ht hW => ⟨_, rfl, congrArg b2i (hf), ht⟩) (fun q hq => absurd hq List.not_mem_nil) dX6_areApart_35
    · rw [if_pos c3] at hf
      refine lv_iconst (v := 1) hx hb dX6_areApart_14 (by decide) ?_
      refine lv_goto (tgt := 35) hx hb dX6_areApart_15 (by decide) ?_
      exact W.zret (v := b2i true) (ty := .boolean) hx hb hr (b2i_nar _) (fun t ht hW => ⟨_, rfl, congrArg b2i (hf), ht⟩) (fun q hq => absurd hq List.not_mem_nil) dX6_areApart_35

def f_X6_middleOf (a0 : Int64) (a1 : Int64) : Int64 := ((a0 &&& a1) + (jshr (a0 ^^^ a1) 1))
abbrev rmX6_middleOf : Room := { frames := 0, cells := 0, slots := 0, locals := 0 }
set_option maxHeartbeats 4000000 in
set_option maxRecDepth 100000 in
theorem m_X6_middleOf (l : Launch) (a0 : Int64) (a1 : Int64) (res : Int64) (hf : f_X6_middleOf a0 a1 = res) : Met l yX6_middleOf wsX6_middleOf rmX6_middleOf (my_PcP [.long a0, .long a1]) (vp_Sl (fun z => z = res)) 0 0 (fun _ => False) := by
  refine Met.ofW (cc := cX6_middleOf) (maxL := 4) (ret := (some .long)) (by decide) rfl ?_
  intro p e s m args below meth c s₁ B hml hv
  obtain ⟨rfl, -⟩ := hv
  have hx := B.exec
  have hb := B.bytes
  have hr := B.returns
  have hts : ∀ w ∈ wsX6_middleOf, w.before ([.long a0, .long a1] : List Value).toArray s = true := atoms_spec (ws := wsX6_middleOf) B.pre
  have hown : s.vm.findClass RX6 = some m.cls := findClass_of_methodNamed B.named
  have hlk : meth.locks = false := B.notSynchronized
  have hl := lv_entry ([.long a0, .long a1]) (n := 4) (Nat.le_of_ble_eq_true rfl)
  rw [lg_entry_eq]
  generalize (lg_sl ([.long a0, .long a1]) ++ List.replicate (4 - (lg_sl ([.long a0, .long a1])).length) Slot.unset).toArray = ls at hl ⊢
  have hl : lv_has ls 4 [(0, .long a0), (2, .long a1)] := hl
  unfold f_X6_middleOf at hf
  refine lv_lload_n hx hb dX6_middleOf_0 rfl (lv_at hl 0 rfl) ?_
  refine lv_lload_n hx hb dX6_middleOf_1 rfl (lv_at hl 1 rfl) ?_
  refine lv_land hx hb dX6_middleOf_2 ?_
  refine lv_lload_n hx hb dX6_middleOf_3 rfl (lv_at hl 0 rfl) ?_
  refine lv_lload_n hx hb dX6_middleOf_4 rfl (lv_at hl 1 rfl) ?_
  refine lv_lxor hx hb dX6_middleOf_5 ?_
  refine lv_iconst (v := 1) hx hb dX6_middleOf_6 (by decide) ?_
  refine lv_lshr (v := (jshr (a0 ^^^ a1) 1)) hx hb dX6_middleOf_7 rfl ?_
  refine lv_ladd hx hb dX6_middleOf_8 ?_
  exact W.lret (v := ((a0 &&& a1) + (jshr (a0 ^^^ a1) 1))) hx hb hr (fun t ht hW => ⟨_, rfl, hf, ht⟩) (fun q hq => absurd hq List.not_mem_nil) dX6_middleOf_9

def f_X6_whole (a0 : Int64) : Int64 := (if a0 < 4503599627370496 then a0 else (4503599627370496 + (a0 - a0 / 4503599627370496 * 4503599627370496)))
abbrev rmX6_whole : Room := { frames := 0, cells := 0, slots := 0, locals := 0 }
set_option maxHeartbeats 4000000 in
set_option maxRecDepth 100000 in
theorem m_X6_whole (l : Launch) (a0 : Int64) (res : Int64) (hf : f_X6_whole a0 = res) : Met l yX6_whole wsX6_whole rmX6_whole (my_PcP [.long a0]) (vp_Sl (fun z => z = res)) 0 0 (fun _ => False) := by
  refine Met.ofW (cc := cX6_whole) (maxL := 2) (ret := (some .long)) (by decide) rfl ?_
  intro p e s m args below meth c s₁ B hml hv
  obtain ⟨rfl, -⟩ := hv
  have hx := B.exec
  have hb := B.bytes
  have hr := B.returns
  have hts : ∀ w ∈ wsX6_whole, w.before ([.long a0] : List Value).toArray s = true := atoms_spec (ws := wsX6_whole) B.pre
  have hown : s.vm.findClass RX6 = some m.cls := findClass_of_methodNamed B.named
  have hlk : meth.locks = false := B.notSynchronized
  have q1 := hts (.constantLong RX6 66 (4503599627370496)) (by decide +kernel)
  have hl := lv_entry ([.long a0]) (n := 2) (Nat.le_of_ble_eq_true rfl)
  rw [lg_entry_eq]
  generalize (lg_sl ([.long a0]) ++ List.replicate (2 - (lg_sl ([.long a0])).length) Slot.unset).toArray = ls at hl ⊢
  have hl : lv_has ls 2 [(0, .long a0)] := hl
  unfold f_X6_whole at hf
  refine lv_lload_n hx hb dX6_whole_0 rfl (lv_at hl 0 rfl) ?_
  refine lv_ldc2 (v := 4503599627370496) hx hb hown q1 dX6_whole_1 ?_
  refine my_lc_ge (tgt := 12) hx hb dX6_whole_4 dX6_whole_5 (by decide) (fun c1 => ?_) (fun c1 => ?_)
  · rw [if_neg c1] at hf
    refine lv_ldc2 (v := 4503599627370496) hx hb hown q1 dX6_whole_12 ?_
    refine lv_lload_n hx hb dX6_whole_15 rfl (lv_at hl 0 rfl) ?_
    refine lv_ldc2 (v := 4503599627370496) hx hb hown q1 dX6_whole_16 ?_
    refine lv_lrem hx hb dX6_whole_19 (by decide) ?_
    refine lv_ladd hx hb dX6_whole_20 ?_
    exact W.lret (v := (4503599627370496 + (a0 - a0 / 4503599627370496 * 4503599627370496))) hx hb hr (fun t ht hW => ⟨_, rfl, hf, ht⟩) (fun q hq => absurd hq List.not_mem_nil) dX6_whole_21
  · rw [if_pos c1] at hf
    refine lv_lload_n hx hb dX6_whole_8 rfl (lv_at hl 0 rfl) ?_
    refine lv_goto (tgt := 21) hx hb dX6_whole_9 (by decide) ?_
    exact W.lret (v := a0) hx hb hr (fun t ht hW => ⟨_, rfl, hf, ht⟩) (fun q hq => absurd hq List.not_mem_nil) dX6_whole_21

def f_X6_shift (a0 : Int64) : Int32 := (if a0 < 4503599627370496 then 0 else (((a0 / 4503599627370496).toInt32) - 1))
abbrev rmX6_shift : Room := { frames := 0, cells := 0, slots := 0, locals := 0 }
set_option maxHeartbeats 4000000 in
set_option maxRecDepth 100000 in
theorem m_X6_shift (l : Launch) (a0 : Int64) (res : Int32) (hf : f_X6_shift a0 = res) : Met l yX6_shift wsX6_shift rmX6_shift (my_PcP [.long a0]) (vp_Si (fun z => z = res)) 0 0 (fun _ => False) := by
  refine Met.ofW (cc := cX6_shift) (maxL := 2) (ret := (some .int)) (by decide) rfl ?_
  intro p e s m args below meth c s₁ B hml hv
  obtain ⟨rfl, -⟩ := hv
  have hx := B.exec
  have hb := B.bytes
  have hr := B.returns
  have hts : ∀ w ∈ wsX6_shift, w.before ([.long a0] : List Value).toArray s = true := atoms_spec (ws := wsX6_shift) B.pre
  have hown : s.vm.findClass RX6 = some m.cls := findClass_of_methodNamed B.named
  have hlk : meth.locks = false := B.notSynchronized
  have q1 := hts (.constantLong RX6 66 (4503599627370496)) (by decide +kernel)
  have hl := lv_entry ([.long a0]) (n := 2) (Nat.le_of_ble_eq_true rfl)
  rw [lg_entry_eq]
  generalize (lg_sl ([.long a0]) ++ List.replicate (2 - (lg_sl ([.long a0])).length) Slot.unset).toArray = ls at hl ⊢
  have hl : lv_has ls 2 [(0, .long a0)] := hl
  unfold f_X6_shift at hf
  refine lv_lload_n hx hb dX6_shift_0 rfl (lv_at hl 0 rfl) ?_
  refine lv_ldc2 (v := 4503599627370496) hx hb hown q1 dX6_shift_1 ?_
  refine my_lc_ge (tgt := 12) hx hb dX6_shift_4 dX6_shift_5 (by decide) (fun c1 => ?_) (fun c1 => ?_)
  · rw [if_neg c1] at hf
    refine lv_lload_n hx hb dX6_shift_12 rfl (lv_at hl 0 rfl) ?_
    refine lv_ldc2 (v := 4503599627370496) hx hb hown q1 dX6_shift_13 ?_
    refine lv_ldiv hx hb dX6_shift_16 (by decide) ?_
    refine lv_l2i (v := ((a0 / 4503599627370496).toInt32)) hx hb dX6_shift_17 rfl ?_
    refine lv_iconst (v := 1) hx hb dX6_shift_18 (by decide) ?_
    refine lv_isub hx hb dX6_shift_19 ?_
    exact W.iret (v := (((a0 / 4503599627370496).toInt32) - 1)) hx hb hr (fun t ht hW => ⟨_, rfl, hf, ht⟩) (fun q hq => absurd hq List.not_mem_nil) dX6_shift_20
  · rw [if_pos c1] at hf
    refine lv_iconst (v := 0) hx hb dX6_shift_8 (by decide) ?_
    refine lv_goto (tgt := 20) hx hb dX6_shift_9 (by decide) ?_
    exact W.iret (v := 0) hx hb hr (fun t ht hW => ⟨_, rfl, hf, ht⟩) (fun q hq => absurd hq List.not_mem_nil) dX6_shift_20

def f_X6_made_L81 (a0 : Int64) (a1 : Int32)   : Nat → Int32 → Int64 → Option (Int64)
  | 0, _, _ => none
  | n + 1, v81_5, v81_3 => (if v81_3 < 4503599627370496 then (if 0 < v81_5 then (f_X6_made_L81 a0 a1 n (v81_5 + (-1)) (v81_3 + v81_3)) else (if v81_3 < 4503599627370496 then some v81_3 else (if v81_5 < 2046 then some ((((v81_5 + 1).toInt64) * 4503599627370496) + (v81_3 - 4503599627370496)) else some 9218868437227405312))) else (if v81_3 < 4503599627370496 then some v81_3 else (if v81_5 < 2046 then some ((((v81_5 + 1).toInt64) * 4503599627370496) + (v81_3 - 4503599627370496)) else some 9218868437227405312)))
def f_X6_made (a0 : Int64) (a1 : Int32) : Option (Int64) := (if a1 < (-62) then some 0 else (if a1 < 0 then (if (jshl 1 (-a1)) = 0 then none else (if (jshl 1 (-a1)) = 0 then none else (if (jshl 1 (-a1)) < ((a0 - a0 / (jshl 1 (-a1)) * (jshl 1 (-a1))) + (a0 - a0 / (jshl 1 (-a1)) * (jshl 1 (-a1)))) then some ((a0 / (jshl 1 (-a1))) + 1) else (if ((a0 - a0 / (jshl 1 (-a1)) * (jshl 1 (-a1))) + (a0 - a0 / (jshl 1 (-a1)) * (jshl 1 (-a1)))) = (jshl 1 (-a1)) then (if ((a0 / (jshl 1 (-a1))) - (a0 / (jshl 1 (-a1))) / 2 * 2) = 1 then some ((a0 / (jshl 1 (-a1))) + 1) else some (a0 / (jshl 1 (-a1)))) else some (a0 / (jshl 1 (-a1))))))) else (f_X6_made_L81 a0 a1 100 a1 a0)))
abbrev rmX6_made : Room := { frames := 0, cells := 0, slots := 0, locals := 0 }
set_option maxHeartbeats 4000000 in
set_option maxRecDepth 100000 in
theorem m_X6_made (l : Launch) (a0 : Int64) (a1 : Int32) (res : Int64) (hf : f_X6_made a0 a1 = some res) : Met l yX6_made wsX6_made rmX6_made (my_PcP [.long a0, .int a1]) (vp_Sl (fun z => z = res)) 0 0 (fun _ => False) := by
  refine Met.ofW (cc := cX6_made) (maxL := 12) (ret := (some .long)) (by decide) rfl ?_
  intro p e s m args below meth c s₁ B hml hv
  obtain ⟨rfl, -⟩ := hv
  have hx := B.exec
  have hb := B.bytes
  have hr := B.returns
  have hts : ∀ w ∈ wsX6_made, w.before ([.long a0, .int a1] : List Value).toArray s = true := atoms_spec (ws := wsX6_made) B.pre
  have hown : s.vm.findClass RX6 = some m.cls := findClass_of_methodNamed B.named
  have hlk : meth.locks = false := B.notSynchronized
  have q1 := hts (.constantLong RX6 66 (4503599627370496)) (by decide +kernel)
  have q2 := hts (.constantLong RX6 49 (9218868437227405312)) (by decide +kernel)
  have q3 := hts (.constantLong RX6 68 (2)) (by decide +kernel)
  have hl := lv_entry ([.long a0, .int a1]) (n := 12) (Nat.le_of_ble_eq_true rfl)
  rw [lg_entry_eq]
  generalize (lg_sl ([.long a0, .int a1]) ++ List.replicate (12 - (lg_sl ([.long a0, .int a1])).length) Slot.unset).toArray = ls at hl ⊢
  have hl : lv_has ls 12 [(0, .long a0), (2, .int a1)] := hl
  unfold f_X6_made at hf
  refine lv_lload_n hx hb dX6_made_0 rfl (lv_at hl 0 rfl) ?_
  refine lv_lstore_n (lv' := [(3, .long a0), (0, .long a0), (2, .int a1)]) hx hb dX6_made_1 rfl hl (by decide) rfl (fun ls hl => ?_)
  refine lv_iload_n hx hb dX6_made_2 rfl (lv_at hl 2 rfl) ?_
  refine lv_istore (lv' := [(5, .int a1), (3, .long a0), (0, .long a0), (2, .int a1)]) hx hb dX6_made_3 hl (by decide) rfl (fun ls hl => ?_)
  refine lv_iload hx hb dX6_made_5 (lv_at hl 0 rfl) ?_
  refine lv_bipush (v := (-62)) hx hb dX6_made_7 (by decide) ?_
  refine my_ic_ge (tgt := 14) hx hb dX6_made_9 (by decide) (fun c1 => ?_) (fun c1 => ?_)
  · rw [if_neg c1] at hf
    refine lv_iload hx hb dX6_made_14 (lv_at hl 0 rfl) ?_
    refine my_if_ge (tgt := 81) hx hb dX6_made_16 (by decide) (fun c2 => ?_) (fun c2 => ?_)
    · rw [if_neg c2] at hf
      have loop81 : ∀ (n : Nat) (v81_5 : Int32) (v81_3 : Int64) (ls : Array Slot), lv_has ls 12 [(5, .int v81_5), (3, .long v81_3)] → f_X6_made_L81 a0 a1 n v81_5 v81_3 = some res → W p l e (rmX6_made) s m ([.long a0, .int a1] : List Value).toArray below meth c s.heap [] 0 0 (MQ below (vp_Sl (fun z => z = res)) ([.long a0, .int a1] : List Value).toArray s 0 0 (fun _ => False)) (F0 m 81 ls []) := by
        intro n
        induction n with
        | zero => intro v81_5 v81_3 ls hl hf; rw [f_X6_made_L81] at hf; cases hf
        | succ n ih81 =>
          intro v81_5 v81_3 ls hl hf
          rw [f_X6_made_L81] at hf
          refine lv_lload_n hx hb dX6_made_81 rfl (lv_at hl 1 rfl) ?_
          refine lv_ldc2 (v := 4503599627370496) hx hb hown q1 dX6_made_82 ?_
          refine my_lc_ge (tgt := 104) hx hb dX6_made_85 dX6_made_86 (by decide) (fun c3 => ?_) (fun c3 => ?_)
          · rw [if_neg c3] at hf
            refine lv_lload_n hx hb dX6_made_104 rfl (lv_at hl 1 rfl) ?_
            refine lv_ldc2 (v := 4503599627370496) hx hb hown q1 dX6_made_105 ?_
            refine my_lc_ge (tgt := 114) hx hb dX6_made_108 dX6_made_109 (by decide) (fun c4 => ?_) (fun c4 => ?_)
            · rw [if_neg c4] at hf
              refine lv_iload hx hb dX6_made_114 (lv_at hl 0 rfl) ?_
              refine lv_sipush (v := 2046) hx hb dX6_made_116 (by decide) ?_
              refine my_ic_lt (tgt := 128) hx hb dX6_made_119 (by decide) (fun c5 => ?_) (fun c5 => ?_)
              · rw [if_pos c5] at hf
                refine lv_iload hx hb dX6_made_128 (lv_at hl 0 rfl) ?_
                refine lv_iconst (v := 1) hx hb dX6_made_130 (by decide) ?_
                refine lv_iadd hx hb dX6_made_131 ?_
                refine lv_i2l (v := ((v81_5 + 1).toInt64)) hx hb dX6_made_132 rfl ?_
                refine lv_ldc2 (v := 4503599627370496) hx hb hown q1 dX6_made_133 ?_
                refine lv_lmul hx hb dX6_made_136 ?_
                refine lv_lload_n hx hb dX6_made_137 rfl (lv_at hl 1 rfl) ?_
                refine lv_ldc2 (v := 4503599627370496) hx hb hown q1 dX6_made_138 ?_
                refine lv_lsub hx hb dX6_made_141 ?_
                refine lv_ladd hx hb dX6_made_142 ?_
                exact W.lret (v := ((((v81_5 + 1).toInt64) * 4503599627370496) + (v81_3 - 4503599627370496))) hx hb hr (fun t ht hW => ⟨_, rfl, Option.some.inj hf, ht⟩) (fun q hq => absurd hq List.not_mem_nil) dX6_made_143
              · rw [if_neg c5] at hf
                refine lv_ldc2 (v := 9218868437227405312) hx hb hown q2 dX6_made_122 ?_
                refine lv_goto (tgt := 143) hx hb dX6_made_125 (by decide) ?_
                exact W.lret (v := 9218868437227405312) hx hb hr (fun t ht hW => ⟨_, rfl, Option.some.inj hf, ht⟩) (fun q hq => absurd hq List.not_mem_nil) dX6_made_143
            · rw [if_pos c4] at hf
              refine lv_lload_n hx hb dX6_made_112 rfl (lv_at hl 1 rfl) ?_
              exact W.lret (v := v81_3) hx hb hr (fun t ht hW => ⟨_, rfl, Option.some.inj hf, ht⟩) (fun q hq => absurd hq List.not_mem_nil) dX6_made_113
          · rw [if_pos c3] at hf
            refine lv_iload hx hb dX6_made_89 (lv_at hl 0 rfl) ?_
            refine my_if_le (tgt := 104) hx hb dX6_made_91 (by decide) (fun c6 => ?_) (fun c6 => ?_)
            · rw [if_neg c6] at hf
              refine lv_lload_n hx hb dX6_made_104 rfl (lv_at hl 1 rfl) ?_
              refine lv_ldc2 (v := 4503599627370496) hx hb hown q1 dX6_made_105 ?_
              refine my_lc_ge (tgt := 114) hx hb dX6_made_108 dX6_made_109 (by decide) (fun c7 => ?_) (fun c7 => ?_)
              · rw [if_neg c7] at hf
                refine lv_iload hx hb dX6_made_114 (lv_at hl 0 rfl) ?_
                refine lv_sipush (v := 2046) hx hb dX6_made_116 (by decide) ?_
                refine my_ic_lt (tgt := 128) hx hb dX6_made_119 (by decide) (fun c8 => ?_) (fun c8 => ?_)
                · rw [if_pos c8] at hf
                  refine lv_iload hx hb dX6_made_128 (lv_at hl 0 rfl) ?_
                  refine lv_iconst (v := 1) hx hb dX6_made_130 (by decide) ?_
                  refine lv_iadd hx hb dX6_made_131 ?_
                  refine lv_i2l (v := ((v81_5 + 1).toInt64)) hx hb dX6_made_132 rfl ?_
                  refine lv_ldc2 (v := 4503599627370496) hx hb hown q1 dX6_made_133 ?_
                  refine lv_lmul hx hb dX6_made_136 ?_
                  refine lv_lload_n hx hb dX6_made_137 rfl (lv_at hl 1 rfl) ?_
                  refine lv_ldc2 (v := 4503599627370496) hx hb hown q1 dX6_made_138 ?_
                  refine lv_lsub hx hb dX6_made_141 ?_
                  refine lv_ladd hx hb dX6_made_142 ?_
                  exact W.lret (v := ((((v81_5 + 1).toInt64) * 4503599627370496) + (v81_3 - 4503599627370496))) hx hb hr (fun t ht hW => ⟨_, rfl, Option.some.inj hf, ht⟩) (fun q hq => absurd hq List.not_mem_nil) dX6_made_143
                · rw [if_neg c8] at hf
                  refine lv_ldc2 (v := 9218868437227405312) hx hb hown q2 dX6_made_122 ?_
                  refine lv_goto (tgt := 143) hx hb dX6_made_125 (by decide) ?_
                  exact W.lret (v := 9218868437227405312) hx hb hr (fun t ht hW => ⟨_, rfl, Option.some.inj hf, ht⟩) (fun q hq => absurd hq List.not_mem_nil) dX6_made_143
              · rw [if_pos c7] at hf
                refine lv_lload_n hx hb dX6_made_112 rfl (lv_at hl 1 rfl) ?_
                exact W.lret (v := v81_3) hx hb hr (fun t ht hW => ⟨_, rfl, Option.some.inj hf, ht⟩) (fun q hq => absurd hq List.not_mem_nil) dX6_made_113
            · rw [if_pos c6] at hf
              refine lv_lload_n hx hb dX6_made_94 rfl (lv_at hl 1 rfl) ?_
              refine lv_lload_n hx hb dX6_made_95 rfl (lv_at hl 1 rfl) ?_
              refine lv_ladd hx hb dX6_made_96 ?_
              refine lv_lstore_n (lv' := [(3, .long (v81_3 + v81_3)), (5, .int v81_5)]) hx hb dX6_made_97 rfl hl (by decide) rfl (fun ls hl => ?_)
              refine lv_iinc (v := (v81_5 + (-1))) (lv' := [(5, .int (v81_5 + (-1))), (3, .long (v81_3 + v81_3))]) hx hb dX6_made_98 hl (k := 1) rfl rfl (by decide) rfl (fun ls hl => ?_)
              refine lv_goto (tgt := 81) hx hb dX6_made_101 (by decide) ?_
              exact ih81 (v81_5 + (-1)) (v81_3 + v81_3) _ (lv_sub hl [0, 1] rfl) hf
      exact loop81 100 a1 a0 _ (lv_sub hl [0, 1] rfl) hf
    · rw [if_pos c2] at hf
      refine lv_lconst (v := 1) hx hb dX6_made_19 (by decide) ?_
      refine lv_iload hx hb dX6_made_20 (lv_at hl 0 rfl) ?_
      refine lv_ineg hx hb dX6_made_22 ?_
      refine lv_lshl (v := (jshl 1 (-a1))) hx hb dX6_made_23 rfl ?_
      refine lv_lstore (lv' := [(6, .long (jshl 1 (-a1))), (5, .int a1), (3, .long a0), (0, .long a0), (2, .int a1)]) hx hb dX6_made_24 hl (by decide) rfl (fun ls hl => ?_)
      refine lv_lload_n hx hb dX6_made_26 rfl (lv_at hl 2 rfl) ?_
      refine lv_lload hx hb dX6_made_27 (lv_at hl 0 rfl) ?_
      obtain ⟨g9, hf⟩ := og_e hf
      refine lv_ldiv hx hb dX6_made_29 g9 ?_
      refine lv_lstore (lv' := [(8, .long (a0 / (jshl 1 (-a1)))), (6, .long (jshl 1 (-a1))), (5, .int a1), (3, .long a0), (0, .long a0), (2, .int a1)]) hx hb dX6_made_30 hl (by decide) rfl (fun ls hl => ?_)
      refine lv_lload_n hx hb dX6_made_32 rfl (lv_at hl 3 rfl) ?_
      refine lv_lload hx hb dX6_made_33 (lv_at hl 1 rfl) ?_
      obtain ⟨g10, hf⟩ := og_e hf
      refine lv_lrem hx hb dX6_made_35 g10 ?_
      refine lv_lstore (lv' := [(10, .long (a0 - a0 / (jshl 1 (-a1)) * (jshl 1 (-a1)))), (8, .long (a0 / (jshl 1 (-a1)))), (6, .long (jshl 1 (-a1))), (5, .int a1), (3, .long a0), (0, .long a0), (2, .int a1)]) hx hb dX6_made_36 hl (by decide) rfl (fun ls hl => ?_)
      refine lv_lload hx hb dX6_made_38 (lv_at hl 0 rfl) ?_
      refine lv_lload hx hb dX6_made_40 (lv_at hl 0 rfl) ?_
      refine lv_ladd hx hb dX6_made_42 ?_
      refine lv_lload hx hb dX6_made_43 (lv_at hl 2 rfl) ?_
      refine my_lc_gt (tgt := 71) hx hb dX6_made_45 dX6_made_46 (by decide) (fun c11 => ?_) (fun c11 => ?_)
      · rw [if_pos c11] at hf
        refine lv_lload hx hb dX6_made_71 (lv_at hl 1 rfl) ?_
        refine lv_lconst (v := 1) hx hb dX6_made_73 (by decide) ?_
        refine lv_ladd hx hb dX6_made_74 ?_
        refine lv_goto (tgt := 80) hx hb dX6_made_75 (by decide) ?_
        exact W.lret (v := ((a0 / (jshl 1 (-a1))) + 1)) hx hb hr (fun t ht hW => ⟨_, rfl, Option.some.inj hf, ht⟩) (fun q hq => absurd hq List.not_mem_nil) dX6_made_80
      · rw [if_neg c11] at hf
        refine lv_lload hx hb dX6_made_49 (lv_at hl 0 rfl) ?_
        refine lv_lload hx hb dX6_made_51 (lv_at hl 0 rfl) ?_
        refine lv_ladd hx hb dX6_made_53 ?_
        refine lv_lload hx hb dX6_made_54 (lv_at hl 2 rfl) ?_
        refine my_lc_ne (tgt := 78) hx hb dX6_made_56 dX6_made_57 (by decide) (fun c12 => ?_) (fun c12 => ?_)
        · rw [if_neg c12] at hf
          refine lv_lload hx hb dX6_made_78 (lv_at hl 1 rfl) ?_
          exact W.lret (v := (a0 / (jshl 1 (-a1)))) hx hb hr (fun t ht hW => ⟨_, rfl, Option.some.inj hf, ht⟩) (fun q hq => absurd hq List.not_mem_nil) dX6_made_80
        · rw [if_pos c12] at hf
          refine lv_lload hx hb dX6_made_60 (lv_at hl 1 rfl) ?_
          refine lv_ldc2 (v := 2) hx hb hown q3 dX6_made_62 ?_
          refine lv_lrem hx hb dX6_made_65 (by decide) ?_
          refine lv_lconst (v := 1) hx hb dX6_made_66 (by decide) ?_
          refine my_lc_ne (tgt := 78) hx hb dX6_made_67 dX6_made_68 (by decide) (fun c13 => ?_) (fun c13 => ?_)
          · rw [if_neg c13] at hf
            refine lv_lload hx hb dX6_made_78 (lv_at hl 1 rfl) ?_
            exact W.lret (v := (a0 / (jshl 1 (-a1)))) hx hb hr (fun t ht hW => ⟨_, rfl, Option.some.inj hf, ht⟩) (fun q hq => absurd hq List.not_mem_nil) dX6_made_80
          · rw [if_pos c13] at hf
            refine lv_lload hx hb dX6_made_71 (lv_at hl 1 rfl) ?_
            refine lv_lconst (v := 1) hx hb dX6_made_73 (by decide) ?_
            refine lv_ladd hx hb dX6_made_74 ?_
            refine lv_goto (tgt := 80) hx hb dX6_made_75 (by decide) ?_
            exact W.lret (v := ((a0 / (jshl 1 (-a1))) + 1)) hx hb hr (fun t ht hW => ⟨_, rfl, Option.some.inj hf, ht⟩) (fun q hq => absurd hq List.not_mem_nil) dX6_made_80
  · rw [if_pos c1] at hf
    refine lv_lconst (v := 0) hx hb dX6_made_12 (by decide) ?_
    exact W.lret (v := 0) hx hb hr (fun t ht hW => ⟨_, rfl, Option.some.inj hf, ht⟩) (fun q hq => absurd hq List.not_mem_nil) dX6_made_13

def f_X6_scaled (a0 : Int64) (a1 : Int32) : Option (Int64) := (if (f_X6_size a0) = 0 then some a0 else (if (f_X6_size a0) = 9218868437227405312 then some a0 else ((f_X6_made (f_X6_whole (f_X6_size a0)) ((f_X6_shift (f_X6_size a0)) + a1)).bind fun r3 => (if a0 < 0 then some (f_X6_opposite r3) else some r3))))
abbrev rmX6_scaled : Room := { frames := 1, cells := 0, slots := 0, locals := 31 }
set_option maxHeartbeats 4000000 in
set_option maxRecDepth 100000 in
theorem m_X6_scaled (l : Launch) (a0 : Int64) (a1 : Int32) (res : Int64) (hf : f_X6_scaled a0 a1 = some res) : Met l yX6_scaled wsX6_scaled rmX6_scaled (my_PcP [.long a0, .int a1]) (vp_Sl (fun z => z = res)) 0 0 (fun _ => False) := by
  refine Met.ofW (cc := cX6_scaled) (maxL := 7) (ret := (some .long)) (by decide) rfl ?_
  intro p e s m args below meth c s₁ B hml hv
  obtain ⟨rfl, -⟩ := hv
  have hx := B.exec
  have hb := B.bytes
  have hr := B.returns
  have hts : ∀ w ∈ wsX6_scaled, w.before ([.long a0, .int a1] : List Value).toArray s = true := atoms_spec (ws := wsX6_scaled) B.pre
  have hown : s.vm.findClass RX6 = some m.cls := findClass_of_methodNamed B.named
  have hlk : meth.locks = false := B.notSynchronized
  have q1 := hts (.constantLong RX6 49 (9218868437227405312)) (by decide +kernel)
  have hl := lv_entry ([.long a0, .int a1]) (n := 7) (Nat.le_of_ble_eq_true rfl)
  rw [lg_entry_eq]
  generalize (lg_sl ([.long a0, .int a1]) ++ List.replicate (7 - (lg_sl ([.long a0, .int a1])).length) Slot.unset).toArray = ls at hl ⊢
  have hl : lv_has ls 7 [(0, .long a0), (2, .int a1)] := hl
  unfold f_X6_scaled at hf
  refine lv_lload_n hx hb dX6_scaled_0 rfl (lv_at hl 0 rfl) ?_
  refine my_callPl (As := [.long a0]) (rest := []) ⟨hx, hb, hml, hown, hts⟩ (m_X6_size l a0 _ rfl) gX6_scaled_X6_size rfl ⟨rfl, rfl⟩ (by decide +kernel) ⟨Nat.le_of_ble_eq_true rfl, Nat.le_of_ble_eq_true rfl⟩ ⟨Nat.le_of_ble_eq_true rfl, Nat.le_of_ble_eq_true rfl⟩ hl.1 rfl rfl (Nat.le_of_ble_eq_true rfl) dX6_scaled_1 ?_
  refine lv_lstore_n (lv' := [(3, .long (f_X6_size a0)), (0, .long a0), (2, .int a1)]) hx hb dX6_scaled_4 rfl hl (by decide) rfl (fun ls hl => ?_)
  refine lv_lload_n hx hb dX6_scaled_5 rfl (lv_at hl 0 rfl) ?_
  refine lv_lconst (v := 0) hx hb dX6_scaled_6 (by decide) ?_
  refine my_lc_eq (tgt := 19) hx hb dX6_scaled_7 dX6_scaled_8 (by decide) (fun c1 => ?_) (fun c1 => ?_)
  · rw [if_pos c1] at hf
    refine lv_lload_n hx hb dX6_scaled_19 rfl (lv_at hl 1 rfl) ?_
    exact W.lret (v := a0) hx hb hr (fun t ht hW => ⟨_, rfl, Option.some.inj hf, ht⟩) (fun q hq => absurd hq List.not_mem_nil) dX6_scaled_20
  · rw [if_neg c1] at hf
    refine lv_lload_n hx hb dX6_scaled_11 rfl (lv_at hl 0 rfl) ?_
    refine lv_ldc2 (v := 9218868437227405312) hx hb hown q1 dX6_scaled_12 ?_
    refine my_lc_ne (tgt := 21) hx hb dX6_scaled_15 dX6_scaled_16 (by decide) (fun c2 => ?_) (fun c2 => ?_)
    · rw [if_neg c2] at hf
      refine lv_lload_n hx hb dX6_scaled_21 rfl (lv_at hl 0 rfl) ?_
      refine my_callPl (As := [.long (f_X6_size a0)]) (rest := []) ⟨hx, hb, hml, hown, hts⟩ (m_X6_whole l (f_X6_size a0) _ rfl) gX6_scaled_X6_whole rfl ⟨rfl, rfl⟩ (by decide +kernel) ⟨Nat.le_of_ble_eq_true rfl, Nat.le_of_ble_eq_true rfl⟩ ⟨Nat.le_of_ble_eq_true rfl, Nat.le_of_ble_eq_true rfl⟩ hl.1 rfl rfl (Nat.le_of_ble_eq_true rfl) dX6_scaled_22 ?_
      refine lv_lload_n hx hb dX6_scaled_25 rfl (lv_at hl 0 rfl) ?_
      refine my_callPi (As := [.long (f_X6_size a0)]) (rest := [.long (f_X6_whole (f_X6_size a0))]) ⟨hx, hb, hml, hown, hts⟩ (m_X6_shift l (f_X6_size a0) _ rfl) gX6_scaled_X6_shift rfl ⟨rfl, rfl⟩ (by decide +kernel) ⟨Nat.le_of_ble_eq_true rfl, Nat.le_of_ble_eq_true rfl⟩ ⟨Nat.le_of_ble_eq_true rfl, Nat.le_of_ble_eq_true rfl⟩ hl.1 rfl rfl (Nat.le_of_ble_eq_true rfl) dX6_scaled_26 ?_
      refine lv_iload_n hx hb dX6_scaled_29 rfl (lv_at hl 2 rfl) ?_
      refine lv_iadd hx hb dX6_scaled_30 ?_
      obtain ⟨r3, er3, hf⟩ := ob_e hf
      refine my_callPl (As := [.long (f_X6_whole (f_X6_size a0)), .int ((f_X6_shift (f_X6_size a0)) + a1)]) (rest := []) ⟨hx, hb, hml, hown, hts⟩ (m_X6_made l (f_X6_whole (f_X6_size a0)) ((f_X6_shift (f_X6_size a0)) + a1) _ er3) gX6_scaled_X6_made rfl ⟨rfl, rfl⟩ (by decide +kernel) ⟨Nat.le_of_ble_eq_true rfl, Nat.le_of_ble_eq_true rfl⟩ ⟨Nat.le_of_ble_eq_true rfl, Nat.le_of_ble_eq_true rfl⟩ hl.1 rfl rfl (Nat.le_of_ble_eq_true rfl) dX6_scaled_31 ?_
      refine lv_lstore (lv' := [(5, .long r3), (3, .long (f_X6_size a0)), (0, .long a0), (2, .int a1)]) hx hb dX6_scaled_34 hl (by decide) rfl (fun ls hl => ?_)
      refine lv_lload_n hx hb dX6_scaled_36 rfl (lv_at hl 2 rfl) ?_
      refine lv_lconst (v := 0) hx hb dX6_scaled_37 (by decide) ?_
      refine my_lc_lt (tgt := 47) hx hb dX6_scaled_38 dX6_scaled_39 (by decide) (fun c4 => ?_) (fun c4 => ?_)
      · rw [if_pos c4] at hf
        refine lv_lload hx hb dX6_scaled_47 (lv_at hl 0 rfl) ?_
        refine my_callPl (As := [.long r3]) (rest := []) ⟨hx, hb, hml, hown, hts⟩ (m_X6_opposite l r3 _ rfl) gX6_scaled_X6_opposite rfl ⟨rfl, rfl⟩ (by decide +kernel) ⟨Nat.le_of_ble_eq_true rfl, Nat.le_of_ble_eq_true rfl⟩ ⟨Nat.le_of_ble_eq_true rfl, Nat.le_of_ble_eq_true rfl⟩ hl.1 rfl rfl (Nat.le_of_ble_eq_true rfl) dX6_scaled_49 ?_
        exact W.lret (v := (f_X6_opposite r3)) hx hb hr (fun t ht hW => ⟨_, rfl, Option.some.inj hf, ht⟩) (fun q hq => absurd hq List.not_mem_nil) dX6_scaled_52
      · rw [if_neg c4] at hf
        refine lv_lload hx hb dX6_scaled_42 (lv_at hl 0 rfl) ?_
        refine lv_goto (tgt := 52) hx hb dX6_scaled_44 (by decide) ?_
        exact W.lret (v := r3) hx hb hr (fun t ht hW => ⟨_, rfl, Option.some.inj hf, ht⟩) (fun q hq => absurd hq List.not_mem_nil) dX6_scaled_52
    · rw [if_pos c2] at hf
      refine lv_lload_n hx hb dX6_scaled_19 rfl (lv_at hl 1 rfl) ?_
      exact W.lret (v := a0) hx hb hr (fun t ht hW => ⟨_, rfl, Option.some.inj hf, ht⟩) (fun q hq => absurd hq List.not_mem_nil) dX6_scaled_20

def f_X6_bits_L4 (a0 : Int64)   : Nat → Int64 → Int32 → Option (Int32)
  | 0, _, _ => none
  | n + 1, v4_3, v4_2 => (if 0 < v4_3 then (f_X6_bits_L4 a0 n (v4_3 / 2) (v4_2 + 1)) else some v4_2)
def f_X6_bits (a0 : Int64) : Option (Int32) := (f_X6_bits_L4 a0 100 a0 0)
abbrev rmX6_bits : Room := { frames := 0, cells := 0, slots := 0, locals := 0 }
set_option maxHeartbeats 4000000 in
set_option maxRecDepth 100000 in
theorem m_X6_bits (l : Launch) (a0 : Int64) (res : Int32) (hf : f_X6_bits a0 = some res) : Met l yX6_bits wsX6_bits rmX6_bits (my_PcP [.long a0]) (vp_Si (fun z => z = res)) 0 0 (fun _ => False) := by
  refine Met.ofW (cc := cX6_bits) (maxL := 5) (ret := (some .int)) (by decide) rfl ?_
  intro p e s m args below meth c s₁ B hml hv
  obtain ⟨rfl, -⟩ := hv
  have hx := B.exec
  have hb := B.bytes
  have hr := B.returns
  have hts : ∀ w ∈ wsX6_bits, w.before ([.long a0] : List Value).toArray s = true := atoms_spec (ws := wsX6_bits) B.pre
  have hown : s.vm.findClass RX6 = some m.cls := findClass_of_methodNamed B.named
  have hlk : meth.locks = false := B.notSynchronized
  have q1 := hts (.constantLong RX6 68 (2)) (by decide +kernel)
  have hl := lv_entry ([.long a0]) (n := 5) (Nat.le_of_ble_eq_true rfl)
  rw [lg_entry_eq]
  generalize (lg_sl ([.long a0]) ++ List.replicate (5 - (lg_sl ([.long a0])).length) Slot.unset).toArray = ls at hl ⊢
  have hl : lv_has ls 5 [(0, .long a0)] := hl
  unfold f_X6_bits at hf
  refine lv_iconst (v := 0) hx hb dX6_bits_0 (by decide) ?_
  refine lv_istore_n (lv' := [(2, .int 0), (0, .long a0)]) hx hb dX6_bits_1 rfl hl (by decide) rfl (fun ls hl => ?_)
  refine lv_lload_n hx hb dX6_bits_2 rfl (lv_at hl 1 rfl) ?_
  refine lv_lstore_n (lv' := [(3, .long a0), (2, .int 0), (0, .long a0)]) hx hb dX6_bits_3 rfl hl (by decide) rfl (fun ls hl => ?_)
  have loop4 : ∀ (n : Nat) (v4_3 : Int64) (v4_2 : Int32) (ls : Array Slot), lv_has ls 5 [(3, .long v4_3), (2, .int v4_2)] → f_X6_bits_L4 a0 n v4_3 v4_2 = some res → W p l e (rmX6_bits) s m ([.long a0] : List Value).toArray below meth c s.heap [] 0 0 (MQ below (vp_Si (fun z => z = res)) ([.long a0] : List Value).toArray s 0 0 (fun _ => False)) (F0 m 4 ls []) := by
    intro n
    induction n with
    | zero => intro v4_3 v4_2 ls hl hf; rw [f_X6_bits_L4] at hf; cases hf
    | succ n ih4 =>
      intro v4_3 v4_2 ls hl hf
      rw [f_X6_bits_L4] at hf
      refine lv_lload_n hx hb dX6_bits_4 rfl (lv_at hl 0 rfl) ?_
      refine lv_lconst (v := 0) hx hb dX6_bits_5 (by decide) ?_
      refine my_lc_le (tgt := 22) hx hb dX6_bits_6 dX6_bits_7 (by decide) (fun c1 => ?_) (fun c1 => ?_)
      · rw [if_neg c1] at hf
        refine lv_iload_n hx hb dX6_bits_22 rfl (lv_at hl 1 rfl) ?_
        exact W.iret (v := v4_2) hx hb hr (fun t ht hW => ⟨_, rfl, Option.some.inj hf, ht⟩) (fun q hq => absurd hq List.not_mem_nil) dX6_bits_23
      · rw [if_pos c1] at hf
        refine lv_iinc (v := (v4_2 + 1)) (lv' := [(2, .int (v4_2 + 1)), (3, .long v4_3)]) hx hb dX6_bits_10 hl (k := 1) rfl rfl (by decide) rfl (fun ls hl => ?_)
        refine lv_lload_n hx hb dX6_bits_13 rfl (lv_at hl 1 rfl) ?_
        refine lv_ldc2 (v := 2) hx hb hown q1 dX6_bits_14 ?_
        refine lv_ldiv hx hb dX6_bits_17 (by decide) ?_
        refine lv_lstore_n (lv' := [(3, .long (v4_3 / 2)), (2, .int (v4_2 + 1))]) hx hb dX6_bits_18 rfl hl (by decide) rfl (fun ls hl => ?_)
        refine lv_goto (tgt := 4) hx hb dX6_bits_19 (by decide) ?_
        exact ih4 (v4_3 / 2) (v4_2 + 1) _ (lv_sub hl [0, 1] rfl) hf
  exact loop4 100 a0 0 _ (lv_sub hl [0, 1] rfl) hf

def f_X6_leadOf (a0 : Int64) : Option (Int32) := ((f_X6_bits (f_X6_whole a0)).bind fun r1 => some (((r1 - 1) + (f_X6_shift a0)) - 1074))
abbrev rmX6_leadOf : Room := { frames := 1, cells := 0, slots := 0, locals := 24 }
set_option maxHeartbeats 4000000 in
set_option maxRecDepth 100000 in
theorem m_X6_leadOf (l : Launch) (a0 : Int64) (res : Int32) (hf : f_X6_leadOf a0 = some res) : Met l yX6_leadOf wsX6_leadOf rmX6_leadOf (my_PcP [.long a0]) (vp_Si (fun z => z = res)) 0 0 (fun _ => False) := by
  refine Met.ofW (cc := cX6_leadOf) (maxL := 2) (ret := (some .int)) (by decide) rfl ?_
  intro p e s m args below meth c s₁ B hml hv
  obtain ⟨rfl, -⟩ := hv
  have hx := B.exec
  have hb := B.bytes
  have hr := B.returns
  have hts : ∀ w ∈ wsX6_leadOf, w.before ([.long a0] : List Value).toArray s = true := atoms_spec (ws := wsX6_leadOf) B.pre
  have hown : s.vm.findClass RX6 = some m.cls := findClass_of_methodNamed B.named
  have hlk : meth.locks = false := B.notSynchronized
  have hl := lv_entry ([.long a0]) (n := 2) (Nat.le_of_ble_eq_true rfl)
  rw [lg_entry_eq]
  generalize (lg_sl ([.long a0]) ++ List.replicate (2 - (lg_sl ([.long a0])).length) Slot.unset).toArray = ls at hl ⊢
  have hl : lv_has ls 2 [(0, .long a0)] := hl
  unfold f_X6_leadOf at hf
  refine lv_lload_n hx hb dX6_leadOf_0 rfl (lv_at hl 0 rfl) ?_
  refine my_callPl (As := [.long a0]) (rest := []) ⟨hx, hb, hml, hown, hts⟩ (m_X6_whole l a0 _ rfl) gX6_leadOf_X6_whole rfl ⟨rfl, rfl⟩ (by decide +kernel) ⟨Nat.le_of_ble_eq_true rfl, Nat.le_of_ble_eq_true rfl⟩ ⟨Nat.le_of_ble_eq_true rfl, Nat.le_of_ble_eq_true rfl⟩ hl.1 rfl rfl (Nat.le_of_ble_eq_true rfl) dX6_leadOf_1 ?_
  obtain ⟨r1, er1, hf⟩ := ob_e hf
  refine my_callPi (As := [.long (f_X6_whole a0)]) (rest := []) ⟨hx, hb, hml, hown, hts⟩ (m_X6_bits l (f_X6_whole a0) _ er1) gX6_leadOf_X6_bits rfl ⟨rfl, rfl⟩ (by decide +kernel) ⟨Nat.le_of_ble_eq_true rfl, Nat.le_of_ble_eq_true rfl⟩ ⟨Nat.le_of_ble_eq_true rfl, Nat.le_of_ble_eq_true rfl⟩ hl.1 rfl rfl (Nat.le_of_ble_eq_true rfl) dX6_leadOf_4 ?_
  refine lv_iconst (v := 1) hx hb dX6_leadOf_7 (by decide) ?_
  refine lv_isub hx hb dX6_leadOf_8 ?_
  refine lv_lload_n hx hb dX6_leadOf_9 rfl (lv_at hl 0 rfl) ?_
  refine my_callPi (As := [.long a0]) (rest := [.int (r1 - 1)]) ⟨hx, hb, hml, hown, hts⟩ (m_X6_shift l a0 _ rfl) gX6_leadOf_X6_shift rfl ⟨rfl, rfl⟩ (by decide +kernel) ⟨Nat.le_of_ble_eq_true rfl, Nat.le_of_ble_eq_true rfl⟩ ⟨Nat.le_of_ble_eq_true rfl, Nat.le_of_ble_eq_true rfl⟩ hl.1 rfl rfl (Nat.le_of_ble_eq_true rfl) dX6_leadOf_10 ?_
  refine lv_iadd hx hb dX6_leadOf_13 ?_
  refine lv_sipush (v := 1074) hx hb dX6_leadOf_14 (by decide) ?_
  refine lv_isub hx hb dX6_leadOf_17 ?_
  exact W.iret (v := (((r1 - 1) + (f_X6_shift a0)) - 1074)) hx hb hr (fun t ht hW => ⟨_, rfl, Option.some.inj hf, ht⟩) (fun q hq => absurd hq List.not_mem_nil) dX6_leadOf_18

def f_X6_tailOf_L7 (a0 : Int64)   : Nat → Int64 → Int32 → Option (Int32)
  | 0, _, _ => none
  | n + 1, v7_3, v7_2 => (if (v7_3 - v7_3 / 2 * 2) = 0 then (f_X6_tailOf_L7 a0 n (v7_3 / 2) (v7_2 + 1)) else some ((v7_2 + (f_X6_shift a0)) - 1074))
def f_X6_tailOf (a0 : Int64) : Option (Int32) := (f_X6_tailOf_L7 a0 100 (f_X6_whole a0) 0)
abbrev rmX6_tailOf : Room := { frames := 1, cells := 0, slots := 0, locals := 21 }
set_option maxHeartbeats 4000000 in
set_option maxRecDepth 100000 in
theorem m_X6_tailOf (l : Launch) (a0 : Int64) (res : Int32) (hf : f_X6_tailOf a0 = some res) : Met l yX6_tailOf wsX6_tailOf rmX6_tailOf (my_PcP [.long a0]) (vp_Si (fun z => z = res)) 0 0 (fun _ => False) := by
  refine Met.ofW (cc := cX6_tailOf) (maxL := 5) (ret := (some .int)) (by decide) rfl ?_
  intro p e s m args below meth c s₁ B hml hv
  obtain ⟨rfl, -⟩ := hv
  have hx := B.exec
  have hb := B.bytes
  have hr := B.returns
  have hts : ∀ w ∈ wsX6_tailOf, w.before ([.long a0] : List Value).toArray s = true := atoms_spec (ws := wsX6_tailOf) B.pre
  have hown : s.vm.findClass RX6 = some m.cls := findClass_of_methodNamed B.named
  have hlk : meth.locks = false := B.notSynchronized
  have q1 := hts (.constantLong RX6 68 (2)) (by decide +kernel)
  have hl := lv_entry ([.long a0]) (n := 5) (Nat.le_of_ble_eq_true rfl)
  rw [lg_entry_eq]
  generalize (lg_sl ([.long a0]) ++ List.replicate (5 - (lg_sl ([.long a0])).length) Slot.unset).toArray = ls at hl ⊢
  have hl : lv_has ls 5 [(0, .long a0)] := hl
  unfold f_X6_tailOf at hf
  refine lv_iconst (v := 0) hx hb dX6_tailOf_0 (by decide) ?_
  refine lv_istore_n (lv' := [(2, .int 0), (0, .long a0)]) hx hb dX6_tailOf_1 rfl hl (by decide) rfl (fun ls hl => ?_)
  refine lv_lload_n hx hb dX6_tailOf_2 rfl (lv_at hl 1 rfl) ?_
  refine my_callPl (As := [.long a0]) (rest := []) ⟨hx, hb, hml, hown, hts⟩ (m_X6_whole l a0 _ rfl) gX6_tailOf_X6_whole rfl ⟨rfl, rfl⟩ (by decide +kernel) ⟨Nat.le_of_ble_eq_true rfl, Nat.le_of_ble_eq_true rfl⟩ ⟨Nat.le_of_ble_eq_true rfl, Nat.le_of_ble_eq_true rfl⟩ hl.1 rfl rfl (Nat.le_of_ble_eq_true rfl) dX6_tailOf_3 ?_
  refine lv_lstore_n (lv' := [(3, .long (f_X6_whole a0)), (2, .int 0), (0, .long a0)]) hx hb dX6_tailOf_6 rfl hl (by decide) rfl (fun ls hl => ?_)
  have loop7 : ∀ (n : Nat) (v7_3 : Int64) (v7_2 : Int32) (ls : Array Slot), lv_has ls 5 [(3, .long v7_3), (2, .int v7_2), (0, .long a0)] → f_X6_tailOf_L7 a0 n v7_3 v7_2 = some res → W p l e (rmX6_tailOf) s m ([.long a0] : List Value).toArray below meth c s.heap [] 0 0 (MQ below (vp_Si (fun z => z = res)) ([.long a0] : List Value).toArray s 0 0 (fun _ => False)) (F0 m 7 ls []) := by
    intro n
    induction n with
    | zero => intro v7_3 v7_2 ls hl hf; rw [f_X6_tailOf_L7] at hf; cases hf
    | succ n ih7 =>
      intro v7_3 v7_2 ls hl hf
      rw [f_X6_tailOf_L7] at hf
      refine lv_lload_n hx hb dX6_tailOf_7 rfl (lv_at hl 0 rfl) ?_
      refine lv_ldc2 (v := 2) hx hb hown q1 dX6_tailOf_8 ?_
      refine lv_lrem hx hb dX6_tailOf_11 (by decide) ?_
      refine lv_lconst (v := 0) hx hb dX6_tailOf_12 (by decide) ?_
      refine my_lc_ne (tgt := 29) hx hb dX6_tailOf_13 dX6_tailOf_14 (by decide) (fun c1 => ?_) (fun c1 => ?_)
      · rw [if_neg c1] at hf
        refine lv_iload_n hx hb dX6_tailOf_29 rfl (lv_at hl 1 rfl) ?_
        refine lv_lload_n hx hb dX6_tailOf_30 rfl (lv_at hl 2 rfl) ?_
        refine my_callPi (As := [.long a0]) (rest := [.int v7_2]) ⟨hx, hb, hml, hown, hts⟩ (m_X6_shift l a0 _ rfl) gX6_tailOf_X6_shift rfl ⟨rfl, rfl⟩ (by decide +kernel) ⟨Nat.le_of_ble_eq_true rfl, Nat.le_of_ble_eq_true rfl⟩ ⟨Nat.le_of_ble_eq_true rfl, Nat.le_of_ble_eq_true rfl⟩ hl.1 rfl rfl (Nat.le_of_ble_eq_true rfl) dX6_tailOf_31 ?_
        refine lv_iadd hx hb dX6_tailOf_34 ?_
        refine lv_sipush (v := 1074) hx hb dX6_tailOf_35 (by decide) ?_
        refine lv_isub hx hb dX6_tailOf_38 ?_
        exact W.iret (v := ((v7_2 + (f_X6_shift a0)) - 1074)) hx hb hr (fun t ht hW => ⟨_, rfl, Option.some.inj hf, ht⟩) (fun q hq => absurd hq List.not_mem_nil) dX6_tailOf_39
      · rw [if_pos c1] at hf
        refine lv_iinc (v := (v7_2 + 1)) (lv' := [(2, .int (v7_2 + 1)), (3, .long v7_3), (0, .long a0)]) hx hb dX6_tailOf_17 hl (k := 1) rfl rfl (by decide) rfl (fun ls hl => ?_)
        refine lv_lload_n hx hb dX6_tailOf_20 rfl (lv_at hl 1 rfl) ?_
        refine lv_ldc2 (v := 2) hx hb hown q1 dX6_tailOf_21 ?_
        refine lv_ldiv hx hb dX6_tailOf_24 (by decide) ?_
        refine lv_lstore_n (lv' := [(3, .long (v7_3 / 2)), (2, .int (v7_2 + 1)), (0, .long a0)]) hx hb dX6_tailOf_25 rfl hl (by decide) rfl (fun ls hl => ?_)
        refine lv_goto (tgt := 7) hx hb dX6_tailOf_26 (by decide) ?_
        exact ih7 (v7_3 / 2) (v7_2 + 1) _ (lv_sub hl [0, 1, 2] rfl) hf
  exact loop7 100 (f_X6_whole a0) 0 _ (lv_sub hl [0, 1, 2] rfl) hf

def f_X6_exponentOf (a0 : Int64) : Int32 := ((((f_X6_size a0) / 4503599627370496).toInt32) - 1023)
abbrev rmX6_exponentOf : Room := { frames := 1, cells := 0, slots := 0, locals := 21 }
set_option maxHeartbeats 4000000 in
set_option maxRecDepth 100000 in
theorem m_X6_exponentOf (l : Launch) (a0 : Int64) (res : Int32) (hf : f_X6_exponentOf a0 = res) : Met l yX6_exponentOf wsX6_exponentOf rmX6_exponentOf (my_PcP [.long a0]) (vp_Si (fun z => z = res)) 0 0 (fun _ => False) := by
  refine Met.ofW (cc := cX6_exponentOf) (maxL := 2) (ret := (some .int)) (by decide) rfl ?_
  intro p e s m args below meth c s₁ B hml hv
  obtain ⟨rfl, -⟩ := hv
  have hx := B.exec
  have hb := B.bytes
  have hr := B.returns
  have hts : ∀ w ∈ wsX6_exponentOf, w.before ([.long a0] : List Value).toArray s = true := atoms_spec (ws := wsX6_exponentOf) B.pre
  have hown : s.vm.findClass RX6 = some m.cls := findClass_of_methodNamed B.named
  have hlk : meth.locks = false := B.notSynchronized
  have q1 := hts (.constantLong RX6 66 (4503599627370496)) (by decide +kernel)
  have hl := lv_entry ([.long a0]) (n := 2) (Nat.le_of_ble_eq_true rfl)
  rw [lg_entry_eq]
  generalize (lg_sl ([.long a0]) ++ List.replicate (2 - (lg_sl ([.long a0])).length) Slot.unset).toArray = ls at hl ⊢
  have hl : lv_has ls 2 [(0, .long a0)] := hl
  unfold f_X6_exponentOf at hf
  refine lv_lload_n hx hb dX6_exponentOf_0 rfl (lv_at hl 0 rfl) ?_
  refine my_callPl (As := [.long a0]) (rest := []) ⟨hx, hb, hml, hown, hts⟩ (m_X6_size l a0 _ rfl) gX6_exponentOf_X6_size rfl ⟨rfl, rfl⟩ (by decide +kernel) ⟨Nat.le_of_ble_eq_true rfl, Nat.le_of_ble_eq_true rfl⟩ ⟨Nat.le_of_ble_eq_true rfl, Nat.le_of_ble_eq_true rfl⟩ hl.1 rfl rfl (Nat.le_of_ble_eq_true rfl) dX6_exponentOf_1 ?_
  refine lv_ldc2 (v := 4503599627370496) hx hb hown q1 dX6_exponentOf_4 ?_
  refine lv_ldiv hx hb dX6_exponentOf_7 (by decide) ?_
  refine lv_l2i (v := (((f_X6_size a0) / 4503599627370496).toInt32)) hx hb dX6_exponentOf_8 rfl ?_
  refine lv_sipush (v := 1023) hx hb dX6_exponentOf_9 (by decide) ?_
  refine lv_isub hx hb dX6_exponentOf_12 ?_
  exact W.iret (v := ((((f_X6_size a0) / 4503599627370496).toInt32) - 1023)) hx hb hr (fun t ht hW => ⟨_, rfl, hf, ht⟩) (fun q hq => absurd hq List.not_mem_nil) dX6_exponentOf_13

def f_X6_unitOf (a0 : Int64) : Option (Int64) := (if (f_X6_isEnd a0) = false then (if (f_X6_exponentOf a0) < (-1022) then ((f_X6_made 1 ((-1022) + 1022)).bind fun r4 => some r4) else ((f_X6_made 1 ((f_X6_exponentOf a0) + 1022)).bind fun r3 => some r3)) else some 9218868437227405312)
abbrev rmX6_unitOf : Room := { frames := 2, cells := 0, slots := 0, locals := 42 }
set_option maxHeartbeats 4000000 in
set_option maxRecDepth 100000 in
theorem m_X6_unitOf (l : Launch) (a0 : Int64) (res : Int64) (hf : f_X6_unitOf a0 = some res) : Met l yX6_unitOf wsX6_unitOf rmX6_unitOf (my_PcP [.long a0]) (vp_Sl (fun z => z = res)) 0 0 (fun _ => False) := by
  refine Met.ofW (cc := cX6_unitOf) (maxL := 3) (ret := (some .long)) (by decide) rfl ?_
  intro p e s m args below meth c s₁ B hml hv
  obtain ⟨rfl, -⟩ := hv
  have hx := B.exec
  have hb := B.bytes
  have hr := B.returns
  have hts : ∀ w ∈ wsX6_unitOf, w.before ([.long a0] : List Value).toArray s = true := atoms_spec (ws := wsX6_unitOf) B.pre
  have hown : s.vm.findClass RX6 = some m.cls := findClass_of_methodNamed B.named
  have hlk : meth.locks = false := B.notSynchronized
  have q1 := hts (.constantLong RX6 49 (9218868437227405312)) (by decide +kernel)
  have hl := lv_entry ([.long a0]) (n := 3) (Nat.le_of_ble_eq_true rfl)
  rw [lg_entry_eq]
  generalize (lg_sl ([.long a0]) ++ List.replicate (3 - (lg_sl ([.long a0])).length) Slot.unset).toArray = ls at hl ⊢
  have hl : lv_has ls 3 [(0, .long a0)] := hl
  unfold f_X6_unitOf at hf
  refine lv_lload_n hx hb dX6_unitOf_0 rfl (lv_at hl 0 rfl) ?_
  refine my_callPi (As := [.long a0]) (rest := []) ⟨hx, hb, hml, hown, hts⟩ (m_X6_exponentOf l a0 _ rfl) gX6_unitOf_X6_exponentOf rfl ⟨rfl, rfl⟩ (by decide +kernel) ⟨Nat.le_of_ble_eq_true rfl, Nat.le_of_ble_eq_true rfl⟩ ⟨Nat.le_of_ble_eq_true rfl, Nat.le_of_ble_eq_true rfl⟩ hl.1 rfl rfl (Nat.le_of_ble_eq_true rfl) dX6_unitOf_1 ?_
  refine lv_istore_n (lv' := [(2, .int (f_X6_exponentOf a0)), (0, .long a0)]) hx hb dX6_unitOf_4 rfl hl (by decide) rfl (fun ls hl => ?_)
  refine lv_lload_n hx hb dX6_unitOf_5 rfl (lv_at hl 1 rfl) ?_
  refine my_callPi (As := [.long a0]) (rest := []) ⟨hx, hb, hml, hown, hts⟩ (m_X6_isEnd l a0 _ rfl) gX6_unitOf_X6_isEnd rfl ⟨rfl, rfl⟩ (by decide +kernel) ⟨Nat.le_of_ble_eq_true rfl, Nat.le_of_ble_eq_true rfl⟩ ⟨Nat.le_of_ble_eq_true rfl, Nat.le_of_ble_eq_true rfl⟩ hl.1 rfl rfl (Nat.le_of_ble_eq_true rfl) dX6_unitOf_6 ?_
  refine my_bz_eq (x := (f_X6_isEnd a0)) (tgt := 18) hx hb dX6_unitOf_9 (by decide) (fun c1 => ?_) (fun c1 => ?_)
  · rw [if_pos c1] at hf
    refine lv_lconst (v := 1) hx hb dX6_unitOf_18 (by decide) ?_
    refine lv_iload_n hx hb dX6_unitOf_19 rfl (lv_at hl 0 rfl) ?_
    refine lv_sipush (v := (-1022)) hx hb dX6_unitOf_20 (by decide) ?_
    refine my_ic_ge (tgt := 32) hx hb dX6_unitOf_23 (by decide) (fun c2 => ?_) (fun c2 => ?_)
    · rw [if_neg c2] at hf
      refine lv_iload_n hx hb dX6_unitOf_32 rfl (lv_at hl 0 rfl) ?_
      refine lv_sipush (v := 1022) hx hb dX6_unitOf_33 (by decide) ?_
      refine lv_iadd hx hb dX6_unitOf_36 ?_
      obtain ⟨r3, er3, hf⟩ := ob_e hf
      refine my_callPl (As := [.long 1, .int ((f_X6_exponentOf a0) + 1022)]) (rest := []) ⟨hx, hb, hml, hown, hts⟩ (m_X6_made l 1 ((f_X6_exponentOf a0) + 1022) _ er3) gX6_unitOf_X6_made rfl ⟨rfl, rfl⟩ (by decide +kernel) ⟨Nat.le_of_ble_eq_true rfl, Nat.le_of_ble_eq_true rfl⟩ ⟨Nat.le_of_ble_eq_true rfl, Nat.le_of_ble_eq_true rfl⟩ hl.1 rfl rfl (Nat.le_of_ble_eq_true rfl) dX6_unitOf_37 ?_
      exact W.lret (v := r3) hx hb hr (fun t ht hW => ⟨_, rfl, Option.some.inj hf, ht⟩) (fun q hq => absurd hq List.not_mem_nil) dX6_unitOf_40
    · rw [if_pos c2] at hf
      refine lv_sipush (v := (-1022)) hx hb dX6_unitOf_26 (by decide) ?_
      refine lv_goto (tgt := 33) hx hb dX6_unitOf_29 (by decide) ?_
      refine lv_sipush (v := 1022) hx hb dX6_unitOf_33 (by decide) ?_
      refine lv_iadd hx hb dX6_unitOf_36 ?_
      obtain ⟨r4, er4, hf⟩ := ob_e hf
      refine my_callPl (As := [.long 1, .int ((-1022) + 1022)]) (rest := []) ⟨hx, hb, hml, hown, hts⟩ (m_X6_made l 1 ((-1022) + 1022) _ er4) gX6_unitOf_X6_made rfl ⟨rfl, rfl⟩ (by decide +kernel) ⟨Nat.le_of_ble_eq_true rfl, Nat.le_of_ble_eq_true rfl⟩ ⟨Nat.le_of_ble_eq_true rfl, Nat.le_of_ble_eq_true rfl⟩ hl.1 rfl rfl (Nat.le_of_ble_eq_true rfl) dX6_unitOf_37 ?_
      exact W.lret (v := r4) hx hb hr (fun t ht hW => ⟨_, rfl, Option.some.inj hf, ht⟩) (fun q hq => absurd hq List.not_mem_nil) dX6_unitOf_40
  · rw [if_neg c1] at hf
    refine lv_ldc2 (v := 9218868437227405312) hx hb hown q1 dX6_unitOf_12 ?_
    refine lv_goto (tgt := 40) hx hb dX6_unitOf_15 (by decide) ?_
    exact W.lret (v := 9218868437227405312) hx hb hr (fun t ht hW => ⟨_, rfl, Option.some.inj hf, ht⟩) (fun q hq => absurd hq List.not_mem_nil) dX6_unitOf_40

def f_X6_bitsOf (a0 : Int64) : Int64 := (if a0 < 0 then ((-9223372036854775808) - (f_X6_placeOf a0)) else a0)
abbrev rmX6_bitsOf : Room := { frames := 1, cells := 0, slots := 0, locals := 21 }
set_option maxHeartbeats 4000000 in
set_option maxRecDepth 100000 in
theorem m_X6_bitsOf (l : Launch) (a0 : Int64) (res : Int64) (hf : f_X6_bitsOf a0 = res) : Met l yX6_bitsOf wsX6_bitsOf rmX6_bitsOf (my_PcP [.long a0]) (vp_Sl (fun z => z = res)) 0 0 (fun _ => False) := by
  refine Met.ofW (cc := cX6_bitsOf) (maxL := 2) (ret := (some .long)) (by decide) rfl ?_
  intro p e s m args below meth c s₁ B hml hv
  obtain ⟨rfl, -⟩ := hv
  have hx := B.exec
  have hb := B.bytes
  have hr := B.returns
  have hts : ∀ w ∈ wsX6_bitsOf, w.before ([.long a0] : List Value).toArray s = true := atoms_spec (ws := wsX6_bitsOf) B.pre
  have hown : s.vm.findClass RX6 = some m.cls := findClass_of_methodNamed B.named
  have hlk : meth.locks = false := B.notSynchronized
  have q1 := hts (.constantLong RX6 104 (-9223372036854775808)) (by decide +kernel)
  have hl := lv_entry ([.long a0]) (n := 2) (Nat.le_of_ble_eq_true rfl)
  rw [lg_entry_eq]
  generalize (lg_sl ([.long a0]) ++ List.replicate (2 - (lg_sl ([.long a0])).length) Slot.unset).toArray = ls at hl ⊢
  have hl : lv_has ls 2 [(0, .long a0)] := hl
  unfold f_X6_bitsOf at hf
  refine lv_lload_n hx hb dX6_bitsOf_0 rfl (lv_at hl 0 rfl) ?_
  refine lv_lconst (v := 0) hx hb dX6_bitsOf_1 (by decide) ?_
  refine my_lc_lt (tgt := 10) hx hb dX6_bitsOf_2 dX6_bitsOf_3 (by decide) (fun c1 => ?_) (fun c1 => ?_)
  · rw [if_pos c1] at hf
    refine lv_ldc2 (v := (-9223372036854775808)) hx hb hown q1 dX6_bitsOf_10 ?_
    refine lv_lload_n hx hb dX6_bitsOf_13 rfl (lv_at hl 0 rfl) ?_
    refine my_callPl (As := [.long a0]) (rest := [.long (-9223372036854775808)]) ⟨hx, hb, hml, hown, hts⟩ (m_X6_placeOf l a0 _ rfl) gX6_bitsOf_X6_placeOf rfl ⟨rfl, rfl⟩ (by decide +kernel) ⟨Nat.le_of_ble_eq_true rfl, Nat.le_of_ble_eq_true rfl⟩ ⟨Nat.le_of_ble_eq_true rfl, Nat.le_of_ble_eq_true rfl⟩ hl.1 rfl rfl (Nat.le_of_ble_eq_true rfl) dX6_bitsOf_14 ?_
    refine lv_lsub hx hb dX6_bitsOf_17 ?_
    exact W.lret (v := ((-9223372036854775808) - (f_X6_placeOf a0))) hx hb hr (fun t ht hW => ⟨_, rfl, hf, ht⟩) (fun q hq => absurd hq List.not_mem_nil) dX6_bitsOf_18
  · rw [if_neg c1] at hf
    refine lv_lload_n hx hb dX6_bitsOf_6 rfl (lv_at hl 0 rfl) ?_
    refine lv_goto (tgt := 18) hx hb dX6_bitsOf_7 (by decide) ?_
    exact W.lret (v := a0) hx hb hr (fun t ht hW => ⟨_, rfl, hf, ht⟩) (fun q hq => absurd hq List.not_mem_nil) dX6_bitsOf_18

def f_X6_isLittle (a0 : Int64) : Bool := (if (f_X6_size a0) < 4503599627370496 then true else false)
abbrev rmX6_isLittle : Room := { frames := 1, cells := 0, slots := 0, locals := 21 }
set_option maxHeartbeats 4000000 in
set_option maxRecDepth 100000 in
theorem m_X6_isLittle (l : Launch) (a0 : Int64) (res : Bool) (hf : f_X6_isLittle a0 = res) : Met l yX6_isLittle wsX6_isLittle rmX6_isLittle (my_PcP [.long a0]) (vp_Si (fun z => z = b2i res)) 0 0 (fun _ => False) := by
  refine Met.ofW (cc := cX6_isLittle) (maxL := 2) (ret := (some .boolean)) (by decide) rfl ?_
  intro p e s m args below meth c s₁ B hml hv
  obtain ⟨rfl, -⟩ := hv
  have hx := B.exec
  have hb := B.bytes
  have hr := B.returns
  have hts : ∀ w ∈ wsX6_isLittle, w.before ([.long a0] : List Value).toArray s = true := atoms_spec (ws := wsX6_isLittle) B.pre
  have hown : s.vm.findClass RX6 = some m.cls := findClass_of_methodNamed B.named
  have hlk : meth.locks = false := B.notSynchronized
  have q1 := hts (.constantLong RX6 66 (4503599627370496)) (by decide +kernel)
  have hl := lv_entry ([.long a0]) (n := 2) (Nat.le_of_ble_eq_true rfl)
  rw [lg_entry_eq]
  generalize (lg_sl ([.long a0]) ++ List.replicate (2 - (lg_sl ([.long a0])).length) Slot.unset).toArray = ls at hl ⊢
  have hl : lv_has ls 2 [(0, .long a0)] := hl
  unfold f_X6_isLittle at hf
  refine lv_lload_n hx hb dX6_isLittle_0 rfl (lv_at hl 0 rfl) ?_
  refine my_callPl (As := [.long a0]) (rest := []) ⟨hx, hb, hml, hown, hts⟩ (m_X6_size l a0 _ rfl) gX6_isLittle_X6_size rfl ⟨rfl, rfl⟩ (by decide +kernel) ⟨Nat.le_of_ble_eq_true rfl, Nat.le_of_ble_eq_true rfl⟩ ⟨Nat.le_of_ble_eq_true rfl, Nat.le_of_ble_eq_true rfl⟩ hl.1 rfl rfl (Nat.le_of_ble_eq_true rfl) dX6_isLittle_1 ?_
  refine lv_ldc2 (v := 4503599627370496) hx hb hown q1 dX6_isLittle_4 ?_
  refine my_lc_ge (tgt := 15) hx hb dX6_isLittle_7 dX6_isLittle_8 (by decide) (fun c1 => ?_) (fun c1 => ?_)
  · rw [if_neg c1] at hf
    refine lv_iconst (v := 0) hx hb dX6_isLittle_15 (by decide) ?_
    exact W.zret (v := b2i false) (ty := .boolean) hx hb hr (b2i_nar _) (fun t ht hW => ⟨_, rfl, congrArg b2i (hf), ht⟩) (fun q hq => absurd hq List.not_mem_nil) dX6_isLittle_16
  · rw [if_pos c1] at hf
    refine lv_iconst (v := 1) hx hb dX6_isLittle_11 (by decide) ?_
    refine lv_goto (tgt := 16) hx hb dX6_isLittle_12 (by decide) ?_
    exact W.zret (v := b2i true) (ty := .boolean) hx hb hr (b2i_nar _) (fun t ht hW => ⟨_, rfl, congrArg b2i (hf), ht⟩) (fun q hq => absurd hq List.not_mem_nil) dX6_isLittle_16

def f_X6_rest_L20 (a0 : Int64) (a1 : Int32)   : Nat → Int32 → Int64 → Option (Int64)
  | 0, _, _ => none
  | n + 1, v20_5, v20_3 => (if 0 < v20_5 then (if (a1.toInt64) = 0 then none else (f_X6_rest_L20 a0 a1 n (v20_5 + (-1)) ((v20_3 + v20_3) - (v20_3 + v20_3) / (a1.toInt64) * (a1.toInt64)))) else some v20_3)
def f_X6_rest (a0 : Int64) (a1 : Int32) : Option (Int64) := (if (a1.toInt64) = 0 then none else (f_X6_rest_L20 a0 a1 100 (f_X6_shift (f_X6_size a0)) ((f_X6_whole (f_X6_size a0)) - (f_X6_whole (f_X6_size a0)) / (a1.toInt64) * (a1.toInt64))))
abbrev rmX6_rest : Room := { frames := 1, cells := 0, slots := 0, locals := 21 }
set_option maxHeartbeats 4000000 in
set_option maxRecDepth 100000 in
theorem m_X6_rest (l : Launch) (a0 : Int64) (a1 : Int32) (res : Int64) (hf : f_X6_rest a0 a1 = some res) : Met l yX6_rest wsX6_rest rmX6_rest (my_PcP [.long a0, .int a1]) (vp_Sl (fun z => z = res)) 0 0 (fun _ => False) := by
  refine Met.ofW (cc := cX6_rest) (maxL := 6) (ret := (some .long)) (by decide) rfl ?_
  intro p e s m args below meth c s₁ B hml hv
  obtain ⟨rfl, -⟩ := hv
  have hx := B.exec
  have hb := B.bytes
  have hr := B.returns
  have hts : ∀ w ∈ wsX6_rest, w.before ([.long a0, .int a1] : List Value).toArray s = true := atoms_spec (ws := wsX6_rest) B.pre
  have hown : s.vm.findClass RX6 = some m.cls := findClass_of_methodNamed B.named
  have hlk : meth.locks = false := B.notSynchronized
  have hl := lv_entry ([.long a0, .int a1]) (n := 6) (Nat.le_of_ble_eq_true rfl)
  rw [lg_entry_eq]
  generalize (lg_sl ([.long a0, .int a1]) ++ List.replicate (6 - (lg_sl ([.long a0, .int a1])).length) Slot.unset).toArray = ls at hl ⊢
  have hl : lv_has ls 6 [(0, .long a0), (2, .int a1)] := hl
  unfold f_X6_rest at hf
  refine lv_lload_n hx hb dX6_rest_0 rfl (lv_at hl 0 rfl) ?_
  refine my_callPl (As := [.long a0]) (rest := []) ⟨hx, hb, hml, hown, hts⟩ (m_X6_size l a0 _ rfl) gX6_rest_X6_size rfl ⟨rfl, rfl⟩ (by decide +kernel) ⟨Nat.le_of_ble_eq_true rfl, Nat.le_of_ble_eq_true rfl⟩ ⟨Nat.le_of_ble_eq_true rfl, Nat.le_of_ble_eq_true rfl⟩ hl.1 rfl rfl (Nat.le_of_ble_eq_true rfl) dX6_rest_1 ?_
  refine my_callPl (As := [.long (f_X6_size a0)]) (rest := []) ⟨hx, hb, hml, hown, hts⟩ (m_X6_whole l (f_X6_size a0) _ rfl) gX6_rest_X6_whole rfl ⟨rfl, rfl⟩ (by decide +kernel) ⟨Nat.le_of_ble_eq_true rfl, Nat.le_of_ble_eq_true rfl⟩ ⟨Nat.le_of_ble_eq_true rfl, Nat.le_of_ble_eq_true rfl⟩ hl.1 rfl rfl (Nat.le_of_ble_eq_true rfl) dX6_rest_4 ?_
  refine lv_iload_n hx hb dX6_rest_7 rfl (lv_at hl 1 rfl) ?_
  refine lv_i2l (v := (a1.toInt64)) hx hb dX6_rest_8 rfl ?_
  obtain ⟨g1, hf⟩ := og_e hf
  refine lv_lrem hx hb dX6_rest_9 g1 ?_
  refine lv_lstore_n (lv' := [(3, .long ((f_X6_whole (f_X6_size a0)) - (f_X6_whole (f_X6_size a0)) / (a1.toInt64) * (a1.toInt64))), (0, .long a0), (2, .int a1)]) hx hb dX6_rest_10 rfl hl (by decide) rfl (fun ls hl => ?_)
  refine lv_lload_n hx hb dX6_rest_11 rfl (lv_at hl 1 rfl) ?_
  refine my_callPl (As := [.long a0]) (rest := []) ⟨hx, hb, hml, hown, hts⟩ (m_X6_size l a0 _ rfl) gX6_rest_X6_size rfl ⟨rfl, rfl⟩ (by decide +kernel) ⟨Nat.le_of_ble_eq_true rfl, Nat.le_of_ble_eq_true rfl⟩ ⟨Nat.le_of_ble_eq_true rfl, Nat.le_of_ble_eq_true rfl⟩ hl.1 rfl rfl (Nat.le_of_ble_eq_true rfl) dX6_rest_12 ?_
  refine my_callPi (As := [.long (f_X6_size a0)]) (rest := []) ⟨hx, hb, hml, hown, hts⟩ (m_X6_shift l (f_X6_size a0) _ rfl) gX6_rest_X6_shift rfl ⟨rfl, rfl⟩ (by decide +kernel) ⟨Nat.le_of_ble_eq_true rfl, Nat.le_of_ble_eq_true rfl⟩ ⟨Nat.le_of_ble_eq_true rfl, Nat.le_of_ble_eq_true rfl⟩ hl.1 rfl rfl (Nat.le_of_ble_eq_true rfl) dX6_rest_15 ?_
  refine lv_istore (lv' := [(5, .int (f_X6_shift (f_X6_size a0))), (3, .long ((f_X6_whole (f_X6_size a0)) - (f_X6_whole (f_X6_size a0)) / (a1.toInt64) * (a1.toInt64))), (0, .long a0), (2, .int a1)]) hx hb dX6_rest_18 hl (by decide) rfl (fun ls hl => ?_)
  have loop20 : ∀ (n : Nat) (v20_5 : Int32) (v20_3 : Int64) (ls : Array Slot), lv_has ls 6 [(5, .int v20_5), (3, .long v20_3), (2, .int a1)] → f_X6_rest_L20 a0 a1 n v20_5 v20_3 = some res → W p l e (rmX6_rest) s m ([.long a0, .int a1] : List Value).toArray below meth c s.heap [] 0 0 (MQ below (vp_Sl (fun z => z = res)) ([.long a0, .int a1] : List Value).toArray s 0 0 (fun _ => False)) (F0 m 20 ls []) := by
    intro n
    induction n with
    | zero => intro v20_5 v20_3 ls hl hf; rw [f_X6_rest_L20] at hf; cases hf
    | succ n ih20 =>
      intro v20_5 v20_3 ls hl hf
      rw [f_X6_rest_L20] at hf
      refine lv_iload hx hb dX6_rest_20 (lv_at hl 0 rfl) ?_
      refine my_if_le (tgt := 38) hx hb dX6_rest_22 (by decide) (fun c2 => ?_) (fun c2 => ?_)
      · rw [if_neg c2] at hf
        refine lv_lload_n hx hb dX6_rest_38 rfl (lv_at hl 1 rfl) ?_
        exact W.lret (v := v20_3) hx hb hr (fun t ht hW => ⟨_, rfl, Option.some.inj hf, ht⟩) (fun q hq => absurd hq List.not_mem_nil) dX6_rest_39
      · rw [if_pos c2] at hf
        refine lv_lload_n hx hb dX6_rest_25 rfl (lv_at hl 1 rfl) ?_
        refine lv_lload_n hx hb dX6_rest_26 rfl (lv_at hl 1 rfl) ?_
        refine lv_ladd hx hb dX6_rest_27 ?_
        refine lv_iload_n hx hb dX6_rest_28 rfl (lv_at hl 2 rfl) ?_
        refine lv_i2l (v := (a1.toInt64)) hx hb dX6_rest_29 rfl ?_
        obtain ⟨g3, hf⟩ := og_e hf
        refine lv_lrem hx hb dX6_rest_30 g3 ?_
        refine lv_lstore_n (lv' := [(3, .long ((v20_3 + v20_3) - (v20_3 + v20_3) / (a1.toInt64) * (a1.toInt64))), (5, .int v20_5), (2, .int a1)]) hx hb dX6_rest_31 rfl hl (by decide) rfl (fun ls hl => ?_)
        refine lv_iinc (v := (v20_5 + (-1))) (lv' := [(5, .int (v20_5 + (-1))), (3, .long ((v20_3 + v20_3) - (v20_3 + v20_3) / (a1.toInt64) * (a1.toInt64))), (2, .int a1)]) hx hb dX6_rest_32 hl (k := 1) rfl rfl (by decide) rfl (fun ls hl => ?_)
        refine lv_goto (tgt := 20) hx hb dX6_rest_35 (by decide) ?_
        exact ih20 (v20_5 + (-1)) ((v20_3 + v20_3) - (v20_3 + v20_3) / (a1.toInt64) * (a1.toInt64)) _ (lv_sub hl [0, 1, 2] rfl) hf
  exact loop20 100 (f_X6_shift (f_X6_size a0)) ((f_X6_whole (f_X6_size a0)) - (f_X6_whole (f_X6_size a0)) / (a1.toInt64) * (a1.toInt64)) _ (lv_sub hl [0, 1, 3] rfl) hf

def f_X6_restOf (a0 : Int64) (a1 : Int32) : Option (Int64) := (if a0 < 0 then ((f_X6_rest a0 a1).bind fun r2 => (if (a1.toInt64) = 0 then none else some (((a1.toInt64) - r2) - ((a1.toInt64) - r2) / (a1.toInt64) * (a1.toInt64)))) else ((f_X6_rest a0 a1).bind fun r4 => some r4))
abbrev rmX6_restOf : Room := { frames := 2, cells := 0, slots := 0, locals := 46 }
set_option maxHeartbeats 4000000 in
set_option maxRecDepth 100000 in
theorem m_X6_restOf (l : Launch) (a0 : Int64) (a1 : Int32) (res : Int64) (hf : f_X6_restOf a0 a1 = some res) : Met l yX6_restOf wsX6_restOf rmX6_restOf (my_PcP [.long a0, .int a1]) (vp_Sl (fun z => z = res)) 0 0 (fun _ => False) := by
  refine Met.ofW (cc := cX6_restOf) (maxL := 3) (ret := (some .long)) (by decide) rfl ?_
  intro p e s m args below meth c s₁ B hml hv
  obtain ⟨rfl, -⟩ := hv
  have hx := B.exec
  have hb := B.bytes
  have hr := B.returns
  have hts : ∀ w ∈ wsX6_restOf, w.before ([.long a0, .int a1] : List Value).toArray s = true := atoms_spec (ws := wsX6_restOf) B.pre
  have hown : s.vm.findClass RX6 = some m.cls := findClass_of_methodNamed B.named
  have hlk : meth.locks = false := B.notSynchronized
  have hl := lv_entry ([.long a0, .int a1]) (n := 3) (Nat.le_of_ble_eq_true rfl)
  rw [lg_entry_eq]
  generalize (lg_sl ([.long a0, .int a1]) ++ List.replicate (3 - (lg_sl ([.long a0, .int a1])).length) Slot.unset).toArray = ls at hl ⊢
  have hl : lv_has ls 3 [(0, .long a0), (2, .int a1)] := hl
  unfold f_X6_restOf at hf
  refine lv_lload_n hx hb dX6_restOf_0 rfl (lv_at hl 0 rfl) ?_
  refine lv_lconst (v := 0) hx hb dX6_restOf_1 (by decide) ?_
  refine my_lc_lt (tgt := 14) hx hb dX6_restOf_2 dX6_restOf_3 (by decide) (fun c1 => ?_) (fun c1 => ?_)
  · rw [if_pos c1] at hf
    refine lv_iload_n hx hb dX6_restOf_14 rfl (lv_at hl 1 rfl) ?_
    refine lv_i2l (v := (a1.toInt64)) hx hb dX6_restOf_15 rfl ?_
    refine lv_lload_n hx hb dX6_restOf_16 rfl (lv_at hl 0 rfl) ?_
    refine lv_iload_n hx hb dX6_restOf_17 rfl (lv_at hl 1 rfl) ?_
    obtain ⟨r2, er2, hf⟩ := ob_e hf
    refine my_callPl (As := [.long a0, .int a1]) (rest := [.long (a1.toInt64)]) ⟨hx, hb, hml, hown, hts⟩ (m_X6_rest l a0 a1 _ er2) gX6_restOf_X6_rest rfl ⟨rfl, rfl⟩ (by decide +kernel) ⟨Nat.le_of_ble_eq_true rfl, Nat.le_of_ble_eq_true rfl⟩ ⟨Nat.le_of_ble_eq_true rfl, Nat.le_of_ble_eq_true rfl⟩ hl.1 rfl rfl (Nat.le_of_ble_eq_true rfl) dX6_restOf_18 ?_
    refine lv_lsub hx hb dX6_restOf_21 ?_
    refine lv_iload_n hx hb dX6_restOf_22 rfl (lv_at hl 1 rfl) ?_
    refine lv_i2l (v := (a1.toInt64)) hx hb dX6_restOf_23 rfl ?_
    obtain ⟨g3, hf⟩ := og_e hf
    refine lv_lrem hx hb dX6_restOf_24 g3 ?_
    exact W.lret (v := (((a1.toInt64) - r2) - ((a1.toInt64) - r2) / (a1.toInt64) * (a1.toInt64))) hx hb hr (fun t ht hW => ⟨_, rfl, Option.some.inj hf, ht⟩) (fun q hq => absurd hq List.not_mem_nil) dX6_restOf_25
  · rw [if_neg c1] at hf
    refine lv_lload_n hx hb dX6_restOf_6 rfl (lv_at hl 0 rfl) ?_
    refine lv_iload_n hx hb dX6_restOf_7 rfl (lv_at hl 1 rfl) ?_
    obtain ⟨r4, er4, hf⟩ := ob_e hf
    refine my_callPl (As := [.long a0, .int a1]) (rest := []) ⟨hx, hb, hml, hown, hts⟩ (m_X6_rest l a0 a1 _ er4) gX6_restOf_X6_rest rfl ⟨rfl, rfl⟩ (by decide +kernel) ⟨Nat.le_of_ble_eq_true rfl, Nat.le_of_ble_eq_true rfl⟩ ⟨Nat.le_of_ble_eq_true rfl, Nat.le_of_ble_eq_true rfl⟩ hl.1 rfl rfl (Nat.le_of_ble_eq_true rfl) dX6_restOf_8 ?_
    refine lv_goto (tgt := 25) hx hb dX6_restOf_11 (by decide) ?_
    exact W.lret (v := r4) hx hb hr (fun t ht hW => ⟨_, rfl, Option.some.inj hf, ht⟩) (fun q hq => absurd hq List.not_mem_nil) dX6_restOf_25

def f_X6_isWord (a0 : Int32) (a1 : Int32) : Bool := (if a0 = 110 then (if a1 = 0 then true else false) else (if a0 = 120 then (f_X6_in a1 (-40) 40) else (if a0 = 117 then (if (f_X6_in a1 0 15) = false then false else true) else (if a0 = 100 then (if (f_X6_in a1 0 15) = false then false else true) else false))))
abbrev rmX6_isWord : Room := { frames := 1, cells := 0, slots := 0, locals := 22 }
set_option maxHeartbeats 4000000 in
set_option maxRecDepth 100000 in
theorem m_X6_isWord (l : Launch) (a0 : Int32) (a1 : Int32) (res : Bool) (hf : f_X6_isWord a0 a1 = res) : Met l yX6_isWord wsX6_isWord rmX6_isWord (my_PcP [.int a0, .int a1]) (vp_Si (fun z => z = b2i res)) 0 0 (fun _ => False) := by
  refine Met.ofW (cc := cX6_isWord) (maxL := 2) (ret := (some .boolean)) (by decide) rfl ?_
  intro p e s m args below meth c s₁ B hml hv
  obtain ⟨rfl, -⟩ := hv
  have hx := B.exec
  have hb := B.bytes
  have hr := B.returns
  have hts : ∀ w ∈ wsX6_isWord, w.before ([.int a0, .int a1] : List Value).toArray s = true := atoms_spec (ws := wsX6_isWord) B.pre
  have hown : s.vm.findClass RX6 = some m.cls := findClass_of_methodNamed B.named
  have hlk : meth.locks = false := B.notSynchronized
  have hl := lv_entry ([.int a0, .int a1]) (n := 2) (Nat.le_of_ble_eq_true rfl)
  rw [lg_entry_eq]
  generalize (lg_sl ([.int a0, .int a1]) ++ List.replicate (2 - (lg_sl ([.int a0, .int a1])).length) Slot.unset).toArray = ls at hl ⊢
  have hl : lv_has ls 2 [(0, .int a0), (1, .int a1)] := hl
  unfold f_X6_isWord at hf
  refine lv_iload_n hx hb dX6_isWord_0 rfl (lv_at hl 0 rfl) ?_
  refine lv_bipush (v := 110) hx hb dX6_isWord_1 (by decide) ?_
  refine my_ic_ne (tgt := 18) hx hb dX6_isWord_3 (by decide) (fun c1 => ?_) (fun c1 => ?_)
  · rw [if_neg c1] at hf
    refine lv_iload_n hx hb dX6_isWord_18 rfl (lv_at hl 0 rfl) ?_
    refine lv_bipush (v := 120) hx hb dX6_isWord_19 (by decide) ?_
    refine my_ic_ne (tgt := 35) hx hb dX6_isWord_21 (by decide) (fun c2 => ?_) (fun c2 => ?_)
    · rw [if_neg c2] at hf
      refine lv_iload_n hx hb dX6_isWord_35 rfl (lv_at hl 0 rfl) ?_
      refine lv_bipush (v := 117) hx hb dX6_isWord_36 (by decide) ?_
      refine my_ic_eq (tgt := 47) hx hb dX6_isWord_38 (by decide) (fun c3 => ?_) (fun c3 => ?_)
      · rw [if_pos c3] at hf
        refine lv_iload_n hx hb dX6_isWord_47 rfl (lv_at hl 1 rfl) ?_
        refine lv_iconst (v := 0) hx hb dX6_isWord_48 (by decide) ?_
        refine lv_bipush (v := 15) hx hb dX6_isWord_49 (by decide) ?_
        refine my_callPi (As := [.int a1, .int 0, .int 15]) (rest := []) ⟨hx, hb, hml, hown, hts⟩ (m_X6_in l a1 0 15 _ rfl) gX6_isWord_X6_in rfl ⟨rfl, rfl⟩ (by decide +kernel) ⟨Nat.le_of_ble_eq_true rfl, Nat.le_of_ble_eq_true rfl⟩ ⟨Nat.le_of_ble_eq_true rfl, Nat.le_of_ble_eq_true rfl⟩ hl.1 rfl rfl (Nat.le_of_ble_eq_true rfl) dX6_isWord_51 ?_
        refine my_bz_eq (x := (f_X6_in a1 0 15)) (tgt := 61) hx hb dX6_isWord_54 (by decide) (fun c4 => ?_) (fun c4 => ?_)
        · rw [if_pos c4] at hf
          refine lv_iconst (v := 0) hx hb dX6_isWord_61 (by decide) ?_
          exact W.zret (v := b2i false) (ty := .boolean) hx hb hr (b2i_nar _) (fun t ht hW => ⟨_, rfl, congrArg b2i (hf), ht⟩) (fun q hq => absurd hq List.not_mem_nil) dX6_isWord_62
        · rw [if_neg c4] at hf
          refine lv_iconst (v := 1) hx hb dX6_isWord_57 (by decide) ?_
          refine lv_goto (tgt := 62) hx hb dX6_isWord_58 (by decide) ?_
          exact W.zret (v := b2i true) (ty := .boolean) hx hb hr (b2i_nar _) (fun t ht hW => ⟨_, rfl, congrArg b2i (hf), ht⟩) (fun q hq => absurd hq List.not_mem_nil) dX6_isWord_62
      · rw [if_neg c3] at hf
        refine lv_iload_n hx hb dX6_isWord_41 rfl (lv_at hl 0 rfl) ?_
        refine lv_bipush (v := 100) hx hb dX6_isWord_42 (by decide) ?_
        refine my_ic_ne (tgt := 61) hx hb dX6_isWord_44 (by decide) (fun c5 => ?_) (fun c5 => ?_)
        · rw [if_neg c5] at hf
          refine lv_iconst (v := 0) hx hb dX6_isWord_61 (by decide) ?_
          exact W.zret (v := b2i false) (ty := .boolean) hx hb hr (b2i_nar _) (fun t ht hW => ⟨_, rfl, congrArg b2i (hf), ht⟩) (fun q hq => absurd hq List.not_mem_nil) dX6_isWord_62
        · rw [if_pos c5] at hf
          refine lv_iload_n hx hb dX6_isWord_47 rfl (lv_at hl 1 rfl) ?_
          refine lv_iconst (v := 0) hx hb dX6_isWord_48 (by decide) ?_
          refine lv_bipush (v := 15) hx hb dX6_isWord_49 (by decide) ?_
          refine my_callPi (As := [.int a1, .int 0, .int 15]) (rest := []) ⟨hx, hb, hml, hown, hts⟩ (m_X6_in l a1 0 15 _ rfl) gX6_isWord_X6_in rfl ⟨rfl, rfl⟩ (by decide +kernel) ⟨Nat.le_of_ble_eq_true rfl, Nat.le_of_ble_eq_true rfl⟩ ⟨Nat.le_of_ble_eq_true rfl, Nat.le_of_ble_eq_true rfl⟩ hl.1 rfl rfl (Nat.le_of_ble_eq_true rfl) dX6_isWord_51 ?_
          refine my_bz_eq (x := (f_X6_in a1 0 15)) (tgt := 61) hx hb dX6_isWord_54 (by decide) (fun c6 => ?_) (fun c6 => ?_)
          · rw [if_pos c6] at hf
            refine lv_iconst (v := 0) hx hb dX6_isWord_61 (by decide) ?_
            exact W.zret (v := b2i false) (ty := .boolean) hx hb hr (b2i_nar _) (fun t ht hW => ⟨_, rfl, congrArg b2i (hf), ht⟩) (fun q hq => absurd hq List.not_mem_nil) dX6_isWord_62
          · rw [if_neg c6] at hf
            refine lv_iconst (v := 1) hx hb dX6_isWord_57 (by decide) ?_
            refine lv_goto (tgt := 62) hx hb dX6_isWord_58 (by decide) ?_
            exact W.zret (v := b2i true) (ty := .boolean) hx hb hr (b2i_nar _) (fun t ht hW => ⟨_, rfl, congrArg b2i (hf), ht⟩) (fun q hq => absurd hq List.not_mem_nil) dX6_isWord_62
    · rw [if_pos c2] at hf
      refine lv_iload_n hx hb dX6_isWord_24 rfl (lv_at hl 1 rfl) ?_
      refine lv_bipush (v := (-40)) hx hb dX6_isWord_25 (by decide) ?_
      refine lv_bipush (v := 40) hx hb dX6_isWord_27 (by decide) ?_
      refine my_callPi (As := [.int a1, .int (-40), .int 40]) (rest := []) ⟨hx, hb, hml, hown, hts⟩ (m_X6_in l a1 (-40) 40 _ rfl) gX6_isWord_X6_in rfl ⟨rfl, rfl⟩ (by decide +kernel) ⟨Nat.le_of_ble_eq_true rfl, Nat.le_of_ble_eq_true rfl⟩ ⟨Nat.le_of_ble_eq_true rfl, Nat.le_of_ble_eq_true rfl⟩ hl.1 rfl rfl (Nat.le_of_ble_eq_true rfl) dX6_isWord_29 ?_
      refine lv_goto (tgt := 62) hx hb dX6_isWord_32 (by decide) ?_
      exact W.zret (v := b2i (f_X6_in a1 (-40) 40)) (ty := .boolean) hx hb hr (b2i_nar _) (fun t ht hW => ⟨_, rfl, congrArg b2i (hf), ht⟩) (fun q hq => absurd hq List.not_mem_nil) dX6_isWord_62
  · rw [if_pos c1] at hf
    refine lv_iload_n hx hb dX6_isWord_6 rfl (lv_at hl 1 rfl) ?_
    refine my_if_ne (tgt := 14) hx hb dX6_isWord_7 (by decide) (fun c7 => ?_) (fun c7 => ?_)
    · rw [if_neg c7] at hf
      refine lv_iconst (v := 0) hx hb dX6_isWord_14 (by decide) ?_
      refine lv_goto (tgt := 62) hx hb dX6_isWord_15 (by decide) ?_
      exact W.zret (v := b2i false) (ty := .boolean) hx hb hr (b2i_nar _) (fun t ht hW => ⟨_, rfl, congrArg b2i (hf), ht⟩) (fun q hq => absurd hq List.not_mem_nil) dX6_isWord_62
    · rw [if_pos c7] at hf
      refine lv_iconst (v := 1) hx hb dX6_isWord_10 (by decide) ?_
      refine lv_goto (tgt := 62) hx hb dX6_isWord_11 (by decide) ?_
      exact W.zret (v := b2i true) (ty := .boolean) hx hb hr (b2i_nar _) (fun t ht hW => ⟨_, rfl, congrArg b2i (hf), ht⟩) (fun q hq => absurd hq List.not_mem_nil) dX6_isWord_62
