set_option maxHeartbeats 4000000 in
set_option maxRecDepth 100000 in
theorem m_X6_in (l : Launch) (a0 : Int32) (a1 : Int32) (a2 : Int32) (res : Bool) (hf : f_X6_in a0 a1 a2 = res) : Met l yX6_in wsX6_in rmX6_in (my_PcP [.int a0, .int a1, .int a2]) (vp_Si (fun z => z = b2i res)) 0 0 (fun _ => False) := by
  refine Met.ofW (cc := cX6_in) (maxL := 3) (ret := (some .boolean)) (by decide) rfl ?_
  intro p e s m args below meth c s₁ B hml hv
  obtain ⟨rfl, -⟩ := hv
  have hx := B.exec
  have hb := B.bytes
  have hr := B.returns
  have hts : ∀ w ∈ wsX6_in, w.before ([.int a0, .int a1, .int a2] : List Value).toArray s = true := atoms_spec (ws := wsX6_in) B.pre
  have hown : s.vm.findClass RX6 = some m.cls := findClass_of_methodNamed B.named
  have hlk : meth.locks = false := B.notSynchronized
  have hl := lv_entry ([.int a0, .int a1, .int a2]) (n := 3) (Nat.le_of_ble_eq_true rfl)
  rw [lg_entry_eq]
  generalize (lg_sl ([.int a0, .int a1, .int a2]) ++ List.replicate (3 - (lg_sl ([.int a0, .int a1, .int a2])).length) Slot.unset).toArray = ls at hl ⊢
  have hl : lv_has ls 3 [(0, .int a0), (1, .int a1), (2, .int a2)] := hl
  unfold f_X6_in at hf
  refine lv_iload_n hx hb dX6_in_0 rfl (lv_at hl 0 rfl) ?_
  refine lv_iload_n hx hb dX6_in_1 rfl (lv_at hl 1 rfl) ?_
  refine my_ic_lt (tgt := 14) hx hb dX6_in_2 (by decide) (fun c1 => ?_) (fun c1 => ?_)
  · rw [if_pos c1] at hf
    refine lv_iconst (v := 0) hx hb dX6_in_14 (by decide) ?_
    exact W.zret (v := b2i false) (ty := .boolean) hx hb hr (b2i_nar _) (fun t ht hW => ⟨_, rfl, congrArg b2i (hf), ht⟩) (fun q hq => absurd hq List.not_mem_nil) dX6_in_15
  · rw [if_neg c1] at hf
    refine lv_iload_n hx hb dX6_in_5 rfl (lv_at hl 0 rfl) ?_
    refine lv_iload_n hx hb dX6_in_6 rfl (lv_at hl 2 rfl) ?_
    refine my_ic_gt (tgt := 14) hx hb dX6_in_7 (by decide) (fun c2 => ?_) (fun c2 => ?_)
    · rw [if_pos c2] at hf
      refine lv_iconst (v := 0) hx hb dX6_in_14 (by decide) ?_
      exact W.zret (v := b2i false) (ty := .boolean) hx hb hr (b2i_nar _) (fun t ht hW => ⟨_, rfl, congrArg b2i (hf), ht⟩) (fun q hq => absurd hq List.not_mem_nil) dX6_in_15
    · rw [if_neg c2] at hf
      refine lv_iconst (v := 1) hx hb dX6_in_10 (by decide) ?_
      refine lv_goto (tgt := 15) hx hb dX6_in_11 (by decide) ?_
      exact W.zret (v := b2i true) (ty := .boolean) hx hb hr (b2i_nar _) (fun t ht hW => ⟨_, rfl, congrArg b2i (hf), ht⟩) (fun q hq => absurd hq List.not_mem_nil) dX6_in_15

set_option maxHeartbeats 4000000 in
set_option maxRecDepth 100000 in
theorem m_X6_isSlot (l : Launch) (a0 : Int32) (res : Bool) (hf : f_X6_isSlot a0 = res) : Met l yX6_isSlot wsX6_isSlot rmX6_isSlot (my_PcP [.int a0]) (vp_Si (fun z => z = b2i res)) 0 0 (fun _ => False) := by
  refine Met.ofW (cc := cX6_isSlot) (maxL := 1) (ret := (some .boolean)) (by decide) rfl ?_
  intro p e s m args below meth c s₁ B hml hv
  obtain ⟨rfl, -⟩ := hv
  have hx := B.exec
  have hb := B.bytes
  have hr := B.returns
  have hts : ∀ w ∈ wsX6_isSlot, w.before ([.int a0] : List Value).toArray s = true := atoms_spec (ws := wsX6_isSlot) B.pre
  have hown : s.vm.findClass RX6 = some m.cls := findClass_of_methodNamed B.named
  have hlk : meth.locks = false := B.notSynchronized
  have hl := lv_entry ([.int a0]) (n := 1) (Nat.le_of_ble_eq_true rfl)
  rw [lg_entry_eq]
  generalize (lg_sl ([.int a0]) ++ List.replicate (1 - (lg_sl ([.int a0])).length) Slot.unset).toArray = ls at hl ⊢
  have hl : lv_has ls 1 [(0, .int a0)] := hl
  unfold f_X6_isSlot at hf
  refine lv_iload_n hx hb dX6_isSlot_0 rfl (lv_at hl 0 rfl) ?_
  refine lv_iconst (v := 0) hx hb dX6_isSlot_1 (by decide) ?_
  refine lv_bipush (v := 7) hx hb dX6_isSlot_2 (by decide) ?_
  refine my_callPi (As := [.int a0, .int 0, .int 7]) (n := 3) (rest := []) ⟨hx, hb, hml, hown, hts⟩ (m_X6_in l a0 0 7 _ rfl) gX6_isSlot_X6_in rfl ⟨rfl, rfl⟩ (by decide +kernel) ⟨Nat.le_of_ble_eq_true rfl, Nat.le_of_ble_eq_true rfl⟩ ⟨Nat.le_of_ble_eq_true rfl, Nat.le_of_ble_eq_true rfl⟩ hl.1 rfl rfl (Nat.le_of_ble_eq_true rfl) dX6_isSlot_4 ?_
  exact W.zret (v := b2i (f_X6_in a0 0 7)) (ty := .boolean) hx hb hr (b2i_nar _) (fun t ht hW => ⟨_, rfl, congrArg b2i (hf), ht⟩) (fun q hq => absurd hq List.not_mem_nil) dX6_isSlot_7

set_option maxHeartbeats 4000000 in
set_option maxRecDepth 100000 in
theorem m_X6_size (l : Launch) (a0 : Int64) (res : Int64) (hf : f_X6_size a0 = res) : Met l yX6_size wsX6_size rmX6_size (my_PcP [.long a0]) (vp_Sl (fun z => z = res)) 0 0 (fun _ => False) := by
  refine Met.ofW (cc := cX6_size) (maxL := 2) (ret := (some .long)) (by decide) rfl ?_
  intro p e s m args below meth c s₁ B hml hv
  obtain ⟨rfl, -⟩ := hv
  have hx := B.exec
  have hb := B.bytes
  have hr := B.returns
  have hts : ∀ w ∈ wsX6_size, w.before ([.long a0] : List Value).toArray s = true := atoms_spec (ws := wsX6_size) B.pre
  have hown : s.vm.findClass RX6 = some m.cls := findClass_of_methodNamed B.named
  have hlk : meth.locks = false := B.notSynchronized
  have q1 := hts (.constantLong RX6 43 (-1)) (by decide +kernel)
  have hl := lv_entry ([.long a0]) (n := 2) (Nat.le_of_ble_eq_true rfl)
  rw [lg_entry_eq]
  generalize (lg_sl ([.long a0]) ++ List.replicate (2 - (lg_sl ([.long a0])).length) Slot.unset).toArray = ls at hl ⊢
  have hl : lv_has ls 2 [(0, .long a0)] := hl
  unfold f_X6_size at hf
  refine lv_lload_n hx hb dX6_size_0 rfl (lv_at hl 0 rfl) ?_
  refine lv_lconst (v := 0) hx hb dX6_size_1 (by decide) ?_
  refine my_lc_lt (tgt := 10) hx hb dX6_size_2 dX6_size_3 (by decide) (fun c1 => ?_) (fun c1 => ?_)
  · rw [if_pos c1] at hf
    refine lv_ldc2 (v := (-1)) hx hb hown q1 dX6_size_10 ?_
    refine lv_lload_n hx hb dX6_size_13 rfl (lv_at hl 0 rfl) ?_
    refine lv_lsub hx hb dX6_size_14 ?_
    exact W.lret (v := ((-1) - a0)) hx hb hr (fun t ht hW => ⟨_, rfl, hf, ht⟩) (fun q hq => absurd hq List.not_mem_nil) dX6_size_15
  · rw [if_neg c1] at hf
    refine lv_lload_n hx hb dX6_size_6 rfl (lv_at hl 0 rfl) ?_
    refine lv_goto (tgt := 15) hx hb dX6_size_7 (by decide) ?_
    exact W.lret (v := a0) hx hb hr (fun t ht hW => ⟨_, rfl, hf, ht⟩) (fun q hq => absurd hq List.not_mem_nil) dX6_size_15

set_option maxHeartbeats 4000000 in
set_option maxRecDepth 100000 in
theorem m_X6_placeOf (l : Launch) (a0 : Int64) (res : Int64) (hf : f_X6_placeOf a0 = res) : Met l yX6_placeOf wsX6_placeOf rmX6_placeOf (my_PcP [.long a0]) (vp_Sl (fun z => z = res)) 0 0 (fun _ => False) := by
  refine Met.ofW (cc := cX6_placeOf) (maxL := 2) (ret := (some .long)) (by decide) rfl ?_
  intro p e s m args below meth c s₁ B hml hv
  obtain ⟨rfl, -⟩ := hv
  have hx := B.exec
  have hb := B.bytes
  have hr := B.returns
  have hts : ∀ w ∈ wsX6_placeOf, w.before ([.long a0] : List Value).toArray s = true := atoms_spec (ws := wsX6_placeOf) B.pre
  have hown : s.vm.findClass RX6 = some m.cls := findClass_of_methodNamed B.named
  have hlk : meth.locks = false := B.notSynchronized
  have hl := lv_entry ([.long a0]) (n := 2) (Nat.le_of_ble_eq_true rfl)
  rw [lg_entry_eq]
  generalize (lg_sl ([.long a0]) ++ List.replicate (2 - (lg_sl ([.long a0])).length) Slot.unset).toArray = ls at hl ⊢
  have hl : lv_has ls 2 [(0, .long a0)] := hl
  unfold f_X6_placeOf at hf
  refine lv_lload_n hx hb dX6_placeOf_0 rfl (lv_at hl 0 rfl) ?_
  refine lv_lconst (v := 0) hx hb dX6_placeOf_1 (by decide) ?_
  refine my_lc_lt (tgt := 10) hx hb dX6_placeOf_2 dX6_placeOf_3 (by decide) (fun c1 => ?_) (fun c1 => ?_)
  · rw [if_pos c1] at hf
    refine lv_lload_n hx hb dX6_placeOf_10 rfl (lv_at hl 0 rfl) ?_
    refine lv_lconst (v := 1) hx hb dX6_placeOf_11 (by decide) ?_
    refine lv_ladd hx hb dX6_placeOf_12 ?_
    exact W.lret (v := (a0 + 1)) hx hb hr (fun t ht hW => ⟨_, rfl, hf, ht⟩) (fun q hq => absurd hq List.not_mem_nil) dX6_placeOf_13
  · rw [if_neg c1] at hf
    refine lv_lload_n hx hb dX6_placeOf_6 rfl (lv_at hl 0 rfl) ?_
    refine lv_goto (tgt := 13) hx hb dX6_placeOf_7 (by decide) ?_
    exact W.lret (v := a0) hx hb hr (fun t ht hW => ⟨_, rfl, hf, ht⟩) (fun q hq => absurd hq List.not_mem_nil) dX6_placeOf_13

set_option maxHeartbeats 4000000 in
set_option maxRecDepth 100000 in
theorem m_X6_codeOf (l : Launch) (a0 : Int64) (res : Int64) (hf : f_X6_codeOf a0 = res) : Met l yX6_codeOf wsX6_codeOf rmX6_codeOf (my_PcP [.long a0]) (vp_Sl (fun z => z = res)) 0 0 (fun _ => False) := by
  refine Met.ofW (cc := cX6_codeOf) (maxL := 2) (ret := (some .long)) (by decide) rfl ?_
  intro p e s m args below meth c s₁ B hml hv
  obtain ⟨rfl, -⟩ := hv
  have hx := B.exec
  have hb := B.bytes
  have hr := B.returns
  have hts : ∀ w ∈ wsX6_codeOf, w.before ([.long a0] : List Value).toArray s = true := atoms_spec (ws := wsX6_codeOf) B.pre
  have hown : s.vm.findClass RX6 = some m.cls := findClass_of_methodNamed B.named
  have hlk : meth.locks = false := B.notSynchronized
  have hl := lv_entry ([.long a0]) (n := 2) (Nat.le_of_ble_eq_true rfl)
  rw [lg_entry_eq]
  generalize (lg_sl ([.long a0]) ++ List.replicate (2 - (lg_sl ([.long a0])).length) Slot.unset).toArray = ls at hl ⊢
  have hl : lv_has ls 2 [(0, .long a0)] := hl
  unfold f_X6_codeOf at hf
  refine lv_lload_n hx hb dX6_codeOf_0 rfl (lv_at hl 0 rfl) ?_
  refine lv_lconst (v := 0) hx hb dX6_codeOf_1 (by decide) ?_
  refine my_lc_lt (tgt := 10) hx hb dX6_codeOf_2 dX6_codeOf_3 (by decide) (fun c1 => ?_) (fun c1 => ?_)
  · rw [if_pos c1] at hf
    refine lv_lload_n hx hb dX6_codeOf_10 rfl (lv_at hl 0 rfl) ?_
    refine lv_lconst (v := 1) hx hb dX6_codeOf_11 (by decide) ?_
    refine lv_lsub hx hb dX6_codeOf_12 ?_
    exact W.lret (v := (a0 - 1)) hx hb hr (fun t ht hW => ⟨_, rfl, hf, ht⟩) (fun q hq => absurd hq List.not_mem_nil) dX6_codeOf_13
  · rw [if_neg c1] at hf
    refine lv_lload_n hx hb dX6_codeOf_6 rfl (lv_at hl 0 rfl) ?_
    refine lv_goto (tgt := 13) hx hb dX6_codeOf_7 (by decide) ?_
    exact W.lret (v := a0) hx hb hr (fun t ht hW => ⟨_, rfl, hf, ht⟩) (fun q hq => absurd hq List.not_mem_nil) dX6_codeOf_13

set_option maxHeartbeats 4000000 in
set_option maxRecDepth 100000 in
theorem m_X6_opposite (l : Launch) (a0 : Int64) (res : Int64) (hf : f_X6_opposite a0 = res) : Met l yX6_opposite wsX6_opposite rmX6_opposite (my_PcP [.long a0]) (vp_Sl (fun z => z = res)) 0 0 (fun _ => False) := by
  refine Met.ofW (cc := cX6_opposite) (maxL := 2) (ret := (some .long)) (by decide) rfl ?_
  intro p e s m args below meth c s₁ B hml hv
  obtain ⟨rfl, -⟩ := hv
  have hx := B.exec
  have hb := B.bytes
  have hr := B.returns
  have hts : ∀ w ∈ wsX6_opposite, w.before ([.long a0] : List Value).toArray s = true := atoms_spec (ws := wsX6_opposite) B.pre
  have hown : s.vm.findClass RX6 = some m.cls := findClass_of_methodNamed B.named
  have hlk : meth.locks = false := B.notSynchronized
  have q1 := hts (.constantLong RX6 43 (-1)) (by decide +kernel)
  have hl := lv_entry ([.long a0]) (n := 2) (Nat.le_of_ble_eq_true rfl)
  rw [lg_entry_eq]
  generalize (lg_sl ([.long a0]) ++ List.replicate (2 - (lg_sl ([.long a0])).length) Slot.unset).toArray = ls at hl ⊢
  have hl : lv_has ls 2 [(0, .long a0)] := hl
  unfold f_X6_opposite at hf
  refine lv_ldc2 (v := (-1)) hx hb hown q1 dX6_opposite_0 ?_
  refine lv_lload_n hx hb dX6_opposite_3 rfl (lv_at hl 0 rfl) ?_
  refine lv_lsub hx hb dX6_opposite_4 ?_
  exact W.lret (v := ((-1) - a0)) hx hb hr (fun t ht hW => ⟨_, rfl, hf, ht⟩) (fun q hq => absurd hq List.not_mem_nil) dX6_opposite_5

set_option maxHeartbeats 4000000 in
set_option maxRecDepth 100000 in
theorem m_X6_isEnd (l : Launch) (a0 : Int64) (res : Bool) (hf : f_X6_isEnd a0 = res) : Met l yX6_isEnd wsX6_isEnd rmX6_isEnd (my_PcP [.long a0]) (vp_Si (fun z => z = b2i res)) 0 0 (fun _ => False) := by
  refine Met.ofW (cc := cX6_isEnd) (maxL := 2) (ret := (some .boolean)) (by decide) rfl ?_
  intro p e s m args below meth c s₁ B hml hv
  obtain ⟨rfl, -⟩ := hv
  have hx := B.exec
  have hb := B.bytes
  have hr := B.returns
  have hts : ∀ w ∈ wsX6_isEnd, w.before ([.long a0] : List Value).toArray s = true := atoms_spec (ws := wsX6_isEnd) B.pre
  have hown : s.vm.findClass RX6 = some m.cls := findClass_of_methodNamed B.named
  have hlk : meth.locks = false := B.notSynchronized
  have q1 := hts (.constantLong RX6 49 (9218868437227405312)) (by decide +kernel)
  have hl := lv_entry ([.long a0]) (n := 2) (Nat.le_of_ble_eq_true rfl)
  rw [lg_entry_eq]
  generalize (lg_sl ([.long a0]) ++ List.replicate (2 - (lg_sl ([.long a0])).length) Slot.unset).toArray = ls at hl ⊢
  have hl : lv_has ls 2 [(0, .long a0)] := hl
  unfold f_X6_isEnd at hf
  refine lv_lload_n hx hb dX6_isEnd_0 rfl (lv_at hl 0 rfl) ?_
  refine my_callPl (As := [.long a0]) (n := 1) (rest := []) ⟨hx, hb, hml, hown, hts⟩ (m_X6_size l a0 _ rfl) gX6_isEnd_X6_size rfl ⟨rfl, rfl⟩ (by decide +kernel) ⟨Nat.le_of_ble_eq_true rfl, Nat.le_of_ble_eq_true rfl⟩ ⟨Nat.le_of_ble_eq_true rfl, Nat.le_of_ble_eq_true rfl⟩ hl.1 rfl rfl (Nat.le_of_ble_eq_true rfl) dX6_isEnd_1 ?_
  refine lv_ldc2 (v := 9218868437227405312) hx hb hown q1 dX6_isEnd_4 ?_
  refine my_lc_ne (tgt := 15) hx hb dX6_isEnd_7 dX6_isEnd_8 (by decide) (fun c1 => ?_) (fun c1 => ?_)
  · rw [if_neg c1] at hf
    refine lv_iconst (v := 0) hx hb dX6_isEnd_15 (by decide) ?_
    exact W.zret (v := b2i false) (ty := .boolean) hx hb hr (b2i_nar _) (fun t ht hW => ⟨_, rfl, congrArg b2i (hf), ht⟩) (fun q hq => absurd hq List.not_mem_nil) dX6_isEnd_16
  · rw [if_pos c1] at hf
    refine lv_iconst (v := 1) hx hb dX6_isEnd_11 (by decide) ?_
    refine lv_goto (tgt := 16) hx hb dX6_isEnd_12 (by decide) ?_
    exact W.zret (v := b2i true) (ty := .boolean) hx hb hr (b2i_nar _) (fun t ht hW => ⟨_, rfl, congrArg b2i (hf), ht⟩) (fun q hq => absurd hq List.not_mem_nil) dX6_isEnd_16

set_option maxHeartbeats 4000000 in
set_option maxRecDepth 100000 in
theorem m_X6_isNothing (l : Launch) (a0 : Int64) (res : Bool) (hf : f_X6_isNothing a0 = res) : Met l yX6_isNothing wsX6_isNothing rmX6_isNothing (my_PcP [.long a0]) (vp_Si (fun z => z = b2i res)) 0 0 (fun _ => False) := by
  refine Met.ofW (cc := cX6_isNothing) (maxL := 2) (ret := (some .boolean)) (by decide) rfl ?_
  intro p e s m args below meth c s₁ B hml hv
  obtain ⟨rfl, -⟩ := hv
  have hx := B.exec
  have hb := B.bytes
  have hr := B.returns
  have hts : ∀ w ∈ wsX6_isNothing, w.before ([.long a0] : List Value).toArray s = true := atoms_spec (ws := wsX6_isNothing) B.pre
  have hown : s.vm.findClass RX6 = some m.cls := findClass_of_methodNamed B.named
  have hlk : meth.locks = false := B.notSynchronized
  have hl := lv_entry ([.long a0]) (n := 2) (Nat.le_of_ble_eq_true rfl)
  rw [lg_entry_eq]
  generalize (lg_sl ([.long a0]) ++ List.replicate (2 - (lg_sl ([.long a0])).length) Slot.unset).toArray = ls at hl ⊢
  have hl : lv_has ls 2 [(0, .long a0)] := hl
  unfold f_X6_isNothing at hf
  refine lv_lload_n hx hb dX6_isNothing_0 rfl (lv_at hl 0 rfl) ?_
  refine my_callPl (As := [.long a0]) (n := 1) (rest := []) ⟨hx, hb, hml, hown, hts⟩ (m_X6_size l a0 _ rfl) gX6_isNothing_X6_size rfl ⟨rfl, rfl⟩ (by decide +kernel) ⟨Nat.le_of_ble_eq_true rfl, Nat.le_of_ble_eq_true rfl⟩ ⟨Nat.le_of_ble_eq_true rfl, Nat.le_of_ble_eq_true rfl⟩ hl.1 rfl rfl (Nat.le_of_ble_eq_true rfl) dX6_isNothing_1 ?_
  refine lv_lconst (v := 0) hx hb dX6_isNothing_4 (by decide) ?_
  refine my_lc_ne (tgt := 13) hx hb dX6_isNothing_5 dX6_isNothing_6 (by decide) (fun c1 => ?_) (fun c1 => ?_)
  · rw [if_neg c1] at hf
    refine lv_iconst (v := 0) hx hb dX6_isNothing_13 (by decide) ?_
    exact W.zret (v := b2i false) (ty := .boolean) hx hb hr (b2i_nar _) (fun t ht hW => ⟨_, rfl, congrArg b2i (hf), ht⟩) (fun q hq => absurd hq List.not_mem_nil) dX6_isNothing_14
  · rw [if_pos c1] at hf
    refine lv_iconst (v := 1) hx hb dX6_isNothing_9 (by decide) ?_
    refine lv_goto (tgt := 14) hx hb dX6_isNothing_10 (by decide) ?_
    exact W.zret (v := b2i true) (ty := .boolean) hx hb hr (b2i_nar _) (fun t ht hW => ⟨_, rfl, congrArg b2i (hf), ht⟩) (fun q hq => absurd hq List.not_mem_nil) dX6_isNothing_14

set_option maxHeartbeats 4000000 in
set_option maxRecDepth 100000 in
theorem m_X6_above (l : Launch) (a0 : Int64) (res : Int64) (hf : f_X6_above a0 = res) : Met l yX6_above wsX6_above rmX6_above (my_PcP [.long a0]) (vp_Sl (fun z => z = res)) 0 0 (fun _ => False) := by
  refine Met.ofW (cc := cX6_above) (maxL := 4) (ret := (some .long)) (by decide) rfl ?_
  intro p e s m args below meth c s₁ B hml hv
  obtain ⟨rfl, -⟩ := hv
  have hx := B.exec
  have hb := B.bytes
  have hr := B.returns
  have hts : ∀ w ∈ wsX6_above, w.before ([.long a0] : List Value).toArray s = true := atoms_spec (ws := wsX6_above) B.pre
  have hown : s.vm.findClass RX6 = some m.cls := findClass_of_methodNamed B.named
  have hlk : meth.locks = false := B.notSynchronized
  have q1 := hts (.constantLong RX6 49 (9218868437227405312)) (by decide +kernel)
  have q2 := hts (.constantLong RX6 43 (-1)) (by decide +kernel)
  have hl := lv_entry ([.long a0]) (n := 4) (Nat.le_of_ble_eq_true rfl)
  rw [lg_entry_eq]
  generalize (lg_sl ([.long a0]) ++ List.replicate (4 - (lg_sl ([.long a0])).length) Slot.unset).toArray = ls at hl ⊢
  have hl : lv_has ls 4 [(0, .long a0)] := hl
  unfold f_X6_above at hf
  refine lv_lload_n hx hb dX6_above_0 rfl (lv_at hl 0 rfl) ?_
  refine my_callPl (As := [.long a0]) (n := 1) (rest := []) ⟨hx, hb, hml, hown, hts⟩ (m_X6_placeOf l a0 _ rfl) gX6_above_X6_placeOf rfl ⟨rfl, rfl⟩ (by decide +kernel) ⟨Nat.le_of_ble_eq_true rfl, Nat.le_of_ble_eq_true rfl⟩ ⟨Nat.le_of_ble_eq_true rfl, Nat.le_of_ble_eq_true rfl⟩ hl.1 rfl rfl (Nat.le_of_ble_eq_true rfl) dX6_above_1 ?_
  refine lv_lstore_n (lv' := [(2, .long (f_X6_placeOf a0)), (0, .long a0)]) hx hb dX6_above_4 rfl hl (by decide) rfl (fun ls hl => ?_)
  refine lv_lload_n hx hb dX6_above_5 rfl (lv_at hl 0 rfl) ?_
  refine lv_ldc2 (v := 9218868437227405312) hx hb hown q1 dX6_above_6 ?_
  refine my_lc_ne (tgt := 15) hx hb dX6_above_9 dX6_above_10 (by decide) (fun c1 => ?_) (fun c1 => ?_)
  · rw [if_neg c1] at hf
    refine lv_lload_n hx hb dX6_above_15 rfl (lv_at hl 0 rfl) ?_
    refine lv_ldc2 (v := (-1)) hx hb hown q2 dX6_above_16 ?_
    refine my_lc_ne (tgt := 29) hx hb dX6_above_19 dX6_above_20 (by decide) (fun c2 => ?_) (fun c2 => ?_)
    · rw [if_neg c2] at hf
      refine lv_lload_n hx hb dX6_above_29 rfl (lv_at hl 0 rfl) ?_
      refine lv_lconst (v := 1) hx hb dX6_above_30 (by decide) ?_
      refine lv_ladd hx hb dX6_above_31 ?_
      refine my_callPl (As := [.long ((f_X6_placeOf a0) + 1)]) (n := 1) (rest := []) ⟨hx, hb, hml, hown, hts⟩ (m_X6_codeOf l ((f_X6_placeOf a0) + 1) _ rfl) gX6_above_X6_codeOf rfl ⟨rfl, rfl⟩ (by decide +kernel) ⟨Nat.le_of_ble_eq_true rfl, Nat.le_of_ble_eq_true rfl⟩ ⟨Nat.le_of_ble_eq_true rfl, Nat.le_of_ble_eq_true rfl⟩ hl.1 rfl rfl (Nat.le_of_ble_eq_true rfl) dX6_above_32 ?_
      exact W.lret (v := (f_X6_codeOf ((f_X6_placeOf a0) + 1))) hx hb hr (fun t ht hW => ⟨_, rfl, hf, ht⟩) (fun q hq => absurd hq List.not_mem_nil) dX6_above_35
    · rw [if_pos c2] at hf
      refine lv_ldc2 (v := (-1)) hx hb hown q2 dX6_above_23 ?_
      refine lv_goto (tgt := 35) hx hb dX6_above_26 (by decide) ?_
      exact W.lret (v := (-1)) hx hb hr (fun t ht hW => ⟨_, rfl, hf, ht⟩) (fun q hq => absurd hq List.not_mem_nil) dX6_above_35
  · rw [if_pos c1] at hf
    refine lv_lload_n hx hb dX6_above_13 rfl (lv_at hl 1 rfl) ?_
    exact W.lret (v := a0) hx hb hr (fun t ht hW => ⟨_, rfl, hf, ht⟩) (fun q hq => absurd hq List.not_mem_nil) dX6_above_14

set_option maxHeartbeats 4000000 in
set_option maxRecDepth 100000 in
theorem m_X6_below (l : Launch) (a0 : Int64) (res : Int64) (hf : f_X6_below a0 = res) : Met l yX6_below wsX6_below rmX6_below (my_PcP [.long a0]) (vp_Sl (fun z => z = res)) 0 0 (fun _ => False) := by
  refine Met.ofW (cc := cX6_below) (maxL := 2) (ret := (some .long)) (by decide) rfl ?_
  intro p e s m args below meth c s₁ B hml hv
  obtain ⟨rfl, -⟩ := hv
  have hx := B.exec
  have hb := B.bytes
  have hr := B.returns
  have hts : ∀ w ∈ wsX6_below, w.before ([.long a0] : List Value).toArray s = true := atoms_spec (ws := wsX6_below) B.pre
  have hown : s.vm.findClass RX6 = some m.cls := findClass_of_methodNamed B.named
  have hlk : meth.locks = false := B.notSynchronized
  have hl := lv_entry ([.long a0]) (n := 2) (Nat.le_of_ble_eq_true rfl)
  rw [lg_entry_eq]
  generalize (lg_sl ([.long a0]) ++ List.replicate (2 - (lg_sl ([.long a0])).length) Slot.unset).toArray = ls at hl ⊢
  have hl : lv_has ls 2 [(0, .long a0)] := hl
  unfold f_X6_below at hf
  refine lv_lload_n hx hb dX6_below_0 rfl (lv_at hl 0 rfl) ?_
  refine my_callPl (As := [.long a0]) (n := 1) (rest := []) ⟨hx, hb, hml, hown, hts⟩ (m_X6_opposite l a0 _ rfl) gX6_below_X6_opposite rfl ⟨rfl, rfl⟩ (by decide +kernel) ⟨Nat.le_of_ble_eq_true rfl, Nat.le_of_ble_eq_true rfl⟩ ⟨Nat.le_of_ble_eq_true rfl, Nat.le_of_ble_eq_true rfl⟩ hl.1 rfl rfl (Nat.le_of_ble_eq_true rfl) dX6_below_1 ?_
  refine my_callPl (As := [.long (f_X6_opposite a0)]) (n := 1) (rest := []) ⟨hx, hb, hml, hown, hts⟩ (m_X6_above l (f_X6_opposite a0) _ rfl) gX6_below_X6_above rfl ⟨rfl, rfl⟩ (by decide +kernel) ⟨Nat.le_of_ble_eq_true rfl, Nat.le_of_ble_eq_true rfl⟩ ⟨Nat.le_of_ble_eq_true rfl, Nat.le_of_ble_eq_true rfl⟩ hl.1 rfl rfl (Nat.le_of_ble_eq_true rfl) dX6_below_4 ?_
  refine my_callPl (As := [.long (f_X6_above (f_X6_opposite a0))]) (n := 1) (rest := []) ⟨hx, hb, hml, hown, hts⟩ (m_X6_opposite l (f_X6_above (f_X6_opposite a0)) _ rfl) gX6_below_X6_opposite rfl ⟨rfl, rfl⟩ (by decide +kernel) ⟨Nat.le_of_ble_eq_true rfl, Nat.le_of_ble_eq_true rfl⟩ ⟨Nat.le_of_ble_eq_true rfl, Nat.le_of_ble_eq_true rfl⟩ hl.1 rfl rfl (Nat.le_of_ble_eq_true rfl) dX6_below_7 ?_
  exact W.lret (v := (f_X6_opposite (f_X6_above (f_X6_opposite a0)))) hx hb hr (fun t ht hW => ⟨_, rfl, hf, ht⟩) (fun q hq => absurd hq List.not_mem_nil) dX6_below_10

set_option maxHeartbeats 4000000 in
set_option maxRecDepth 100000 in
theorem m_X6_nearer (l : Launch) (a0 : Int64) (a1 : Int64) (res : Int64) (hf : f_X6_nearer a0 a1 = res) : Met l yX6_nearer wsX6_nearer rmX6_nearer (my_PcP [.long a0, .long a1]) (vp_Sl (fun z => z = res)) 0 0 (fun _ => False) := by
  refine Met.ofW (cc := cX6_nearer) (maxL := 8) (ret := (some .long)) (by decide) rfl ?_
  intro p e s m args below meth c s₁ B hml hv
  obtain ⟨rfl, -⟩ := hv
  have hx := B.exec
  have hb := B.bytes
  have hr := B.returns
  have hts : ∀ w ∈ wsX6_nearer, w.before ([.long a0, .long a1] : List Value).toArray s = true := atoms_spec (ws := wsX6_nearer) B.pre
  have hown : s.vm.findClass RX6 = some m.cls := findClass_of_methodNamed B.named
  have hlk : meth.locks = false := B.notSynchronized
  have hl := lv_entry ([.long a0, .long a1]) (n := 8) (Nat.le_of_ble_eq_true rfl)
  rw [lg_entry_eq]
  generalize (lg_sl ([.long a0, .long a1]) ++ List.replicate (8 - (lg_sl ([.long a0, .long a1])).length) Slot.unset).toArray = ls at hl ⊢
  have hl : lv_has ls 8 [(0, .long a0), (2, .long a1)] := hl
  unfold f_X6_nearer at hf
  refine lv_lload_n hx hb dX6_nearer_0 rfl (lv_at hl 0 rfl) ?_
  refine my_callPl (As := [.long a0]) (n := 1) (rest := []) ⟨hx, hb, hml, hown, hts⟩ (m_X6_placeOf l a0 _ rfl) gX6_nearer_X6_placeOf rfl ⟨rfl, rfl⟩ (by decide +kernel) ⟨Nat.le_of_ble_eq_true rfl, Nat.le_of_ble_eq_true rfl⟩ ⟨Nat.le_of_ble_eq_true rfl, Nat.le_of_ble_eq_true rfl⟩ hl.1 rfl rfl (Nat.le_of_ble_eq_true rfl) dX6_nearer_1 ?_
  refine lv_lstore (lv' := [(4, .long (f_X6_placeOf a0)), (0, .long a0), (2, .long a1)]) hx hb dX6_nearer_4 hl (by decide) rfl (fun ls hl => ?_)
  refine lv_lload_n hx hb dX6_nearer_6 rfl (lv_at hl 2 rfl) ?_
  refine my_callPl (As := [.long a1]) (n := 1) (rest := []) ⟨hx, hb, hml, hown, hts⟩ (m_X6_placeOf l a1 _ rfl) gX6_nearer_X6_placeOf rfl ⟨rfl, rfl⟩ (by decide +kernel) ⟨Nat.le_of_ble_eq_true rfl, Nat.le_of_ble_eq_true rfl⟩ ⟨Nat.le_of_ble_eq_true rfl, Nat.le_of_ble_eq_true rfl⟩ hl.1 rfl rfl (Nat.le_of_ble_eq_true rfl) dX6_nearer_7 ?_
  refine lv_lstore (lv' := [(6, .long (f_X6_placeOf a1)), (4, .long (f_X6_placeOf a0)), (0, .long a0), (2, .long a1)]) hx hb dX6_nearer_10 hl (by decide) rfl (fun ls hl => ?_)
  refine lv_lload hx hb dX6_nearer_12 (lv_at hl 1 rfl) ?_
  refine lv_lload hx hb dX6_nearer_14 (lv_at hl 0 rfl) ?_
  refine my_lc_ne (tgt := 24) hx hb dX6_nearer_16 dX6_nearer_17 (by decide) (fun c1 => ?_) (fun c1 => ?_)
  · rw [if_neg c1] at hf
    refine lv_lload hx hb dX6_nearer_24 (lv_at hl 1 rfl) ?_
    refine lv_lload hx hb dX6_nearer_26 (lv_at hl 0 rfl) ?_
    refine my_lc_ge (tgt := 39) hx hb dX6_nearer_28 dX6_nearer_29 (by decide) (fun c2 => ?_) (fun c2 => ?_)
    · rw [if_neg c2] at hf
      refine lv_lload_n hx hb dX6_nearer_39 rfl (lv_at hl 2 rfl) ?_
      refine my_callPl (As := [.long a0]) (n := 1) (rest := []) ⟨hx, hb, hml, hown, hts⟩ (m_X6_below l a0 _ rfl) gX6_nearer_X6_below rfl ⟨rfl, rfl⟩ (by decide +kernel) ⟨Nat.le_of_ble_eq_true rfl, Nat.le_of_ble_eq_true rfl⟩ ⟨Nat.le_of_ble_eq_true rfl, Nat.le_of_ble_eq_true rfl⟩ hl.1 rfl rfl (Nat.le_of_ble_eq_true rfl) dX6_nearer_40 ?_
      exact W.lret (v := (f_X6_below a0)) hx hb hr (fun t ht hW => ⟨_, rfl, hf, ht⟩) (fun q hq => absurd hq List.not_mem_nil) dX6_nearer_43
    · rw [if_pos c2] at hf
      refine lv_lload_n hx hb dX6_nearer_32 rfl (lv_at hl 2 rfl) ?_
      refine my_callPl (As := [.long a0]) (n := 1) (rest := []) ⟨hx, hb, hml, hown, hts⟩ (m_X6_above l a0 _ rfl) gX6_nearer_X6_above rfl ⟨rfl, rfl⟩ (by decide +kernel) ⟨Nat.le_of_ble_eq_true rfl, Nat.le_of_ble_eq_true rfl⟩ ⟨Nat.le_of_ble_eq_true rfl, Nat.le_of_ble_eq_true rfl⟩ hl.1 rfl rfl (Nat.le_of_ble_eq_true rfl) dX6_nearer_33 ?_
      refine lv_goto (tgt := 43) hx hb dX6_nearer_36 (by decide) ?_
      exact W.lret (v := (f_X6_above a0)) hx hb hr (fun t ht hW => ⟨_, rfl, hf, ht⟩) (fun q hq => absurd hq List.not_mem_nil) dX6_nearer_43
  · rw [if_pos c1] at hf
    refine lv_lload_n hx hb dX6_nearer_20 rfl (lv_at hl 3 rfl) ?_
    refine lv_goto (tgt := 43) hx hb dX6_nearer_21 (by decide) ?_
    exact W.lret (v := a1) hx hb hr (fun t ht hW => ⟨_, rfl, hf, ht⟩) (fun q hq => absurd hq List.not_mem_nil) dX6_nearer_43

set_option maxHeartbeats 4000000 in
set_option maxRecDepth 100000 in
theorem m_X6_areApart (l : Launch) (a0 : Int64) (a1 : Int64) (res : Bool) (hf : f_X6_areApart a0 a1 = res) : Met l yX6_areApart wsX6_areApart rmX6_areApart (my_PcP [.long a0, .long a1]) (vp_Si (fun z => z = b2i res)) 0 0 (fun _ => False) := by
  refine Met.ofW (cc := cX6_areApart) (maxL := 4) (ret := (some .boolean)) (by decide) rfl ?_
  intro p e s m args below meth c s₁ B hml hv
  obtain ⟨rfl, -⟩ := hv
  have hx := B.exec
  have hb := B.bytes
  have hr := B.returns
  have hts : ∀ w ∈ wsX6_areApart, w.before ([.long a0, .long a1] : List Value).toArray s = true := atoms_spec (ws := wsX6_areApart) B.pre
  have hown : s.vm.findClass RX6 = some m.cls := findClass_of_methodNamed B.named
  have hlk : meth.locks = false := B.notSynchronized
  have hl := lv_entry ([.long a0, .long a1]) (n := 4) (Nat.le_of_ble_eq_true rfl)
  rw [lg_entry_eq]
  generalize (lg_sl ([.long a0, .long a1]) ++ List.replicate (4 - (lg_sl ([.long a0, .long a1])).length) Slot.unset).toArray = ls at hl ⊢
  have hl : lv_has ls 4 [(0, .long a0), (2, .long a1)] := hl
  unfold f_X6_areApart at hf
  refine lv_lload_n hx hb dX6_areApart_0 rfl (lv_at hl 0 rfl) ?_
  refine lv_lload_n hx hb dX6_areApart_1 rfl (lv_at hl 1 rfl) ?_
  refine my_lc_le (tgt := 22) hx hb dX6_areApart_2 dX6_areApart_3 (by decide) (fun c1 => ?_) (fun c1 => ?_)
  · rw [if_neg c1] at hf
    refine lv_lload_n hx hb dX6_areApart_22 rfl (lv_at hl 1 rfl) ?_
    refine lv_lconst (v := 1) hx hb dX6_areApart_23 (by decide) ?_
    refine lv_lsub hx hb dX6_areApart_24 ?_
    refine lv_lload_n hx hb dX6_areApart_25 rfl (lv_at hl 0 rfl) ?_
    refine my_lc_le (tgt := 34) hx hb dX6_areApart_26 dX6_areApart_27 (by decide) (fun c2 => ?_) (fun c2 => ?_)
    · rw [if_neg c2] at hf
      refine lv_iconst (v := 0) hx hb dX6_areApart_34 (by decide) ?_
      exact W.zret (v := b2i false) (ty := .boolean) hx hb hr (b2i_nar _) (fun t ht hW => ⟨_, rfl, congrArg b2i (hf), ht⟩) (fun q hq => absurd hq List.not_mem_nil) dX6_areApart_35
    · rw [if_pos c2] at hf
      refine lv_iconst (v := 1) hx hb dX6_areApart_30 (by decide) ?_
      refine lv_goto (tgt := 35) hx hb dX6_areApart_31 (by decide) ?_
      exact W.zret (v := b2i true) (ty := .boolean) hx hb hr (b2i_nar _) (fun t ht hW => ⟨_, rfl, congrArg b2i (hf), ht⟩) (fun q hq => absurd hq List.not_mem_nil) dX6_areApart_35
  · rw [if_pos c1] at hf
    refine lv_lload_n hx hb dX6_areApart_6 rfl (lv_at hl 0 rfl) ?_
    refine lv_lconst (v := 1) hx hb dX6_areApart_7 (by decide) ?_
    refine lv_lsub hx hb dX6_areApart_8 ?_
    refine lv_lload_n hx hb dX6_areApart_9 rfl (lv_at hl 1 rfl) ?_
    refine my_lc_le (tgt := 18) hx hb dX6_areApart_10 dX6_areApart_11 (by decide) (fun c3 => ?_) (fun c3 => ?_)
    · rw [if_neg c3] at hf
      refine lv_iconst (v := 0) hx hb dX6_areApart_18 (by decide) ?_
      refine lv_goto (tgt := 35) hx hb dX6_areApart_19 (by decide) ?_
      exact W.zret (v := b2i false) (ty := .boolean) hx hb hr (b2i_nar _) (fun t ht hW => ⟨_, rfl, congrArg b2i (hf), ht⟩) (fun q hq => absurd hq List.not_mem_nil) dX6_areApart_35
    · rw [if_pos c3] at hf
      refine lv_iconst (v := 1) hx hb dX6_areApart_14 (by decide) ?_
      refine lv_goto (tgt := 35) hx hb dX6_areApart_15 (by decide) ?_
      exact W.zret (v := b2i true) (ty := .boolean) hx hb hr (b2i_nar _) (fun t ht hW => ⟨_, rfl, congrArg b2i (hf), ht⟩) (fun q hq => absurd hq List.not_mem_nil) dX6_areApart_35

set_option maxHeartbeats 4000000 in
set_option maxRecDepth 100000 in
theorem m_X6_middleOf (l : Launch) (a0 : Int64) (a1 : Int64) (res : Int64) (hf : f_X6_middleOf a0 a1 = res) : Met l yX6_middleOf wsX6_middleOf rmX6_middleOf (my_PcP [.long a0, .long a1]) (vp_Sl (fun z => z = res)) 0 0 (fun _ => False) := by
  refine Met.ofW (cc := cX6_middleOf) (maxL := 4) (ret := (some .long)) (by decide) rfl ?_
  intro p e s m args below meth c s₁ B hml hv
  obtain ⟨rfl, -⟩ := hv
  have hx := B.exec
  have hb := B.bytes
  have hr := B.returns
  have hts : ∀ w ∈ wsX6_middleOf, w.before ([.long a0, .long a1] : List Value).toArray s = true := atoms_spec (ws := wsX6_middleOf) B.pre
  have hown : s.vm.findClass RX6 = some m.cls := findClass_of_methodNamed B.named
  have hlk : meth.locks = false := B.notSynchronized
  have hl := lv_entry ([.long a0, .long a1]) (n := 4) (Nat.le_of_ble_eq_true rfl)
  rw [lg_entry_eq]
  generalize (lg_sl ([.long a0, .long a1]) ++ List.replicate (4 - (lg_sl ([.long a0, .long a1])).length) Slot.unset).toArray = ls at hl ⊢
  have hl : lv_has ls 4 [(0, .long a0), (2, .long a1)] := hl
  unfold f_X6_middleOf at hf
  refine lv_lload_n hx hb dX6_middleOf_0 rfl (lv_at hl 0 rfl) ?_
  refine lv_lload_n hx hb dX6_middleOf_1 rfl (lv_at hl 1 rfl) ?_
  refine lv_land hx hb dX6_middleOf_2 ?_
  refine lv_lload_n hx hb dX6_middleOf_3 rfl (lv_at hl 0 rfl) ?_
  refine lv_lload_n hx hb dX6_middleOf_4 rfl (lv_at hl 1 rfl) ?_
  refine lv_lxor hx hb dX6_middleOf_5 ?_
  refine lv_iconst (v := 1) hx hb dX6_middleOf_6 (by decide) ?_
  refine lv_lshr (v := (jshr (a0 ^^^ a1) 1)) hx hb dX6_middleOf_7 rfl ?_
  refine lv_ladd hx hb dX6_middleOf_8 ?_
  exact W.lret (v := ((a0 &&& a1) + (jshr (a0 ^^^ a1) 1))) hx hb hr (fun t ht hW => ⟨_, rfl, hf, ht⟩) (fun q hq => absurd hq List.not_mem_nil) dX6_middleOf_9

set_option maxHeartbeats 4000000 in
set_option maxRecDepth 100000 in
theorem m_X6_whole (l : Launch) (a0 : Int64) (res : Int64) (hf : f_X6_whole a0 = res) : Met l yX6_whole wsX6_whole rmX6_whole (my_PcP [.long a0]) (vp_Sl (fun z => z = res)) 0 0 (fun _ => False) := by
  refine Met.ofW (cc := cX6_whole) (maxL := 2) (ret := (some .long)) (by decide) rfl ?_
  intro p e s m args below meth c s₁ B hml hv
  obtain ⟨rfl, -⟩ := hv
  have hx := B.exec
  have hb := B.bytes
  have hr := B.returns
  have hts : ∀ w ∈ wsX6_whole, w.before ([.long a0] : List Value).toArray s = true := atoms_spec (ws := wsX6_whole) B.pre
  have hown : s.vm.findClass RX6 = some m.cls := findClass_of_methodNamed B.named
  have hlk : meth.locks = false := B.notSynchronized
  have q1 := hts (.constantLong RX6 66 (4503599627370496)) (by decide +kernel)
  have hl := lv_entry ([.long a0]) (n := 2) (Nat.le_of_ble_eq_true rfl)
  rw [lg_entry_eq]
  generalize (lg_sl ([.long a0]) ++ List.replicate (2 - (lg_sl ([.long a0])).length) Slot.unset).toArray = ls at hl ⊢
  have hl : lv_has ls 2 [(0, .long a0)] := hl
  unfold f_X6_whole at hf
  refine lv_lload_n hx hb dX6_whole_0 rfl (lv_at hl 0 rfl) ?_
  refine lv_ldc2 (v := 4503599627370496) hx hb hown q1 dX6_whole_1 ?_
  refine my_lc_ge (tgt := 12) hx hb dX6_whole_4 dX6_whole_5 (by decide) (fun c1 => ?_) (fun c1 => ?_)
  · rw [if_neg c1] at hf
    refine lv_ldc2 (v := 4503599627370496) hx hb hown q1 dX6_whole_12 ?_
    refine lv_lload_n hx hb dX6_whole_15 rfl (lv_at hl 0 rfl) ?_
    refine lv_ldc2 (v := 4503599627370496) hx hb hown q1 dX6_whole_16 ?_
    refine lv_lrem hx hb dX6_whole_19 (by decide) ?_
    refine lv_ladd hx hb dX6_whole_20 ?_
    exact W.lret (v := (4503599627370496 + (a0 - a0 / 4503599627370496 * 4503599627370496))) hx hb hr (fun t ht hW => ⟨_, rfl, hf, ht⟩) (fun q hq => absurd hq List.not_mem_nil) dX6_whole_21
  · rw [if_pos c1] at hf
    refine lv_lload_n hx hb dX6_whole_8 rfl (lv_at hl 0 rfl) ?_
    refine lv_goto (tgt := 21) hx hb dX6_whole_9 (by decide) ?_
    exact W.lret (v := a0) hx hb hr (fun t ht hW => ⟨_, rfl, hf, ht⟩) (fun q hq => absurd hq List.not_mem_nil) dX6_whole_21

set_option maxHeartbeats 4000000 in
set_option maxRecDepth 100000 in
theorem m_X6_shift (l : Launch) (a0 : Int64) (res : Int32) (hf : f_X6_shift a0 = res) : Met l yX6_shift wsX6_shift rmX6_shift (my_PcP [.long a0]) (vp_Si (fun z => z = res)) 0 0 (fun _ => False) := by
  refine Met.ofW (cc := cX6_shift) (maxL := 2) (ret := (some .int)) (by decide) rfl ?_
  intro p e s m args below meth c s₁ B hml hv
  obtain ⟨rfl, -⟩ := hv
  have hx := B.exec
  have hb := B.bytes
  have hr := B.returns
  have hts : ∀ w ∈ wsX6_shift, w.before ([.long a0] : List Value).toArray s = true := atoms_spec (ws := wsX6_shift) B.pre
  have hown : s.vm.findClass RX6 = some m.cls := findClass_of_methodNamed B.named
  have hlk : meth.locks = false := B.notSynchronized
  have q1 := hts (.constantLong RX6 66 (4503599627370496)) (by decide +kernel)
  have hl := lv_entry ([.long a0]) (n := 2) (Nat.le_of_ble_eq_true rfl)
  rw [lg_entry_eq]
  generalize (lg_sl ([.long a0]) ++ List.replicate (2 - (lg_sl ([.long a0])).length) Slot.unset).toArray = ls at hl ⊢
  have hl : lv_has ls 2 [(0, .long a0)] := hl
  unfold f_X6_shift at hf
  refine lv_lload_n hx hb dX6_shift_0 rfl (lv_at hl 0 rfl) ?_
  refine lv_ldc2 (v := 4503599627370496) hx hb hown q1 dX6_shift_1 ?_
  refine my_lc_ge (tgt := 12) hx hb dX6_shift_4 dX6_shift_5 (by decide) (fun c1 => ?_) (fun c1 => ?_)
  · rw [if_neg c1] at hf
    refine lv_lload_n hx hb dX6_shift_12 rfl (lv_at hl 0 rfl) ?_
    refine lv_ldc2 (v := 4503599627370496) hx hb hown q1 dX6_shift_13 ?_
    refine lv_ldiv hx hb dX6_shift_16 (by decide) ?_
    refine lv_l2i (v := ((a0 / 4503599627370496).toInt32)) hx hb dX6_shift_17 rfl ?_
    refine lv_iconst (v := 1) hx hb dX6_shift_18 (by decide) ?_
    refine lv_isub hx hb dX6_shift_19 ?_
    exact W.iret (v := (((a0 / 4503599627370496).toInt32) - 1)) hx hb hr (fun t ht hW => ⟨_, rfl, hf, ht⟩) (fun q hq => absurd hq List.not_mem_nil) dX6_shift_20
  · rw [if_pos c1] at hf
    refine lv_iconst (v := 0) hx hb dX6_shift_8 (by decide) ?_
    refine lv_goto (tgt := 20) hx hb dX6_shift_9 (by decide) ?_
    exact W.iret (v := 0) hx hb hr (fun t ht hW => ⟨_, rfl, hf, ht⟩) (fun q hq => absurd hq List.not_mem_nil) dX6_shift_20

set_option maxHeartbeats 4000000 in
set_option maxRecDepth 100000 in
theorem m_X6_made (l : Launch) (a0 : Int64) (a1 : Int32) (res : Int64) (hf : f_X6_made a0 a1 = some res) : Met l yX6_made wsX6_made rmX6_made (my_PcP [.long a0, .int a1]) (vp_Sl (fun z => z = res)) 0 0 (fun _ => False) := by
  refine Met.ofW (cc := cX6_made) (maxL := 12) (ret := (some .long)) (by decide) rfl ?_
  intro p e s m args below meth c s₁ B hml hv
  obtain ⟨rfl, -⟩ := hv
  have hx := B.exec
  have hb := B.bytes
  have hr := B.returns
  have hts : ∀ w ∈ wsX6_made, w.before ([.long a0, .int a1] : List Value).toArray s = true := atoms_spec (ws := wsX6_made) B.pre
  have hown : s.vm.findClass RX6 = some m.cls := findClass_of_methodNamed B.named
  have hlk : meth.locks = false := B.notSynchronized
  have q1 := hts (.constantLong RX6 66 (4503599627370496)) (by decide +kernel)
  have q2 := hts (.constantLong RX6 49 (9218868437227405312)) (by decide +kernel)
  have q3 := hts (.constantLong RX6 68 (2)) (by decide +kernel)
  have hl := lv_entry ([.long a0, .int a1]) (n := 12) (Nat.le_of_ble_eq_true rfl)
  rw [lg_entry_eq]
  generalize (lg_sl ([.long a0, .int a1]) ++ List.replicate (12 - (lg_sl ([.long a0, .int a1])).length) Slot.unset).toArray = ls at hl ⊢
  have hl : lv_has ls 12 [(0, .long a0), (2, .int a1)] := hl
  unfold f_X6_made at hf
  refine lv_lload_n hx hb dX6_made_0 rfl (lv_at hl 0 rfl) ?_
  refine lv_lstore_n (lv' := [(3, .long a0), (0, .long a0), (2, .int a1)]) hx hb dX6_made_1 rfl hl (by decide) rfl (fun ls hl => ?_)
  refine lv_iload_n hx hb dX6_made_2 rfl (lv_at hl 2 rfl) ?_
  refine lv_istore (lv' := [(5, .int a1), (3, .long a0), (0, .long a0), (2, .int a1)]) hx hb dX6_made_3 hl (by decide) rfl (fun ls hl => ?_)
  refine lv_iload hx hb dX6_made_5 (lv_at hl 0 rfl) ?_
  refine lv_bipush (v := (-62)) hx hb dX6_made_7 (by decide) ?_
  refine my_ic_ge (tgt := 14) hx hb dX6_made_9 (by decide) (fun c1 => ?_) (fun c1 => ?_)
  · rw [if_neg c1] at hf
    refine lv_iload hx hb dX6_made_14 (lv_at hl 0 rfl) ?_
    refine my_if_ge (tgt := 81) hx hb dX6_made_16 (by decide) (fun c2 => ?_) (fun c2 => ?_)
    · rw [if_neg c2] at hf
      have loop81 : ∀ (n81 : Nat) (v81_5 : Int32) (v81_3 : Int64) (ls : Array Slot), lv_has ls 12 [(5, .int v81_5), (3, .long v81_3)] → f_X6_made_L81 a0 a1 n81 v81_5 v81_3 = some res → W p l e (rmX6_made) s m ([.long a0, .int a1] : List Value).toArray below meth c s.heap [] 0 0 (MQ below (vp_Sl (fun z => z = res)) ([.long a0, .int a1] : List Value).toArray s 0 0 (fun _ => False)) (F0 m 81 ls []) := by
        intro n81
        induction n81 with
        | zero => intro v81_5 v81_3 ls hl hf; rw [f_X6_made_L81] at hf; cases hf
        | succ n81 ih81 =>
          intro v81_5 v81_3 ls hl hf
          rw [f_X6_made_L81] at hf
          refine lv_lload_n hx hb dX6_made_81 rfl (lv_at hl 1 rfl) ?_
          refine lv_ldc2 (v := 4503599627370496) hx hb hown q1 dX6_made_82 ?_
          refine my_lc_ge (tgt := 104) hx hb dX6_made_85 dX6_made_86 (by decide) (fun c3 => ?_) (fun c3 => ?_)
          · rw [if_neg c3] at hf
            refine lv_lload_n hx hb dX6_made_104 rfl (lv_at hl 1 rfl) ?_
            refine lv_ldc2 (v := 4503599627370496) hx hb hown q1 dX6_made_105 ?_
            refine my_lc_ge (tgt := 114) hx hb dX6_made_108 dX6_made_109 (by decide) (fun c4 => ?_) (fun c4 => ?_)
            · rw [if_neg c4] at hf
              refine lv_iload hx hb dX6_made_114 (lv_at hl 0 rfl) ?_
              refine lv_sipush (v := 2046) hx hb dX6_made_116 (by decide) ?_
              refine my_ic_lt (tgt := 128) hx hb dX6_made_119 (by decide) (fun c5 => ?_) (fun c5 => ?_)
              · rw [if_pos c5] at hf
                refine lv_iload hx hb dX6_made_128 (lv_at hl 0 rfl) ?_
                refine lv_iconst (v := 1) hx hb dX6_made_130 (by decide) ?_
                refine lv_iadd hx hb dX6_made_131 ?_
                refine lv_i2l (v := ((v81_5 + 1).toInt64)) hx hb dX6_made_132 rfl ?_
                refine lv_ldc2 (v := 4503599627370496) hx hb hown q1 dX6_made_133 ?_
                refine lv_lmul hx hb dX6_made_136 ?_
                refine lv_lload_n hx hb dX6_made_137 rfl (lv_at hl 1 rfl) ?_
                refine lv_ldc2 (v := 4503599627370496) hx hb hown q1 dX6_made_138 ?_
                refine lv_lsub hx hb dX6_made_141 ?_
                refine lv_ladd hx hb dX6_made_142 ?_
                exact W.lret (v := ((((v81_5 + 1).toInt64) * 4503599627370496) + (v81_3 - 4503599627370496))) hx hb hr (fun t ht hW => ⟨_, rfl, Option.some.inj hf, ht⟩) (fun q hq => absurd hq List.not_mem_nil) dX6_made_143
              · rw [if_neg c5] at hf
                refine lv_ldc2 (v := 9218868437227405312) hx hb hown q2 dX6_made_122 ?_
                refine lv_goto (tgt := 143) hx hb dX6_made_125 (by decide) ?_
                exact W.lret (v := 9218868437227405312) hx hb hr (fun t ht hW => ⟨_, rfl, Option.some.inj hf, ht⟩) (fun q hq => absurd hq List.not_mem_nil) dX6_made_143
            · rw [if_pos c4] at hf
              refine lv_lload_n hx hb dX6_made_112 rfl (lv_at hl 1 rfl) ?_
              exact W.lret (v := v81_3) hx hb hr (fun t ht hW => ⟨_, rfl, Option.some.inj hf, ht⟩) (fun q hq => absurd hq List.not_mem_nil) dX6_made_113
          · rw [if_pos c3] at hf
            refine lv_iload hx hb dX6_made_89 (lv_at hl 0 rfl) ?_
            refine my_if_le (tgt := 104) hx hb dX6_made_91 (by decide) (fun c6 => ?_) (fun c6 => ?_)
            · rw [if_neg c6] at hf
              refine lv_lload_n hx hb dX6_made_104 rfl (lv_at hl 1 rfl) ?_
              refine lv_ldc2 (v := 4503599627370496) hx hb hown q1 dX6_made_105 ?_
              refine my_lc_ge (tgt := 114) hx hb dX6_made_108 dX6_made_109 (by decide) (fun c7 => ?_) (fun c7 => ?_)
              · rw [if_neg c7] at hf
                refine lv_iload hx hb dX6_made_114 (lv_at hl 0 rfl) ?_
                refine lv_sipush (v := 2046) hx hb dX6_made_116 (by decide) ?_
                refine my_ic_lt (tgt := 128) hx hb dX6_made_119 (by decide) (fun c8 => ?_) (fun c8 => ?_)
                · rw [if_pos c8] at hf
                  refine lv_iload hx hb dX6_made_128 (lv_at hl 0 rfl) ?_
                  refine lv_iconst (v := 1) hx hb dX6_made_130 (by decide) ?_
                  refine lv_iadd hx hb dX6_made_131 ?_
                  refine lv_i2l (v := ((v81_5 + 1).toInt64)) hx hb dX6_made_132 rfl ?_
                  refine lv_ldc2 (v := 4503599627370496) hx hb hown q1 dX6_made_133 ?_
                  refine lv_lmul hx hb dX6_made_136 ?_
                  refine lv_lload_n hx hb dX6_made_137 rfl (lv_at hl 1 rfl) ?_
                  refine lv_ldc2 (v := 4503599627370496) hx hb hown q1 dX6_made_138 ?_
                  refine lv_lsub hx hb dX6_made_141 ?_
                  refine lv_ladd hx hb dX6_made_142 ?_
                  exact W.lret (v := ((((v81_5 + 1).toInt64) * 4503599627370496) + (v81_3 - 4503599627370496))) hx hb hr (fun t ht hW => ⟨_, rfl, Option.some.inj hf, ht⟩) (fun q hq => absurd hq List.not_mem_nil) dX6_made_143
                · rw [if_neg c8] at hf
                  refine lv_ldc2 (v := 9218868437227405312) hx hb hown q2 dX6_made_122 ?_
                  refine lv_goto (tgt := 143) hx hb dX6_made_125 (by decide) ?_
                  exact W.lret (v := 9218868437227405312) hx hb hr (fun t ht hW => ⟨_, rfl, Option.some.inj hf, ht⟩) (fun q hq => absurd hq List.not_mem_nil) dX6_made_143
              · rw [if_pos c7] at hf
                refine lv_lload_n hx hb dX6_made_112 rfl (lv_at hl 1 rfl) ?_
                exact W.lret (v := v81_3) hx hb hr (fun t ht hW => ⟨_, rfl, Option.some.inj hf, ht⟩) (fun q hq => absurd hq List.not_mem_nil) dX6_made_113
            · rw [if_pos c6] at hf
              refine lv_lload_n hx hb dX6_made_94 rfl (lv_at hl 1 rfl) ?_
              refine lv_lload_n hx hb dX6_made_95 rfl (lv_at hl 1 rfl) ?_
              refine lv_ladd hx hb dX6_made_96 ?_
              refine lv_lstore_n (lv' := [(3, .long (v81_3 + v81_3)), (5, .int v81_5)]) hx hb dX6_made_97 rfl hl (by decide) rfl (fun ls hl => ?_)
              refine lv_iinc (v := (v81_5 + (-1))) (lv' := [(5, .int (v81_5 + (-1))), (3, .long (v81_3 + v81_3))]) hx hb dX6_made_98 hl (k := 1) rfl rfl (by decide) rfl (fun ls hl => ?_)
              refine lv_goto (tgt := 81) hx hb dX6_made_101 (by decide) ?_
              exact ih81 (v81_5 + (-1)) (v81_3 + v81_3) _ (lv_sub hl [0, 1] rfl) hf
      exact loop81 100 a1 a0 _ (lv_sub hl [0, 1] rfl) hf
    · rw [if_pos c2] at hf
      refine lv_lconst (v := 1) hx hb dX6_made_19 (by decide) ?_
      refine lv_iload hx hb dX6_made_20 (lv_at hl 0 rfl) ?_
      refine lv_ineg hx hb dX6_made_22 ?_
      refine lv_lshl (v := (jshl 1 (-a1))) hx hb dX6_made_23 rfl ?_
      refine lv_lstore (lv' := [(6, .long (jshl 1 (-a1))), (5, .int a1), (3, .long a0), (0, .long a0), (2, .int a1)]) hx hb dX6_made_24 hl (by decide) rfl (fun ls hl => ?_)
      refine lv_lload_n hx hb dX6_made_26 rfl (lv_at hl 2 rfl) ?_
      refine lv_lload hx hb dX6_made_27 (lv_at hl 0 rfl) ?_
      obtain ⟨g9, hf⟩ := og_e hf
      refine lv_ldiv hx hb dX6_made_29 g9 ?_
      refine lv_lstore (lv' := [(8, .long (a0 / (jshl 1 (-a1)))), (6, .long (jshl 1 (-a1))), (5, .int a1), (3, .long a0), (0, .long a0), (2, .int a1)]) hx hb dX6_made_30 hl (by decide) rfl (fun ls hl => ?_)
      refine lv_lload_n hx hb dX6_made_32 rfl (lv_at hl 3 rfl) ?_
      refine lv_lload hx hb dX6_made_33 (lv_at hl 1 rfl) ?_
      obtain ⟨g10, hf⟩ := og_e hf
      refine lv_lrem hx hb dX6_made_35 g10 ?_
      refine lv_lstore (lv' := [(10, .long (a0 - a0 / (jshl 1 (-a1)) * (jshl 1 (-a1)))), (8, .long (a0 / (jshl 1 (-a1)))), (6, .long (jshl 1 (-a1))), (5, .int a1), (3, .long a0), (0, .long a0), (2, .int a1)]) hx hb dX6_made_36 hl (by decide) rfl (fun ls hl => ?_)
      refine lv_lload hx hb dX6_made_38 (lv_at hl 0 rfl) ?_
      refine lv_lload hx hb dX6_made_40 (lv_at hl 0 rfl) ?_
      refine lv_ladd hx hb dX6_made_42 ?_
      refine lv_lload hx hb dX6_made_43 (lv_at hl 2 rfl) ?_
      refine my_lc_gt (tgt := 71) hx hb dX6_made_45 dX6_made_46 (by decide) (fun c11 => ?_) (fun c11 => ?_)
      · rw [if_pos c11] at hf
        refine lv_lload hx hb dX6_made_71 (lv_at hl 1 rfl) ?_
        refine lv_lconst (v := 1) hx hb dX6_made_73 (by decide) ?_
        refine lv_ladd hx hb dX6_made_74 ?_
        refine lv_goto (tgt := 80) hx hb dX6_made_75 (by decide) ?_
        exact W.lret (v := ((a0 / (jshl 1 (-a1))) + 1)) hx hb hr (fun t ht hW => ⟨_, rfl, Option.some.inj hf, ht⟩) (fun q hq => absurd hq List.not_mem_nil) dX6_made_80
      · rw [if_neg c11] at hf
        refine lv_lload hx hb dX6_made_49 (lv_at hl 0 rfl) ?_
        refine lv_lload hx hb dX6_made_51 (lv_at hl 0 rfl) ?_
        refine lv_ladd hx hb dX6_made_53 ?_
        refine lv_lload hx hb dX6_made_54 (lv_at hl 2 rfl) ?_
        refine my_lc_ne (tgt := 78) hx hb dX6_made_56 dX6_made_57 (by decide) (fun c12 => ?_) (fun c12 => ?_)
        · rw [if_neg c12] at hf
          refine lv_lload hx hb dX6_made_78 (lv_at hl 1 rfl) ?_
          exact W.lret (v := (a0 / (jshl 1 (-a1)))) hx hb hr (fun t ht hW => ⟨_, rfl, Option.some.inj hf, ht⟩) (fun q hq => absurd hq List.not_mem_nil) dX6_made_80
        · rw [if_pos c12] at hf
          refine lv_lload hx hb dX6_made_60 (lv_at hl 1 rfl) ?_
          refine lv_ldc2 (v := 2) hx hb hown q3 dX6_made_62 ?_
          refine lv_lrem hx hb dX6_made_65 (by decide) ?_
          refine lv_lconst (v := 1) hx hb dX6_made_66 (by decide) ?_
          refine my_lc_ne (tgt := 78) hx hb dX6_made_67 dX6_made_68 (by decide) (fun c13 => ?_) (fun c13 => ?_)
          · rw [if_neg c13] at hf
            refine lv_lload hx hb dX6_made_78 (lv_at hl 1 rfl) ?_
            exact W.lret (v := (a0 / (jshl 1 (-a1)))) hx hb hr (fun t ht hW => ⟨_, rfl, Option.some.inj hf, ht⟩) (fun q hq => absurd hq List.not_mem_nil) dX6_made_80
          · rw [if_pos c13] at hf
            refine lv_lload hx hb dX6_made_71 (lv_at hl 1 rfl) ?_
            refine lv_lconst (v := 1) hx hb dX6_made_73 (by decide) ?_
            refine lv_ladd hx hb dX6_made_74 ?_
            refine lv_goto (tgt := 80) hx hb dX6_made_75 (by decide) ?_
            exact W.lret (v := ((a0 / (jshl 1 (-a1))) + 1)) hx hb hr (fun t ht hW => ⟨_, rfl, Option.some.inj hf, ht⟩) (fun q hq => absurd hq List.not_mem_nil) dX6_made_80
  · rw [if_pos c1] at hf
    refine lv_lconst (v := 0) hx hb dX6_made_12 (by decide) ?_
    exact W.lret (v := 0) hx hb hr (fun t ht hW => ⟨_, rfl, Option.some.inj hf, ht⟩) (fun q hq => absurd hq List.not_mem_nil) dX6_made_13

set_option maxHeartbeats 4000000 in
set_option maxRecDepth 100000 in
theorem m_X6_scaled (l : Launch) (a0 : Int64) (a1 : Int32) (res : Int64) (hf : f_X6_scaled a0 a1 = some res) : Met l yX6_scaled wsX6_scaled rmX6_scaled (my_PcP [.long a0, .int a1]) (vp_Sl (fun z => z = res)) 0 0 (fun _ => False) := by
  refine Met.ofW (cc := cX6_scaled) (maxL := 7) (ret := (some .long)) (by decide) rfl ?_
  intro p e s m args below meth c s₁ B hml hv
  obtain ⟨rfl, -⟩ := hv
  have hx := B.exec
  have hb := B.bytes
  have hr := B.returns
  have hts : ∀ w ∈ wsX6_scaled, w.before ([.long a0, .int a1] : List Value).toArray s = true := atoms_spec (ws := wsX6_scaled) B.pre
  have hown : s.vm.findClass RX6 = some m.cls := findClass_of_methodNamed B.named
  have hlk : meth.locks = false := B.notSynchronized
  have q1 := hts (.constantLong RX6 49 (9218868437227405312)) (by decide +kernel)
  have hl := lv_entry ([.long a0, .int a1]) (n := 7) (Nat.le_of_ble_eq_true rfl)
  rw [lg_entry_eq]
  generalize (lg_sl ([.long a0, .int a1]) ++ List.replicate (7 - (lg_sl ([.long a0, .int a1])).length) Slot.unset).toArray = ls at hl ⊢
  have hl : lv_has ls 7 [(0, .long a0), (2, .int a1)] := hl
  unfold f_X6_scaled at hf
  refine lv_lload_n hx hb dX6_scaled_0 rfl (lv_at hl 0 rfl) ?_
  refine my_callPl (As := [.long a0]) (n := 1) (rest := []) ⟨hx, hb, hml, hown, hts⟩ (m_X6_size l a0 _ rfl) gX6_scaled_X6_size rfl ⟨rfl, rfl⟩ (by decide +kernel) ⟨Nat.le_of_ble_eq_true rfl, Nat.le_of_ble_eq_true rfl⟩ ⟨Nat.le_of_ble_eq_true rfl, Nat.le_of_ble_eq_true rfl⟩ hl.1 rfl rfl (Nat.le_of_ble_eq_true rfl) dX6_scaled_1 ?_
  refine lv_lstore_n (lv' := [(3, .long (f_X6_size a0)), (0, .long a0), (2, .int a1)]) hx hb dX6_scaled_4 rfl hl (by decide) rfl (fun ls hl => ?_)
  refine lv_lload_n hx hb dX6_scaled_5 rfl (lv_at hl 0 rfl) ?_
  refine lv_lconst (v := 0) hx hb dX6_scaled_6 (by decide) ?_
  refine my_lc_eq (tgt := 19) hx hb dX6_scaled_7 dX6_scaled_8 (by decide) (fun c1 => ?_) (fun c1 => ?_)
  · rw [if_pos c1] at hf
    refine lv_lload_n hx hb dX6_scaled_19 rfl (lv_at hl 1 rfl) ?_
    exact W.lret (v := a0) hx hb hr (fun t ht hW => ⟨_, rfl, Option.some.inj hf, ht⟩) (fun q hq => absurd hq List.not_mem_nil) dX6_scaled_20
  · rw [if_neg c1] at hf
    refine lv_lload_n hx hb dX6_scaled_11 rfl (lv_at hl 0 rfl) ?_
    refine lv_ldc2 (v := 9218868437227405312) hx hb hown q1 dX6_scaled_12 ?_
    refine my_lc_ne (tgt := 21) hx hb dX6_scaled_15 dX6_scaled_16 (by decide) (fun c2 => ?_) (fun c2 => ?_)
    · rw [if_neg c2] at hf
      refine lv_lload_n hx hb dX6_scaled_21 rfl (lv_at hl 0 rfl) ?_
      refine my_callPl (As := [.long (f_X6_size a0)]) (n := 1) (rest := []) ⟨hx, hb, hml, hown, hts⟩ (m_X6_whole l (f_X6_size a0) _ rfl) gX6_scaled_X6_whole rfl ⟨rfl, rfl⟩ (by decide +kernel) ⟨Nat.le_of_ble_eq_true rfl, Nat.le_of_ble_eq_true rfl⟩ ⟨Nat.le_of_ble_eq_true rfl, Nat.le_of_ble_eq_true rfl⟩ hl.1 rfl rfl (Nat.le_of_ble_eq_true rfl) dX6_scaled_22 ?_
      refine lv_lload_n hx hb dX6_scaled_25 rfl (lv_at hl 0 rfl) ?_
      refine my_callPi (As := [.long (f_X6_size a0)]) (n := 1) (rest := [.long (f_X6_whole (f_X6_size a0))]) ⟨hx, hb, hml, hown, hts⟩ (m_X6_shift l (f_X6_size a0) _ rfl) gX6_scaled_X6_shift rfl ⟨rfl, rfl⟩ (by decide +kernel) ⟨Nat.le_of_ble_eq_true rfl, Nat.le_of_ble_eq_true rfl⟩ ⟨Nat.le_of_ble_eq_true rfl, Nat.le_of_ble_eq_true rfl⟩ hl.1 rfl rfl (Nat.le_of_ble_eq_true rfl) dX6_scaled_26 ?_
      refine lv_iload_n hx hb dX6_scaled_29 rfl (lv_at hl 2 rfl) ?_
      refine lv_iadd hx hb dX6_scaled_30 ?_
      obtain ⟨r3, er3, hf⟩ := ob_e hf
      refine my_callPl (As := [.long (f_X6_whole (f_X6_size a0)), .int ((f_X6_shift (f_X6_size a0)) + a1)]) (n := 2) (rest := []) ⟨hx, hb, hml, hown, hts⟩ (m_X6_made l (f_X6_whole (f_X6_size a0)) ((f_X6_shift (f_X6_size a0)) + a1) _ er3) gX6_scaled_X6_made rfl ⟨rfl, rfl⟩ (by decide +kernel) ⟨Nat.le_of_ble_eq_true rfl, Nat.le_of_ble_eq_true rfl⟩ ⟨Nat.le_of_ble_eq_true rfl, Nat.le_of_ble_eq_true rfl⟩ hl.1 rfl rfl (Nat.le_of_ble_eq_true rfl) dX6_scaled_31 ?_
      refine lv_lstore (lv' := [(5, .long r3), (3, .long (f_X6_size a0)), (0, .long a0), (2, .int a1)]) hx hb dX6_scaled_34 hl (by decide) rfl (fun ls hl => ?_)
      refine lv_lload_n hx hb dX6_scaled_36 rfl (lv_at hl 2 rfl) ?_
      refine lv_lconst (v := 0) hx hb dX6_scaled_37 (by decide) ?_
      refine my_lc_lt (tgt := 47) hx hb dX6_scaled_38 dX6_scaled_39 (by decide) (fun c4 => ?_) (fun c4 => ?_)
      · rw [if_pos c4] at hf
        refine lv_lload hx hb dX6_scaled_47 (lv_at hl 0 rfl) ?_
        refine my_callPl (As := [.long r3]) (n := 1) (rest := []) ⟨hx, hb, hml, hown, hts⟩ (m_X6_opposite l r3 _ rfl) gX6_scaled_X6_opposite rfl ⟨rfl, rfl⟩ (by decide +kernel) ⟨Nat.le_of_ble_eq_true rfl, Nat.le_of_ble_eq_true rfl⟩ ⟨Nat.le_of_ble_eq_true rfl, Nat.le_of_ble_eq_true rfl⟩ hl.1 rfl rfl (Nat.le_of_ble_eq_true rfl) dX6_scaled_49 ?_
        exact W.lret (v := (f_X6_opposite r3)) hx hb hr (fun t ht hW => ⟨_, rfl, Option.some.inj hf, ht⟩) (fun q hq => absurd hq List.not_mem_nil) dX6_scaled_52
      · rw [if_neg c4] at hf
        refine lv_lload hx hb dX6_scaled_42 (lv_at hl 0 rfl) ?_
        refine lv_goto (tgt := 52) hx hb dX6_scaled_44 (by decide) ?_
        exact W.lret (v := r3) hx hb hr (fun t ht hW => ⟨_, rfl, Option.some.inj hf, ht⟩) (fun q hq => absurd hq List.not_mem_nil) dX6_scaled_52
    · rw [if_pos c2] at hf
      refine lv_lload_n hx hb dX6_scaled_19 rfl (lv_at hl 1 rfl) ?_
      exact W.lret (v := a0) hx hb hr (fun t ht hW => ⟨_, rfl, Option.some.inj hf, ht⟩) (fun q hq => absurd hq List.not_mem_nil) dX6_scaled_20

set_option maxHeartbeats 4000000 in
set_option maxRecDepth 100000 in
theorem m_X6_bits (l : Launch) (a0 : Int64) (res : Int32) (hf : f_X6_bits a0 = some res) : Met l yX6_bits wsX6_bits rmX6_bits (my_PcP [.long a0]) (vp_Si (fun z => z = res)) 0 0 (fun _ => False) := by
  refine Met.ofW (cc := cX6_bits) (maxL := 5) (ret := (some .int)) (by decide) rfl ?_
  intro p e s m args below meth c s₁ B hml hv
  obtain ⟨rfl, -⟩ := hv
  have hx := B.exec
  have hb := B.bytes
  have hr := B.returns
  have hts : ∀ w ∈ wsX6_bits, w.before ([.long a0] : List Value).toArray s = true := atoms_spec (ws := wsX6_bits) B.pre
  have hown : s.vm.findClass RX6 = some m.cls := findClass_of_methodNamed B.named
  have hlk : meth.locks = false := B.notSynchronized
  have q1 := hts (.constantLong RX6 68 (2)) (by decide +kernel)
  have hl := lv_entry ([.long a0]) (n := 5) (Nat.le_of_ble_eq_true rfl)
  rw [lg_entry_eq]
  generalize (lg_sl ([.long a0]) ++ List.replicate (5 - (lg_sl ([.long a0])).length) Slot.unset).toArray = ls at hl ⊢
  have hl : lv_has ls 5 [(0, .long a0)] := hl
  unfold f_X6_bits at hf
  refine lv_iconst (v := 0) hx hb dX6_bits_0 (by decide) ?_
  refine lv_istore_n (lv' := [(2, .int 0), (0, .long a0)]) hx hb dX6_bits_1 rfl hl (by decide) rfl (fun ls hl => ?_)
  refine lv_lload_n hx hb dX6_bits_2 rfl (lv_at hl 1 rfl) ?_
  refine lv_lstore_n (lv' := [(3, .long a0), (2, .int 0), (0, .long a0)]) hx hb dX6_bits_3 rfl hl (by decide) rfl (fun ls hl => ?_)
  have loop4 : ∀ (n4 : Nat) (v4_3 : Int64) (v4_2 : Int32) (ls : Array Slot), lv_has ls 5 [(3, .long v4_3), (2, .int v4_2)] → f_X6_bits_L4 a0 n4 v4_3 v4_2 = some res → W p l e (rmX6_bits) s m ([.long a0] : List Value).toArray below meth c s.heap [] 0 0 (MQ below (vp_Si (fun z => z = res)) ([.long a0] : List Value).toArray s 0 0 (fun _ => False)) (F0 m 4 ls []) := by
    intro n4
    induction n4 with
    | zero => intro v4_3 v4_2 ls hl hf; rw [f_X6_bits_L4] at hf; cases hf
    | succ n4 ih4 =>
      intro v4_3 v4_2 ls hl hf
      rw [f_X6_bits_L4] at hf
      refine lv_lload_n hx hb dX6_bits_4 rfl (lv_at hl 0 rfl) ?_
      refine lv_lconst (v := 0) hx hb dX6_bits_5 (by decide) ?_
      refine my_lc_le (tgt := 22) hx hb dX6_bits_6 dX6_bits_7 (by decide) (fun c1 => ?_) (fun c1 => ?_)
      · rw [if_neg c1] at hf
        refine lv_iload_n hx hb dX6_bits_22 rfl (lv_at hl 1 rfl) ?_
        exact W.iret (v := v4_2) hx hb hr (fun t ht hW => ⟨_, rfl, Option.some.inj hf, ht⟩) (fun q hq => absurd hq List.not_mem_nil) dX6_bits_23
      · rw [if_pos c1] at hf
        refine lv_iinc (v := (v4_2 + 1)) (lv' := [(2, .int (v4_2 + 1)), (3, .long v4_3)]) hx hb dX6_bits_10 hl (k := 1) rfl rfl (by decide) rfl (fun ls hl => ?_)
        refine lv_lload_n hx hb dX6_bits_13 rfl (lv_at hl 1 rfl) ?_
        refine lv_ldc2 (v := 2) hx hb hown q1 dX6_bits_14 ?_
        refine lv_ldiv hx hb dX6_bits_17 (by decide) ?_
        refine lv_lstore_n (lv' := [(3, .long (v4_3 / 2)), (2, .int (v4_2 + 1))]) hx hb dX6_bits_18 rfl hl (by decide) rfl (fun ls hl => ?_)
        refine lv_goto (tgt := 4) hx hb dX6_bits_19 (by decide) ?_
        exact ih4 (v4_3 / 2) (v4_2 + 1) _ (lv_sub hl [0, 1] rfl) hf
  exact loop4 100 a0 0 _ (lv_sub hl [0, 1] rfl) hf

set_option maxHeartbeats 4000000 in
set_option maxRecDepth 100000 in
theorem m_X6_leadOf (l : Launch) (a0 : Int64) (res : Int32) (hf : f_X6_leadOf a0 = some res) : Met l yX6_leadOf wsX6_leadOf rmX6_leadOf (my_PcP [.long a0]) (vp_Si (fun z => z = res)) 0 0 (fun _ => False) := by
  refine Met.ofW (cc := cX6_leadOf) (maxL := 2) (ret := (some .int)) (by decide) rfl ?_
  intro p e s m args below meth c s₁ B hml hv
  obtain ⟨rfl, -⟩ := hv
  have hx := B.exec
  have hb := B.bytes
  have hr := B.returns
  have hts : ∀ w ∈ wsX6_leadOf, w.before ([.long a0] : List Value).toArray s = true := atoms_spec (ws := wsX6_leadOf) B.pre
  have hown : s.vm.findClass RX6 = some m.cls := findClass_of_methodNamed B.named
  have hlk : meth.locks = false := B.notSynchronized
  have hl := lv_entry ([.long a0]) (n := 2) (Nat.le_of_ble_eq_true rfl)
  rw [lg_entry_eq]
  generalize (lg_sl ([.long a0]) ++ List.replicate (2 - (lg_sl ([.long a0])).length) Slot.unset).toArray = ls at hl ⊢
  have hl : lv_has ls 2 [(0, .long a0)] := hl
  unfold f_X6_leadOf at hf
  refine lv_lload_n hx hb dX6_leadOf_0 rfl (lv_at hl 0 rfl) ?_
  refine my_callPl (As := [.long a0]) (n := 1) (rest := []) ⟨hx, hb, hml, hown, hts⟩ (m_X6_whole l a0 _ rfl) gX6_leadOf_X6_whole rfl ⟨rfl, rfl⟩ (by decide +kernel) ⟨Nat.le_of_ble_eq_true rfl, Nat.le_of_ble_eq_true rfl⟩ ⟨Nat.le_of_ble_eq_true rfl, Nat.le_of_ble_eq_true rfl⟩ hl.1 rfl rfl (Nat.le_of_ble_eq_true rfl) dX6_leadOf_1 ?_
  obtain ⟨r1, er1, hf⟩ := ob_e hf
  refine my_callPi (As := [.long (f_X6_whole a0)]) (n := 1) (rest := []) ⟨hx, hb, hml, hown, hts⟩ (m_X6_bits l (f_X6_whole a0) _ er1) gX6_leadOf_X6_bits rfl ⟨rfl, rfl⟩ (by decide +kernel) ⟨Nat.le_of_ble_eq_true rfl, Nat.le_of_ble_eq_true rfl⟩ ⟨Nat.le_of_ble_eq_true rfl, Nat.le_of_ble_eq_true rfl⟩ hl.1 rfl rfl (Nat.le_of_ble_eq_true rfl) dX6_leadOf_4 ?_
  refine lv_iconst (v := 1) hx hb dX6_leadOf_7 (by decide) ?_
  refine lv_isub hx hb dX6_leadOf_8 ?_
  refine lv_lload_n hx hb dX6_leadOf_9 rfl (lv_at hl 0 rfl) ?_
  refine my_callPi (As := [.long a0]) (n := 1) (rest := [.int (r1 - 1)]) ⟨hx, hb, hml, hown, hts⟩ (m_X6_shift l a0 _ rfl) gX6_leadOf_X6_shift rfl ⟨rfl, rfl⟩ (by decide +kernel) ⟨Nat.le_of_ble_eq_true rfl, Nat.le_of_ble_eq_true rfl⟩ ⟨Nat.le_of_ble_eq_true rfl, Nat.le_of_ble_eq_true rfl⟩ hl.1 rfl rfl (Nat.le_of_ble_eq_true rfl) dX6_leadOf_10 ?_
  refine lv_iadd hx hb dX6_leadOf_13 ?_
  refine lv_sipush (v := 1074) hx hb dX6_leadOf_14 (by decide) ?_
  refine lv_isub hx hb dX6_leadOf_17 ?_
  exact W.iret (v := (((r1 - 1) + (f_X6_shift a0)) - 1074)) hx hb hr (fun t ht hW => ⟨_, rfl, Option.some.inj hf, ht⟩) (fun q hq => absurd hq List.not_mem_nil) dX6_leadOf_18

set_option maxHeartbeats 4000000 in
set_option maxRecDepth 100000 in
theorem m_X6_tailOf (l : Launch) (a0 : Int64) (res : Int32) (hf : f_X6_tailOf a0 = some res) : Met l yX6_tailOf wsX6_tailOf rmX6_tailOf (my_PcP [.long a0]) (vp_Si (fun z => z = res)) 0 0 (fun _ => False) := by
  refine Met.ofW (cc := cX6_tailOf) (maxL := 5) (ret := (some .int)) (by decide) rfl ?_
  intro p e s m args below meth c s₁ B hml hv
  obtain ⟨rfl, -⟩ := hv
  have hx := B.exec
  have hb := B.bytes
  have hr := B.returns
  have hts : ∀ w ∈ wsX6_tailOf, w.before ([.long a0] : List Value).toArray s = true := atoms_spec (ws := wsX6_tailOf) B.pre
  have hown : s.vm.findClass RX6 = some m.cls := findClass_of_methodNamed B.named
  have hlk : meth.locks = false := B.notSynchronized
  have q1 := hts (.constantLong RX6 68 (2)) (by decide +kernel)
  have hl := lv_entry ([.long a0]) (n := 5) (Nat.le_of_ble_eq_true rfl)
  rw [lg_entry_eq]
  generalize (lg_sl ([.long a0]) ++ List.replicate (5 - (lg_sl ([.long a0])).length) Slot.unset).toArray = ls at hl ⊢
  have hl : lv_has ls 5 [(0, .long a0)] := hl
  unfold f_X6_tailOf at hf
  refine lv_iconst (v := 0) hx hb dX6_tailOf_0 (by decide) ?_
  refine lv_istore_n (lv' := [(2, .int 0), (0, .long a0)]) hx hb dX6_tailOf_1 rfl hl (by decide) rfl (fun ls hl => ?_)
  refine lv_lload_n hx hb dX6_tailOf_2 rfl (lv_at hl 1 rfl) ?_
  refine my_callPl (As := [.long a0]) (n := 1) (rest := []) ⟨hx, hb, hml, hown, hts⟩ (m_X6_whole l a0 _ rfl) gX6_tailOf_X6_whole rfl ⟨rfl, rfl⟩ (by decide +kernel) ⟨Nat.le_of_ble_eq_true rfl, Nat.le_of_ble_eq_true rfl⟩ ⟨Nat.le_of_ble_eq_true rfl, Nat.le_of_ble_eq_true rfl⟩ hl.1 rfl rfl (Nat.le_of_ble_eq_true rfl) dX6_tailOf_3 ?_
  refine lv_lstore_n (lv' := [(3, .long (f_X6_whole a0)), (2, .int 0), (0, .long a0)]) hx hb dX6_tailOf_6 rfl hl (by decide) rfl (fun ls hl => ?_)
  have loop7 : ∀ (n7 : Nat) (v7_3 : Int64) (v7_2 : Int32) (ls : Array Slot), lv_has ls 5 [(3, .long v7_3), (2, .int v7_2), (0, .long a0)] → f_X6_tailOf_L7 a0 n7 v7_3 v7_2 = some res → W p l e (rmX6_tailOf) s m ([.long a0] : List Value).toArray below meth c s.heap [] 0 0 (MQ below (vp_Si (fun z => z = res)) ([.long a0] : List Value).toArray s 0 0 (fun _ => False)) (F0 m 7 ls []) := by
    intro n7
    induction n7 with
    | zero => intro v7_3 v7_2 ls hl hf; rw [f_X6_tailOf_L7] at hf; cases hf
    | succ n7 ih7 =>
      intro v7_3 v7_2 ls hl hf
      rw [f_X6_tailOf_L7] at hf
      refine lv_lload_n hx hb dX6_tailOf_7 rfl (lv_at hl 0 rfl) ?_
      refine lv_ldc2 (v := 2) hx hb hown q1 dX6_tailOf_8 ?_
      refine lv_lrem hx hb dX6_tailOf_11 (by decide) ?_
      refine lv_lconst (v := 0) hx hb dX6_tailOf_12 (by decide) ?_
      refine my_lc_ne (tgt := 29) hx hb dX6_tailOf_13 dX6_tailOf_14 (by decide) (fun c1 => ?_) (fun c1 => ?_)
      · rw [if_neg c1] at hf
        refine lv_iload_n hx hb dX6_tailOf_29 rfl (lv_at hl 1 rfl) ?_
        refine lv_lload_n hx hb dX6_tailOf_30 rfl (lv_at hl 2 rfl) ?_
        refine my_callPi (As := [.long a0]) (n := 1) (rest := [.int v7_2]) ⟨hx, hb, hml, hown, hts⟩ (m_X6_shift l a0 _ rfl) gX6_tailOf_X6_shift rfl ⟨rfl, rfl⟩ (by decide +kernel) ⟨Nat.le_of_ble_eq_true rfl, Nat.le_of_ble_eq_true rfl⟩ ⟨Nat.le_of_ble_eq_true rfl, Nat.le_of_ble_eq_true rfl⟩ hl.1 rfl rfl (Nat.le_of_ble_eq_true rfl) dX6_tailOf_31 ?_
        refine lv_iadd hx hb dX6_tailOf_34 ?_
        refine lv_sipush (v := 1074) hx hb dX6_tailOf_35 (by decide) ?_
        refine lv_isub hx hb dX6_tailOf_38 ?_
        exact W.iret (v := ((v7_2 + (f_X6_shift a0)) - 1074)) hx hb hr (fun t ht hW => ⟨_, rfl, Option.some.inj hf, ht⟩) (fun q hq => absurd hq List.not_mem_nil) dX6_tailOf_39
      · rw [if_pos c1] at hf
        refine lv_iinc (v := (v7_2 + 1)) (lv' := [(2, .int (v7_2 + 1)), (3, .long v7_3), (0, .long a0)]) hx hb dX6_tailOf_17 hl (k := 1) rfl rfl (by decide) rfl (fun ls hl => ?_)
        refine lv_lload_n hx hb dX6_tailOf_20 rfl (lv_at hl 1 rfl) ?_
        refine lv_ldc2 (v := 2) hx hb hown q1 dX6_tailOf_21 ?_
        refine lv_ldiv hx hb dX6_tailOf_24 (by decide) ?_
        refine lv_lstore_n (lv' := [(3, .long (v7_3 / 2)), (2, .int (v7_2 + 1)), (0, .long a0)]) hx hb dX6_tailOf_25 rfl hl (by decide) rfl (fun ls hl => ?_)
        refine lv_goto (tgt := 7) hx hb dX6_tailOf_26 (by decide) ?_
        exact ih7 (v7_3 / 2) (v7_2 + 1) _ (lv_sub hl [0, 1, 2] rfl) hf
  exact loop7 100 (f_X6_whole a0) 0 _ (lv_sub hl [0, 1, 2] rfl) hf

set_option maxHeartbeats 4000000 in
set_option maxRecDepth 100000 in
theorem m_X6_exponentOf (l : Launch) (a0 : Int64) (res : Int32) (hf : f_X6_exponentOf a0 = res) : Met l yX6_exponentOf wsX6_exponentOf rmX6_exponentOf (my_PcP [.long a0]) (vp_Si (fun z => z = res)) 0 0 (fun _ => False) := by
  refine Met.ofW (cc := cX6_exponentOf) (maxL := 2) (ret := (some .int)) (by decide) rfl ?_
  intro p e s m args below meth c s₁ B hml hv
  obtain ⟨rfl, -⟩ := hv
  have hx := B.exec
  have hb := B.bytes
  have hr := B.returns
  have hts : ∀ w ∈ wsX6_exponentOf, w.before ([.long a0] : List Value).toArray s = true := atoms_spec (ws := wsX6_exponentOf) B.pre
  have hown : s.vm.findClass RX6 = some m.cls := findClass_of_methodNamed B.named
  have hlk : meth.locks = false := B.notSynchronized
  have q1 := hts (.constantLong RX6 66 (4503599627370496)) (by decide +kernel)
  have hl := lv_entry ([.long a0]) (n := 2) (Nat.le_of_ble_eq_true rfl)
  rw [lg_entry_eq]
  generalize (lg_sl ([.long a0]) ++ List.replicate (2 - (lg_sl ([.long a0])).length) Slot.unset).toArray = ls at hl ⊢
  have hl : lv_has ls 2 [(0, .long a0)] := hl
  unfold f_X6_exponentOf at hf
  refine lv_lload_n hx hb dX6_exponentOf_0 rfl (lv_at hl 0 rfl) ?_
  refine my_callPl (As := [.long a0]) (n := 1) (rest := []) ⟨hx, hb, hml, hown, hts⟩ (m_X6_size l a0 _ rfl) gX6_exponentOf_X6_size rfl ⟨rfl, rfl⟩ (by decide +kernel) ⟨Nat.le_of_ble_eq_true rfl, Nat.le_of_ble_eq_true rfl⟩ ⟨Nat.le_of_ble_eq_true rfl, Nat.le_of_ble_eq_true rfl⟩ hl.1 rfl rfl (Nat.le_of_ble_eq_true rfl) dX6_exponentOf_1 ?_
  refine lv_ldc2 (v := 4503599627370496) hx hb hown q1 dX6_exponentOf_4 ?_
  refine lv_ldiv hx hb dX6_exponentOf_7 (by decide) ?_
  refine lv_l2i (v := (((f_X6_size a0) / 4503599627370496).toInt32)) hx hb dX6_exponentOf_8 rfl ?_
  refine lv_sipush (v := 1023) hx hb dX6_exponentOf_9 (by decide) ?_
  refine lv_isub hx hb dX6_exponentOf_12 ?_
  exact W.iret (v := ((((f_X6_size a0) / 4503599627370496).toInt32) - 1023)) hx hb hr (fun t ht hW => ⟨_, rfl, hf, ht⟩) (fun q hq => absurd hq List.not_mem_nil) dX6_exponentOf_13

set_option maxHeartbeats 4000000 in
set_option maxRecDepth 100000 in
theorem m_X6_unitOf (l : Launch) (a0 : Int64) (res : Int64) (hf : f_X6_unitOf a0 = some res) : Met l yX6_unitOf wsX6_unitOf rmX6_unitOf (my_PcP [.long a0]) (vp_Sl (fun z => z = res)) 0 0 (fun _ => False) := by
  refine Met.ofW (cc := cX6_unitOf) (maxL := 3) (ret := (some .long)) (by decide) rfl ?_
  intro p e s m args below meth c s₁ B hml hv
  obtain ⟨rfl, -⟩ := hv
  have hx := B.exec
  have hb := B.bytes
  have hr := B.returns
  have hts : ∀ w ∈ wsX6_unitOf, w.before ([.long a0] : List Value).toArray s = true := atoms_spec (ws := wsX6_unitOf) B.pre
  have hown : s.vm.findClass RX6 = some m.cls := findClass_of_methodNamed B.named
  have hlk : meth.locks = false := B.notSynchronized
  have q1 := hts (.constantLong RX6 49 (9218868437227405312)) (by decide +kernel)
  have hl := lv_entry ([.long a0]) (n := 3) (Nat.le_of_ble_eq_true rfl)
  rw [lg_entry_eq]
  generalize (lg_sl ([.long a0]) ++ List.replicate (3 - (lg_sl ([.long a0])).length) Slot.unset).toArray = ls at hl ⊢
  have hl : lv_has ls 3 [(0, .long a0)] := hl
  unfold f_X6_unitOf at hf
  refine lv_lload_n hx hb dX6_unitOf_0 rfl (lv_at hl 0 rfl) ?_
  refine my_callPi (As := [.long a0]) (n := 1) (rest := []) ⟨hx, hb, hml, hown, hts⟩ (m_X6_exponentOf l a0 _ rfl) gX6_unitOf_X6_exponentOf rfl ⟨rfl, rfl⟩ (by decide +kernel) ⟨Nat.le_of_ble_eq_true rfl, Nat.le_of_ble_eq_true rfl⟩ ⟨Nat.le_of_ble_eq_true rfl, Nat.le_of_ble_eq_true rfl⟩ hl.1 rfl rfl (Nat.le_of_ble_eq_true rfl) dX6_unitOf_1 ?_
  refine lv_istore_n (lv' := [(2, .int (f_X6_exponentOf a0)), (0, .long a0)]) hx hb dX6_unitOf_4 rfl hl (by decide) rfl (fun ls hl => ?_)
  refine lv_lload_n hx hb dX6_unitOf_5 rfl (lv_at hl 1 rfl) ?_
  refine my_callPi (As := [.long a0]) (n := 1) (rest := []) ⟨hx, hb, hml, hown, hts⟩ (m_X6_isEnd l a0 _ rfl) gX6_unitOf_X6_isEnd rfl ⟨rfl, rfl⟩ (by decide +kernel) ⟨Nat.le_of_ble_eq_true rfl, Nat.le_of_ble_eq_true rfl⟩ ⟨Nat.le_of_ble_eq_true rfl, Nat.le_of_ble_eq_true rfl⟩ hl.1 rfl rfl (Nat.le_of_ble_eq_true rfl) dX6_unitOf_6 ?_
  refine my_bz_eq (x := (f_X6_isEnd a0)) (tgt := 18) hx hb dX6_unitOf_9 (by decide) (fun c1 => ?_) (fun c1 => ?_)
  · rw [if_pos c1] at hf
    refine lv_lconst (v := 1) hx hb dX6_unitOf_18 (by decide) ?_
    refine lv_iload_n hx hb dX6_unitOf_19 rfl (lv_at hl 0 rfl) ?_
    refine lv_sipush (v := (-1022)) hx hb dX6_unitOf_20 (by decide) ?_
    refine my_ic_ge (tgt := 32) hx hb dX6_unitOf_23 (by decide) (fun c2 => ?_) (fun c2 => ?_)
    · rw [if_neg c2] at hf
      refine lv_iload_n hx hb dX6_unitOf_32 rfl (lv_at hl 0 rfl) ?_
      refine lv_sipush (v := 1022) hx hb dX6_unitOf_33 (by decide) ?_
      refine lv_iadd hx hb dX6_unitOf_36 ?_
      obtain ⟨r3, er3, hf⟩ := ob_e hf
      refine my_callPl (As := [.long 1, .int ((f_X6_exponentOf a0) + 1022)]) (n := 2) (rest := []) ⟨hx, hb, hml, hown, hts⟩ (m_X6_made l 1 ((f_X6_exponentOf a0) + 1022) _ er3) gX6_unitOf_X6_made rfl ⟨rfl, rfl⟩ (by decide +kernel) ⟨Nat.le_of_ble_eq_true rfl, Nat.le_of_ble_eq_true rfl⟩ ⟨Nat.le_of_ble_eq_true rfl, Nat.le_of_ble_eq_true rfl⟩ hl.1 rfl rfl (Nat.le_of_ble_eq_true rfl) dX6_unitOf_37 ?_
      exact W.lret (v := r3) hx hb hr (fun t ht hW => ⟨_, rfl, Option.some.inj hf, ht⟩) (fun q hq => absurd hq List.not_mem_nil) dX6_unitOf_40
    · rw [if_pos c2] at hf
      refine lv_sipush (v := (-1022)) hx hb dX6_unitOf_26 (by decide) ?_
      refine lv_goto (tgt := 33) hx hb dX6_unitOf_29 (by decide) ?_
      refine lv_sipush (v := 1022) hx hb dX6_unitOf_33 (by decide) ?_
      refine lv_iadd hx hb dX6_unitOf_36 ?_
      obtain ⟨r4, er4, hf⟩ := ob_e hf
      refine my_callPl (As := [.long 1, .int ((-1022) + 1022)]) (n := 2) (rest := []) ⟨hx, hb, hml, hown, hts⟩ (m_X6_made l 1 ((-1022) + 1022) _ er4) gX6_unitOf_X6_made rfl ⟨rfl, rfl⟩ (by decide +kernel) ⟨Nat.le_of_ble_eq_true rfl, Nat.le_of_ble_eq_true rfl⟩ ⟨Nat.le_of_ble_eq_true rfl, Nat.le_of_ble_eq_true rfl⟩ hl.1 rfl rfl (Nat.le_of_ble_eq_true rfl) dX6_unitOf_37 ?_
      exact W.lret (v := r4) hx hb hr (fun t ht hW => ⟨_, rfl, Option.some.inj hf, ht⟩) (fun q hq => absurd hq List.not_mem_nil) dX6_unitOf_40
  · rw [if_neg c1] at hf
    refine lv_ldc2 (v := 9218868437227405312) hx hb hown q1 dX6_unitOf_12 ?_
    refine lv_goto (tgt := 40) hx hb dX6_unitOf_15 (by decide) ?_
    exact W.lret (v := 9218868437227405312) hx hb hr (fun t ht hW => ⟨_, rfl, Option.some.inj hf, ht⟩) (fun q hq => absurd hq List.not_mem_nil) dX6_unitOf_40

set_option maxHeartbeats 4000000 in
set_option maxRecDepth 100000 in
theorem m_X6_bitsOf (l : Launch) (a0 : Int64) (res : Int64) (hf : f_X6_bitsOf a0 = res) : Met l yX6_bitsOf wsX6_bitsOf rmX6_bitsOf (my_PcP [.long a0]) (vp_Sl (fun z => z = res)) 0 0 (fun _ => False) := by
  refine Met.ofW (cc := cX6_bitsOf) (maxL := 2) (ret := (some .long)) (by decide) rfl ?_
  intro p e s m args below meth c s₁ B hml hv
  obtain ⟨rfl, -⟩ := hv
  have hx := B.exec
  have hb := B.bytes
  have hr := B.returns
  have hts : ∀ w ∈ wsX6_bitsOf, w.before ([.long a0] : List Value).toArray s = true := atoms_spec (ws := wsX6_bitsOf) B.pre
  have hown : s.vm.findClass RX6 = some m.cls := findClass_of_methodNamed B.named
  have hlk : meth.locks = false := B.notSynchronized
  have q1 := hts (.constantLong RX6 104 (-9223372036854775808)) (by decide +kernel)
  have hl := lv_entry ([.long a0]) (n := 2) (Nat.le_of_ble_eq_true rfl)
  rw [lg_entry_eq]
  generalize (lg_sl ([.long a0]) ++ List.replicate (2 - (lg_sl ([.long a0])).length) Slot.unset).toArray = ls at hl ⊢
  have hl : lv_has ls 2 [(0, .long a0)] := hl
  unfold f_X6_bitsOf at hf
  refine lv_lload_n hx hb dX6_bitsOf_0 rfl (lv_at hl 0 rfl) ?_
  refine lv_lconst (v := 0) hx hb dX6_bitsOf_1 (by decide) ?_
  refine my_lc_lt (tgt := 10) hx hb dX6_bitsOf_2 dX6_bitsOf_3 (by decide) (fun c1 => ?_) (fun c1 => ?_)
  · rw [if_pos c1] at hf
    refine lv_ldc2 (v := (-9223372036854775808)) hx hb hown q1 dX6_bitsOf_10 ?_
    refine lv_lload_n hx hb dX6_bitsOf_13 rfl (lv_at hl 0 rfl) ?_
    refine my_callPl (As := [.long a0]) (n := 1) (rest := [.long (-9223372036854775808)]) ⟨hx, hb, hml, hown, hts⟩ (m_X6_placeOf l a0 _ rfl) gX6_bitsOf_X6_placeOf rfl ⟨rfl, rfl⟩ (by decide +kernel) ⟨Nat.le_of_ble_eq_true rfl, Nat.le_of_ble_eq_true rfl⟩ ⟨Nat.le_of_ble_eq_true rfl, Nat.le_of_ble_eq_true rfl⟩ hl.1 rfl rfl (Nat.le_of_ble_eq_true rfl) dX6_bitsOf_14 ?_
    refine lv_lsub hx hb dX6_bitsOf_17 ?_
    exact W.lret (v := ((-9223372036854775808) - (f_X6_placeOf a0))) hx hb hr (fun t ht hW => ⟨_, rfl, hf, ht⟩) (fun q hq => absurd hq List.not_mem_nil) dX6_bitsOf_18
  · rw [if_neg c1] at hf
    refine lv_lload_n hx hb dX6_bitsOf_6 rfl (lv_at hl 0 rfl) ?_
    refine lv_goto (tgt := 18) hx hb dX6_bitsOf_7 (by decide) ?_
    exact W.lret (v := a0) hx hb hr (fun t ht hW => ⟨_, rfl, hf, ht⟩) (fun q hq => absurd hq List.not_mem_nil) dX6_bitsOf_18

set_option maxHeartbeats 4000000 in
set_option maxRecDepth 100000 in
theorem m_X6_isLittle (l : Launch) (a0 : Int64) (res : Bool) (hf : f_X6_isLittle a0 = res) : Met l yX6_isLittle wsX6_isLittle rmX6_isLittle (my_PcP [.long a0]) (vp_Si (fun z => z = b2i res)) 0 0 (fun _ => False) := by
  refine Met.ofW (cc := cX6_isLittle) (maxL := 2) (ret := (some .boolean)) (by decide) rfl ?_
  intro p e s m args below meth c s₁ B hml hv
  obtain ⟨rfl, -⟩ := hv
  have hx := B.exec
  have hb := B.bytes
  have hr := B.returns
  have hts : ∀ w ∈ wsX6_isLittle, w.before ([.long a0] : List Value).toArray s = true := atoms_spec (ws := wsX6_isLittle) B.pre
  have hown : s.vm.findClass RX6 = some m.cls := findClass_of_methodNamed B.named
  have hlk : meth.locks = false := B.notSynchronized
  have q1 := hts (.constantLong RX6 66 (4503599627370496)) (by decide +kernel)
  have hl := lv_entry ([.long a0]) (n := 2) (Nat.le_of_ble_eq_true rfl)
  rw [lg_entry_eq]
  generalize (lg_sl ([.long a0]) ++ List.replicate (2 - (lg_sl ([.long a0])).length) Slot.unset).toArray = ls at hl ⊢
  have hl : lv_has ls 2 [(0, .long a0)] := hl
  unfold f_X6_isLittle at hf
  refine lv_lload_n hx hb dX6_isLittle_0 rfl (lv_at hl 0 rfl) ?_
  refine my_callPl (As := [.long a0]) (n := 1) (rest := []) ⟨hx, hb, hml, hown, hts⟩ (m_X6_size l a0 _ rfl) gX6_isLittle_X6_size rfl ⟨rfl, rfl⟩ (by decide +kernel) ⟨Nat.le_of_ble_eq_true rfl, Nat.le_of_ble_eq_true rfl⟩ ⟨Nat.le_of_ble_eq_true rfl, Nat.le_of_ble_eq_true rfl⟩ hl.1 rfl rfl (Nat.le_of_ble_eq_true rfl) dX6_isLittle_1 ?_
  refine lv_ldc2 (v := 4503599627370496) hx hb hown q1 dX6_isLittle_4 ?_
  refine my_lc_ge (tgt := 15) hx hb dX6_isLittle_7 dX6_isLittle_8 (by decide) (fun c1 => ?_) (fun c1 => ?_)
  · rw [if_neg c1] at hf
    refine lv_iconst (v := 0) hx hb dX6_isLittle_15 (by decide) ?_
    exact W.zret (v := b2i false) (ty := .boolean) hx hb hr (b2i_nar _) (fun t ht hW => ⟨_, rfl, congrArg b2i (hf), ht⟩) (fun q hq => absurd hq List.not_mem_nil) dX6_isLittle_16
  · rw [if_pos c1] at hf
    refine lv_iconst (v := 1) hx hb dX6_isLittle_11 (by decide) ?_
    refine lv_goto (tgt := 16) hx hb dX6_isLittle_12 (by decide) ?_
    exact W.zret (v := b2i true) (ty := .boolean) hx hb hr (b2i_nar _) (fun t ht hW => ⟨_, rfl, congrArg b2i (hf), ht⟩) (fun q hq => absurd hq List.not_mem_nil) dX6_isLittle_16

set_option maxHeartbeats 4000000 in
set_option maxRecDepth 100000 in
theorem m_X6_rest (l : Launch) (a0 : Int64) (a1 : Int32) (res : Int64) (hf : f_X6_rest a0 a1 = some res) : Met l yX6_rest wsX6_rest rmX6_rest (my_PcP [.long a0, .int a1]) (vp_Sl (fun z => z = res)) 0 0 (fun _ => False) := by
  refine Met.ofW (cc := cX6_rest) (maxL := 6) (ret := (some .long)) (by decide) rfl ?_
  intro p e s m args below meth c s₁ B hml hv
  obtain ⟨rfl, -⟩ := hv
  have hx := B.exec
  have hb := B.bytes
  have hr := B.returns
  have hts : ∀ w ∈ wsX6_rest, w.before ([.long a0, .int a1] : List Value).toArray s = true := atoms_spec (ws := wsX6_rest) B.pre
  have hown : s.vm.findClass RX6 = some m.cls := findClass_of_methodNamed B.named
  have hlk : meth.locks = false := B.notSynchronized
  have hl := lv_entry ([.long a0, .int a1]) (n := 6) (Nat.le_of_ble_eq_true rfl)
  rw [lg_entry_eq]
  generalize (lg_sl ([.long a0, .int a1]) ++ List.replicate (6 - (lg_sl ([.long a0, .int a1])).length) Slot.unset).toArray = ls at hl ⊢
  have hl : lv_has ls 6 [(0, .long a0), (2, .int a1)] := hl
  unfold f_X6_rest at hf
  refine lv_lload_n hx hb dX6_rest_0 rfl (lv_at hl 0 rfl) ?_
  refine my_callPl (As := [.long a0]) (n := 1) (rest := []) ⟨hx, hb, hml, hown, hts⟩ (m_X6_size l a0 _ rfl) gX6_rest_X6_size rfl ⟨rfl, rfl⟩ (by decide +kernel) ⟨Nat.le_of_ble_eq_true rfl, Nat.le_of_ble_eq_true rfl⟩ ⟨Nat.le_of_ble_eq_true rfl, Nat.le_of_ble_eq_true rfl⟩ hl.1 rfl rfl (Nat.le_of_ble_eq_true rfl) dX6_rest_1 ?_
  refine my_callPl (As := [.long (f_X6_size a0)]) (n := 1) (rest := []) ⟨hx, hb, hml, hown, hts⟩ (m_X6_whole l (f_X6_size a0) _ rfl) gX6_rest_X6_whole rfl ⟨rfl, rfl⟩ (by decide +kernel) ⟨Nat.le_of_ble_eq_true rfl, Nat.le_of_ble_eq_true rfl⟩ ⟨Nat.le_of_ble_eq_true rfl, Nat.le_of_ble_eq_true rfl⟩ hl.1 rfl rfl (Nat.le_of_ble_eq_true rfl) dX6_rest_4 ?_
  refine lv_iload_n hx hb dX6_rest_7 rfl (lv_at hl 1 rfl) ?_
  refine lv_i2l (v := (a1.toInt64)) hx hb dX6_rest_8 rfl ?_
  obtain ⟨g1, hf⟩ := og_e hf
  refine lv_lrem hx hb dX6_rest_9 g1 ?_
  refine lv_lstore_n (lv' := [(3, .long ((f_X6_whole (f_X6_size a0)) - (f_X6_whole (f_X6_size a0)) / (a1.toInt64) * (a1.toInt64))), (0, .long a0), (2, .int a1)]) hx hb dX6_rest_10 rfl hl (by decide) rfl (fun ls hl => ?_)
  refine lv_lload_n hx hb dX6_rest_11 rfl (lv_at hl 1 rfl) ?_
  refine my_callPl (As := [.long a0]) (n := 1) (rest := []) ⟨hx, hb, hml, hown, hts⟩ (m_X6_size l a0 _ rfl) gX6_rest_X6_size rfl ⟨rfl, rfl⟩ (by decide +kernel) ⟨Nat.le_of_ble_eq_true rfl, Nat.le_of_ble_eq_true rfl⟩ ⟨Nat.le_of_ble_eq_true rfl, Nat.le_of_ble_eq_true rfl⟩ hl.1 rfl rfl (Nat.le_of_ble_eq_true rfl) dX6_rest_12 ?_
  refine my_callPi (As := [.long (f_X6_size a0)]) (n := 1) (rest := []) ⟨hx, hb, hml, hown, hts⟩ (m_X6_shift l (f_X6_size a0) _ rfl) gX6_rest_X6_shift rfl ⟨rfl, rfl⟩ (by decide +kernel) ⟨Nat.le_of_ble_eq_true rfl, Nat.le_of_ble_eq_true rfl⟩ ⟨Nat.le_of_ble_eq_true rfl, Nat.le_of_ble_eq_true rfl⟩ hl.1 rfl rfl (Nat.le_of_ble_eq_true rfl) dX6_rest_15 ?_
  refine lv_istore (lv' := [(5, .int (f_X6_shift (f_X6_size a0))), (3, .long ((f_X6_whole (f_X6_size a0)) - (f_X6_whole (f_X6_size a0)) / (a1.toInt64) * (a1.toInt64))), (0, .long a0), (2, .int a1)]) hx hb dX6_rest_18 hl (by decide) rfl (fun ls hl => ?_)
  have loop20 : ∀ (n20 : Nat) (v20_5 : Int32) (v20_3 : Int64) (ls : Array Slot), lv_has ls 6 [(5, .int v20_5), (3, .long v20_3), (2, .int a1)] → f_X6_rest_L20 a0 a1 n20 v20_5 v20_3 = some res → W p l e (rmX6_rest) s m ([.long a0, .int a1] : List Value).toArray below meth c s.heap [] 0 0 (MQ below (vp_Sl (fun z => z = res)) ([.long a0, .int a1] : List Value).toArray s 0 0 (fun _ => False)) (F0 m 20 ls []) := by
    intro n20
    induction n20 with
    | zero => intro v20_5 v20_3 ls hl hf; rw [f_X6_rest_L20] at hf; cases hf
    | succ n20 ih20 =>
      intro v20_5 v20_3 ls hl hf
      rw [f_X6_rest_L20] at hf
      refine lv_iload hx hb dX6_rest_20 (lv_at hl 0 rfl) ?_
      refine my_if_le (tgt := 38) hx hb dX6_rest_22 (by decide) (fun c2 => ?_) (fun c2 => ?_)
      · rw [if_neg c2] at hf
        refine lv_lload_n hx hb dX6_rest_38 rfl (lv_at hl 1 rfl) ?_
        exact W.lret (v := v20_3) hx hb hr (fun t ht hW => ⟨_, rfl, Option.some.inj hf, ht⟩) (fun q hq => absurd hq List.not_mem_nil) dX6_rest_39
      · rw [if_pos c2] at hf
        refine lv_lload_n hx hb dX6_rest_25 rfl (lv_at hl 1 rfl) ?_
        refine lv_lload_n hx hb dX6_rest_26 rfl (lv_at hl 1 rfl) ?_
        refine lv_ladd hx hb dX6_rest_27 ?_
        refine lv_iload_n hx hb dX6_rest_28 rfl (lv_at hl 2 rfl) ?_
        refine lv_i2l (v := (a1.toInt64)) hx hb dX6_rest_29 rfl ?_
        obtain ⟨g3, hf⟩ := og_e hf
        refine lv_lrem hx hb dX6_rest_30 g3 ?_
        refine lv_lstore_n (lv' := [(3, .long ((v20_3 + v20_3) - (v20_3 + v20_3) / (a1.toInt64) * (a1.toInt64))), (5, .int v20_5), (2, .int a1)]) hx hb dX6_rest_31 rfl hl (by decide) rfl (fun ls hl => ?_)
        refine lv_iinc (v := (v20_5 + (-1))) (lv' := [(5, .int (v20_5 + (-1))), (3, .long ((v20_3 + v20_3) - (v20_3 + v20_3) / (a1.toInt64) * (a1.toInt64))), (2, .int a1)]) hx hb dX6_rest_32 hl (k := 1) rfl rfl (by decide) rfl (fun ls hl => ?_)
        refine lv_goto (tgt := 20) hx hb dX6_rest_35 (by decide) ?_
        exact ih20 (v20_5 + (-1)) ((v20_3 + v20_3) - (v20_3 + v20_3) / (a1.toInt64) * (a1.toInt64)) _ (lv_sub hl [0, 1, 2] rfl) hf
  exact loop20 3000 (f_X6_shift (f_X6_size a0)) ((f_X6_whole (f_X6_size a0)) - (f_X6_whole (f_X6_size a0)) / (a1.toInt64) * (a1.toInt64)) _ (lv_sub hl [0, 1, 3] rfl) hf

set_option maxHeartbeats 4000000 in
set_option maxRecDepth 100000 in
theorem m_X6_restOf (l : Launch) (a0 : Int64) (a1 : Int32) (res : Int64) (hf : f_X6_restOf a0 a1 = some res) : Met l yX6_restOf wsX6_restOf rmX6_restOf (my_PcP [.long a0, .int a1]) (vp_Sl (fun z => z = res)) 0 0 (fun _ => False) := by
  refine Met.ofW (cc := cX6_restOf) (maxL := 3) (ret := (some .long)) (by decide) rfl ?_
  intro p e s m args below meth c s₁ B hml hv
  obtain ⟨rfl, -⟩ := hv
  have hx := B.exec
  have hb := B.bytes
  have hr := B.returns
  have hts : ∀ w ∈ wsX6_restOf, w.before ([.long a0, .int a1] : List Value).toArray s = true := atoms_spec (ws := wsX6_restOf) B.pre
  have hown : s.vm.findClass RX6 = some m.cls := findClass_of_methodNamed B.named
  have hlk : meth.locks = false := B.notSynchronized
  have hl := lv_entry ([.long a0, .int a1]) (n := 3) (Nat.le_of_ble_eq_true rfl)
  rw [lg_entry_eq]
  generalize (lg_sl ([.long a0, .int a1]) ++ List.replicate (3 - (lg_sl ([.long a0, .int a1])).length) Slot.unset).toArray = ls at hl ⊢
  have hl : lv_has ls 3 [(0, .long a0), (2, .int a1)] := hl
  unfold f_X6_restOf at hf
  refine lv_lload_n hx hb dX6_restOf_0 rfl (lv_at hl 0 rfl) ?_
  refine lv_lconst (v := 0) hx hb dX6_restOf_1 (by decide) ?_
  refine my_lc_lt (tgt := 14) hx hb dX6_restOf_2 dX6_restOf_3 (by decide) (fun c1 => ?_) (fun c1 => ?_)
  · rw [if_pos c1] at hf
    refine lv_iload_n hx hb dX6_restOf_14 rfl (lv_at hl 1 rfl) ?_
    refine lv_i2l (v := (a1.toInt64)) hx hb dX6_restOf_15 rfl ?_
    refine lv_lload_n hx hb dX6_restOf_16 rfl (lv_at hl 0 rfl) ?_
    refine lv_iload_n hx hb dX6_restOf_17 rfl (lv_at hl 1 rfl) ?_
    obtain ⟨r2, er2, hf⟩ := ob_e hf
    refine my_callPl (As := [.long a0, .int a1]) (n := 2) (rest := [.long (a1.toInt64)]) ⟨hx, hb, hml, hown, hts⟩ (m_X6_rest l a0 a1 _ er2) gX6_restOf_X6_rest rfl ⟨rfl, rfl⟩ (by decide +kernel) ⟨Nat.le_of_ble_eq_true rfl, Nat.le_of_ble_eq_true rfl⟩ ⟨Nat.le_of_ble_eq_true rfl, Nat.le_of_ble_eq_true rfl⟩ hl.1 rfl rfl (Nat.le_of_ble_eq_true rfl) dX6_restOf_18 ?_
    refine lv_lsub hx hb dX6_restOf_21 ?_
    refine lv_iload_n hx hb dX6_restOf_22 rfl (lv_at hl 1 rfl) ?_
    refine lv_i2l (v := (a1.toInt64)) hx hb dX6_restOf_23 rfl ?_
    obtain ⟨g3, hf⟩ := og_e hf
    refine lv_lrem hx hb dX6_restOf_24 g3 ?_
    exact W.lret (v := (((a1.toInt64) - r2) - ((a1.toInt64) - r2) / (a1.toInt64) * (a1.toInt64))) hx hb hr (fun t ht hW => ⟨_, rfl, Option.some.inj hf, ht⟩) (fun q hq => absurd hq List.not_mem_nil) dX6_restOf_25
  · rw [if_neg c1] at hf
    refine lv_lload_n hx hb dX6_restOf_6 rfl (lv_at hl 0 rfl) ?_
    refine lv_iload_n hx hb dX6_restOf_7 rfl (lv_at hl 1 rfl) ?_
    obtain ⟨r4, er4, hf⟩ := ob_e hf
    refine my_callPl (As := [.long a0, .int a1]) (n := 2) (rest := []) ⟨hx, hb, hml, hown, hts⟩ (m_X6_rest l a0 a1 _ er4) gX6_restOf_X6_rest rfl ⟨rfl, rfl⟩ (by decide +kernel) ⟨Nat.le_of_ble_eq_true rfl, Nat.le_of_ble_eq_true rfl⟩ ⟨Nat.le_of_ble_eq_true rfl, Nat.le_of_ble_eq_true rfl⟩ hl.1 rfl rfl (Nat.le_of_ble_eq_true rfl) dX6_restOf_8 ?_
    refine lv_goto (tgt := 25) hx hb dX6_restOf_11 (by decide) ?_
    exact W.lret (v := r4) hx hb hr (fun t ht hW => ⟨_, rfl, Option.some.inj hf, ht⟩) (fun q hq => absurd hq List.not_mem_nil) dX6_restOf_25

set_option maxHeartbeats 4000000 in
set_option maxRecDepth 100000 in
theorem m_X6_isWord (l : Launch) (a0 : Int32) (a1 : Int32) (res : Bool) (hf : f_X6_isWord a0 a1 = res) : Met l yX6_isWord wsX6_isWord rmX6_isWord (my_PcP [.int a0, .int a1]) (vp_Si (fun z => z = b2i res)) 0 0 (fun _ => False) := by
  refine Met.ofW (cc := cX6_isWord) (maxL := 2) (ret := (some .boolean)) (by decide) rfl ?_
  intro p e s m args below meth c s₁ B hml hv
  obtain ⟨rfl, -⟩ := hv
  have hx := B.exec
  have hb := B.bytes
  have hr := B.returns
  have hts : ∀ w ∈ wsX6_isWord, w.before ([.int a0, .int a1] : List Value).toArray s = true := atoms_spec (ws := wsX6_isWord) B.pre
  have hown : s.vm.findClass RX6 = some m.cls := findClass_of_methodNamed B.named
  have hlk : meth.locks = false := B.notSynchronized
  have hl := lv_entry ([.int a0, .int a1]) (n := 2) (Nat.le_of_ble_eq_true rfl)
  rw [lg_entry_eq]
  generalize (lg_sl ([.int a0, .int a1]) ++ List.replicate (2 - (lg_sl ([.int a0, .int a1])).length) Slot.unset).toArray = ls at hl ⊢
  have hl : lv_has ls 2 [(0, .int a0), (1, .int a1)] := hl
  unfold f_X6_isWord at hf
  refine lv_iload_n hx hb dX6_isWord_0 rfl (lv_at hl 0 rfl) ?_
  refine lv_bipush (v := 110) hx hb dX6_isWord_1 (by decide) ?_
  refine my_ic_ne (tgt := 18) hx hb dX6_isWord_3 (by decide) (fun c1 => ?_) (fun c1 => ?_)
  · rw [if_neg c1] at hf
    refine lv_iload_n hx hb dX6_isWord_18 rfl (lv_at hl 0 rfl) ?_
    refine lv_bipush (v := 120) hx hb dX6_isWord_19 (by decide) ?_
    refine my_ic_ne (tgt := 35) hx hb dX6_isWord_21 (by decide) (fun c2 => ?_) (fun c2 => ?_)
    · rw [if_neg c2] at hf
      refine lv_iload_n hx hb dX6_isWord_35 rfl (lv_at hl 0 rfl) ?_
      refine lv_bipush (v := 117) hx hb dX6_isWord_36 (by decide) ?_
      refine my_ic_eq (tgt := 47) hx hb dX6_isWord_38 (by decide) (fun c3 => ?_) (fun c3 => ?_)
      · rw [if_pos c3] at hf
        refine lv_iload_n hx hb dX6_isWord_47 rfl (lv_at hl 1 rfl) ?_
        refine lv_iconst (v := 0) hx hb dX6_isWord_48 (by decide) ?_
        refine lv_bipush (v := 15) hx hb dX6_isWord_49 (by decide) ?_
        refine my_callPi (As := [.int a1, .int 0, .int 15]) (n := 3) (rest := []) ⟨hx, hb, hml, hown, hts⟩ (m_X6_in l a1 0 15 _ rfl) gX6_isWord_X6_in rfl ⟨rfl, rfl⟩ (by decide +kernel) ⟨Nat.le_of_ble_eq_true rfl, Nat.le_of_ble_eq_true rfl⟩ ⟨Nat.le_of_ble_eq_true rfl, Nat.le_of_ble_eq_true rfl⟩ hl.1 rfl rfl (Nat.le_of_ble_eq_true rfl) dX6_isWord_51 ?_
        refine my_bz_eq (x := (f_X6_in a1 0 15)) (tgt := 61) hx hb dX6_isWord_54 (by decide) (fun c4 => ?_) (fun c4 => ?_)
        · rw [if_pos c4] at hf
          refine lv_iconst (v := 0) hx hb dX6_isWord_61 (by decide) ?_
          exact W.zret (v := b2i false) (ty := .boolean) hx hb hr (b2i_nar _) (fun t ht hW => ⟨_, rfl, congrArg b2i (hf), ht⟩) (fun q hq => absurd hq List.not_mem_nil) dX6_isWord_62
        · rw [if_neg c4] at hf
          refine lv_iconst (v := 1) hx hb dX6_isWord_57 (by decide) ?_
          refine lv_goto (tgt := 62) hx hb dX6_isWord_58 (by decide) ?_
          exact W.zret (v := b2i true) (ty := .boolean) hx hb hr (b2i_nar _) (fun t ht hW => ⟨_, rfl, congrArg b2i (hf), ht⟩) (fun q hq => absurd hq List.not_mem_nil) dX6_isWord_62
      · rw [if_neg c3] at hf
        refine lv_iload_n hx hb dX6_isWord_41 rfl (lv_at hl 0 rfl) ?_
        refine lv_bipush (v := 100) hx hb dX6_isWord_42 (by decide) ?_
        refine my_ic_ne (tgt := 61) hx hb dX6_isWord_44 (by decide) (fun c5 => ?_) (fun c5 => ?_)
        · rw [if_neg c5] at hf
          refine lv_iconst (v := 0) hx hb dX6_isWord_61 (by decide) ?_
          exact W.zret (v := b2i false) (ty := .boolean) hx hb hr (b2i_nar _) (fun t ht hW => ⟨_, rfl, congrArg b2i (hf), ht⟩) (fun q hq => absurd hq List.not_mem_nil) dX6_isWord_62
        · rw [if_pos c5] at hf
          refine lv_iload_n hx hb dX6_isWord_47 rfl (lv_at hl 1 rfl) ?_
          refine lv_iconst (v := 0) hx hb dX6_isWord_48 (by decide) ?_
          refine lv_bipush (v := 15) hx hb dX6_isWord_49 (by decide) ?_
          refine my_callPi (As := [.int a1, .int 0, .int 15]) (n := 3) (rest := []) ⟨hx, hb, hml, hown, hts⟩ (m_X6_in l a1 0 15 _ rfl) gX6_isWord_X6_in rfl ⟨rfl, rfl⟩ (by decide +kernel) ⟨Nat.le_of_ble_eq_true rfl, Nat.le_of_ble_eq_true rfl⟩ ⟨Nat.le_of_ble_eq_true rfl, Nat.le_of_ble_eq_true rfl⟩ hl.1 rfl rfl (Nat.le_of_ble_eq_true rfl) dX6_isWord_51 ?_
          refine my_bz_eq (x := (f_X6_in a1 0 15)) (tgt := 61) hx hb dX6_isWord_54 (by decide) (fun c6 => ?_) (fun c6 => ?_)
          · rw [if_pos c6] at hf
            refine lv_iconst (v := 0) hx hb dX6_isWord_61 (by decide) ?_
            exact W.zret (v := b2i false) (ty := .boolean) hx hb hr (b2i_nar _) (fun t ht hW => ⟨_, rfl, congrArg b2i (hf), ht⟩) (fun q hq => absurd hq List.not_mem_nil) dX6_isWord_62
          · rw [if_neg c6] at hf
            refine lv_iconst (v := 1) hx hb dX6_isWord_57 (by decide) ?_
            refine lv_goto (tgt := 62) hx hb dX6_isWord_58 (by decide) ?_
            exact W.zret (v := b2i true) (ty := .boolean) hx hb hr (b2i_nar _) (fun t ht hW => ⟨_, rfl, congrArg b2i (hf), ht⟩) (fun q hq => absurd hq List.not_mem_nil) dX6_isWord_62
    · rw [if_pos c2] at hf
      refine lv_iload_n hx hb dX6_isWord_24 rfl (lv_at hl 1 rfl) ?_
      refine lv_bipush (v := (-40)) hx hb dX6_isWord_25 (by decide) ?_
      refine lv_bipush (v := 40) hx hb dX6_isWord_27 (by decide) ?_
      refine my_callPi (As := [.int a1, .int (-40), .int 40]) (n := 3) (rest := []) ⟨hx, hb, hml, hown, hts⟩ (m_X6_in l a1 (-40) 40 _ rfl) gX6_isWord_X6_in rfl ⟨rfl, rfl⟩ (by decide +kernel) ⟨Nat.le_of_ble_eq_true rfl, Nat.le_of_ble_eq_true rfl⟩ ⟨Nat.le_of_ble_eq_true rfl, Nat.le_of_ble_eq_true rfl⟩ hl.1 rfl rfl (Nat.le_of_ble_eq_true rfl) dX6_isWord_29 ?_
      refine lv_goto (tgt := 62) hx hb dX6_isWord_32 (by decide) ?_
      exact W.zret (v := b2i (f_X6_in a1 (-40) 40)) (ty := .boolean) hx hb hr (b2i_nar _) (fun t ht hW => ⟨_, rfl, congrArg b2i (hf), ht⟩) (fun q hq => absurd hq List.not_mem_nil) dX6_isWord_62
  · rw [if_pos c1] at hf
    refine lv_iload_n hx hb dX6_isWord_6 rfl (lv_at hl 1 rfl) ?_
    refine my_if_ne (tgt := 14) hx hb dX6_isWord_7 (by decide) (fun c7 => ?_) (fun c7 => ?_)
    · rw [if_neg c7] at hf
      refine lv_iconst (v := 0) hx hb dX6_isWord_14 (by decide) ?_
      refine lv_goto (tgt := 62) hx hb dX6_isWord_15 (by decide) ?_
      exact W.zret (v := b2i false) (ty := .boolean) hx hb hr (b2i_nar _) (fun t ht hW => ⟨_, rfl, congrArg b2i (hf), ht⟩) (fun q hq => absurd hq List.not_mem_nil) dX6_isWord_62
    · rw [if_pos c7] at hf
      refine lv_iconst (v := 1) hx hb dX6_isWord_10 (by decide) ?_
      refine lv_goto (tgt := 62) hx hb dX6_isWord_11 (by decide) ?_
      exact W.zret (v := b2i true) (ty := .boolean) hx hb hr (b2i_nar _) (fun t ht hW => ⟨_, rfl, congrArg b2i (hf), ht⟩) (fun q hq => absurd hq List.not_mem_nil) dX6_isWord_62
