set_option maxHeartbeats 4000000 in
set_option maxRecDepth 100000 in
theorem m_X5_checkSlot (l : Launch) (hl0 : l.stackTraces = false) (sz : Nat) (a0 : Int32) (res : (String ⊕ Unit)) (hf : f_X5_checkSlot a0 = some res) : vx_Met l yX5_checkSlot wsX5_checkSlot rmX5_checkSlot (my_PcT sz [.int a0]) (va_Qv (fun (_ : Unit) => ∃ u, res = .inr u) (fun _ _ => True) (fun q : Nat => sz ≤ q)) (vx_X (fun _ : Unit => True) (fun E _ _ => res = .inl E) (fun q : Nat => sz ≤ q)) 1 6 (fun q : Nat => sz ≤ q) := by
  refine vx_ofW (cc := cX5_checkSlot) (maxL := 1) (ret := none) (by decide) rfl ?_
  intro p e s m args below meth c s₁ B hml ht hv
  obtain ⟨rfl, hsz, hXK⟩ := hv
  have hx := B.exec
  have hb := B.bytes
  have hr := B.returns
  have hts : ∀ w ∈ wsX5_checkSlot, w.before ([.int a0] : List Value).toArray s = true := atoms_spec (ws := wsX5_checkSlot) B.pre
  have hown : s.vm.findClass RX5 = some m.cls := findClass_of_methodNamed B.named
  have hlk : meth.locks = false := B.notSynchronized
  subst hsz
  have hS : va_S (fun q : Nat => s.heap.size ≤ q) s.heap s.heap [] := va_S.rf
  have q1 := hts (.classLink RX5 215 "java/lang/IndexOutOfBoundsException") (by decide +kernel)
  have q2 := hts (.initialized "java/lang/IndexOutOfBoundsException") (by decide +kernel)
  have q3 : ∀ w ∈ (vx_atS RX5 219 "java/lang/IndexOutOfBoundsException" ["java/lang/RuntimeException", "java/lang/Exception"]).filter goodWord, w.before ([.int a0] : List Value).toArray s = true := fun w h => hts w (List.mem_cons_of_mem _ (List.mem_append_right _ h))
  have hl := lv_entry ([.int a0]) (n := 1) (Nat.le_of_ble_eq_true rfl)
  rw [lg_entry_eq]
  generalize (lg_sl ([.int a0]) ++ List.replicate (1 - (lg_sl ([.int a0])).length) Slot.unset).toArray = ls at hl ⊢
  have hl : lv_has ls 1 [(0, .int a0)] := hl
  unfold f_X5_checkSlot at hf
  refine lv_iload_n hx hb dX5_checkSlot_0 rfl (lv_at hl 0 rfl) ?_
  refine my_if_lt (tgt := 10) hx hb dX5_checkSlot_1 (by decide) (fun c1 => ?_) (fun c1 => ?_)
  · rw [if_pos c1] at hf
    exact my_throwG (ik := 215) (is := 217) (ic := 219) (cls := "java/lang/IndexOutOfBoundsException") (text := "no such slot") hx hb hl0 hown q1 q2 q3 hXK rfl (by decide) (by decide) (by decide +kernel) (by decide +kernel) hS (hl.1.trans hml.symm) dX5_checkSlot_10 dX5_checkSlot_13 dX5_checkSlot_14 dX5_checkSlot_16 dX5_checkSlot_19 ht ⟨Nat.le_of_ble_eq_true rfl, Nat.le_of_ble_eq_true rfl, Nat.le_of_ble_eq_true rfl, Nat.le_of_ble_eq_true rfl⟩ hlk (Option.some.inj hf).symm (fun q h => h) (Nat.le_of_ble_eq_true rfl) (Nat.le_of_ble_eq_true rfl)
  · rw [if_neg c1] at hf
    refine lv_iload_n hx hb dX5_checkSlot_4 rfl (lv_at hl 0 rfl) ?_
    refine lv_bipush (v := 8) hx hb dX5_checkSlot_5 (by decide) ?_
    refine my_ic_lt (tgt := 20) hx hb dX5_checkSlot_7 (by decide) (fun c2 => ?_) (fun c2 => ?_)
    · rw [if_pos c2] at hf
      refine W.widen (k := 1) (n := 6) (Nat.le_of_ble_eq_true rfl) (Nat.le_of_ble_eq_true rfl) ?_
      exact vx_ret (W.vret hx hb hr (fun t ht hW => ⟨⟨(), rfl, ⟨(), (Option.some.inj hf).symm⟩, trivial⟩, hS.F ht⟩) hS.2.2 dX5_checkSlot_20)
    · rw [if_neg c2] at hf
      exact my_throwG (ik := 215) (is := 217) (ic := 219) (cls := "java/lang/IndexOutOfBoundsException") (text := "no such slot") hx hb hl0 hown q1 q2 q3 hXK rfl (by decide) (by decide) (by decide +kernel) (by decide +kernel) hS (hl.1.trans hml.symm) dX5_checkSlot_10 dX5_checkSlot_13 dX5_checkSlot_14 dX5_checkSlot_16 dX5_checkSlot_19 ht ⟨Nat.le_of_ble_eq_true rfl, Nat.le_of_ble_eq_true rfl, Nat.le_of_ble_eq_true rfl, Nat.le_of_ble_eq_true rfl⟩ hlk (Option.some.inj hf).symm (fun q h => h) (Nat.le_of_ble_eq_true rfl) (Nat.le_of_ble_eq_true rfl)

set_option maxHeartbeats 4000000 in
set_option maxRecDepth 100000 in
theorem m_X5_checkRange (l : Launch) (hl0 : l.stackTraces = false) (sz : Nat) (a0 : Int32) (a1 : Int32) (a2 : Int32) (res : (String ⊕ Unit)) (hf : f_X5_checkRange a0 a1 a2 = some res) : vx_Met l yX5_checkRange wsX5_checkRange rmX5_checkRange (my_PcT sz [.int a0, .int a1, .int a2]) (va_Qv (fun (_ : Unit) => ∃ u, res = .inr u) (fun _ _ => True) (fun q : Nat => sz ≤ q)) (vx_X (fun _ : Unit => True) (fun E _ _ => res = .inl E) (fun q : Nat => sz ≤ q)) 1 6 (fun q : Nat => sz ≤ q) := by
  refine vx_ofW (cc := cX5_checkRange) (maxL := 3) (ret := none) (by decide) rfl ?_
  intro p e s m args below meth c s₁ B hml ht hv
  obtain ⟨rfl, hsz, hXK⟩ := hv
  have hx := B.exec
  have hb := B.bytes
  have hr := B.returns
  have hts : ∀ w ∈ wsX5_checkRange, w.before ([.int a0, .int a1, .int a2] : List Value).toArray s = true := atoms_spec (ws := wsX5_checkRange) B.pre
  have hown : s.vm.findClass RX5 = some m.cls := findClass_of_methodNamed B.named
  have hlk : meth.locks = false := B.notSynchronized
  subst hsz
  have hS : va_S (fun q : Nat => s.heap.size ≤ q) s.heap s.heap [] := va_S.rf
  have q1 := hts (.classLink RX5 135 "java/lang/IllegalArgumentException") (by decide +kernel)
  have q2 := hts (.initialized "java/lang/IllegalArgumentException") (by decide +kernel)
  have q3 : ∀ w ∈ (vx_atS RX5 139 "java/lang/IllegalArgumentException" ["java/lang/RuntimeException", "java/lang/Exception"]).filter goodWord, w.before ([.int a0, .int a1, .int a2] : List Value).toArray s = true := fun w h => hts w (List.mem_cons_of_mem _ (List.mem_append_right _ h))
  have hl := lv_entry ([.int a0, .int a1, .int a2]) (n := 3) (Nat.le_of_ble_eq_true rfl)
  rw [lg_entry_eq]
  generalize (lg_sl ([.int a0, .int a1, .int a2]) ++ List.replicate (3 - (lg_sl ([.int a0, .int a1, .int a2])).length) Slot.unset).toArray = ls at hl ⊢
  have hl : lv_has ls 3 [(0, .int a0), (1, .int a1), (2, .int a2)] := hl
  unfold f_X5_checkRange at hf
  refine lv_iload_n hx hb dX5_checkRange_0 rfl (lv_at hl 0 rfl) ?_
  refine lv_iload_n hx hb dX5_checkRange_1 rfl (lv_at hl 1 rfl) ?_
  refine my_ic_lt (tgt := 10) hx hb dX5_checkRange_2 (by decide) (fun c1 => ?_) (fun c1 => ?_)
  · rw [if_pos c1] at hf
    exact my_throwG (ik := 135) (is := 220) (ic := 139) (cls := "java/lang/IllegalArgumentException") (text := "out of range") hx hb hl0 hown q1 q2 q3 hXK rfl (by decide) (by decide) (by decide +kernel) (by decide +kernel) hS (hl.1.trans hml.symm) dX5_checkRange_10 dX5_checkRange_13 dX5_checkRange_14 dX5_checkRange_16 dX5_checkRange_19 ht ⟨Nat.le_of_ble_eq_true rfl, Nat.le_of_ble_eq_true rfl, Nat.le_of_ble_eq_true rfl, Nat.le_of_ble_eq_true rfl⟩ hlk (Option.some.inj hf).symm (fun q h => h) (Nat.le_of_ble_eq_true rfl) (Nat.le_of_ble_eq_true rfl)
  · rw [if_neg c1] at hf
    refine lv_iload_n hx hb dX5_checkRange_5 rfl (lv_at hl 0 rfl) ?_
    refine lv_iload_n hx hb dX5_checkRange_6 rfl (lv_at hl 2 rfl) ?_
    refine my_ic_le (tgt := 20) hx hb dX5_checkRange_7 (by decide) (fun c2 => ?_) (fun c2 => ?_)
    · rw [if_neg c2] at hf
      refine W.widen (k := 1) (n := 6) (Nat.le_of_ble_eq_true rfl) (Nat.le_of_ble_eq_true rfl) ?_
      exact vx_ret (W.vret hx hb hr (fun t ht hW => ⟨⟨(), rfl, ⟨(), (Option.some.inj hf).symm⟩, trivial⟩, hS.F ht⟩) hS.2.2 dX5_checkRange_20)
    · rw [if_pos c2] at hf
      exact my_throwG (ik := 135) (is := 220) (ic := 139) (cls := "java/lang/IllegalArgumentException") (text := "out of range") hx hb hl0 hown q1 q2 q3 hXK rfl (by decide) (by decide) (by decide +kernel) (by decide +kernel) hS (hl.1.trans hml.symm) dX5_checkRange_10 dX5_checkRange_13 dX5_checkRange_14 dX5_checkRange_16 dX5_checkRange_19 ht ⟨Nat.le_of_ble_eq_true rfl, Nat.le_of_ble_eq_true rfl, Nat.le_of_ble_eq_true rfl, Nat.le_of_ble_eq_true rfl⟩ hlk (Option.some.inj hf).symm (fun q h => h) (Nat.le_of_ble_eq_true rfl) (Nat.le_of_ble_eq_true rfl)

set_option maxHeartbeats 4000000 in
set_option maxRecDepth 100000 in
theorem m_X5_checkHasPowers (l : Launch) (hl0 : l.stackTraces = false) (sz : Nat) (a0 : Int64) (res : (String ⊕ Unit)) (hf : f_X5_checkHasPowers a0 = some res) : vx_Met l yX5_checkHasPowers wsX5_checkHasPowers rmX5_checkHasPowers (my_PcT sz [.long a0]) (va_Qv (fun (_ : Unit) => ∃ u, res = .inr u) (fun _ _ => True) (fun q : Nat => sz ≤ q)) (vx_X (fun _ : Unit => True) (fun E _ _ => res = .inl E) (fun q : Nat => sz ≤ q)) 1 6 (fun q : Nat => sz ≤ q) := by
  refine vx_ofW (cc := cX5_checkHasPowers) (maxL := 2) (ret := none) (by decide) rfl ?_
  intro p e s m args below meth c s₁ B hml ht hv
  obtain ⟨rfl, hsz, hXK⟩ := hv
  have hx := B.exec
  have hb := B.bytes
  have hr := B.returns
  have hts : ∀ w ∈ wsX5_checkHasPowers, w.before ([.long a0] : List Value).toArray s = true := atoms_spec (ws := wsX5_checkHasPowers) B.pre
  have hown : s.vm.findClass RX5 = some m.cls := findClass_of_methodNamed B.named
  have hlk : meth.locks = false := B.notSynchronized
  subst hsz
  have hS : va_S (fun q : Nat => s.heap.size ≤ q) s.heap s.heap [] := va_S.rf
  have q1 := hts (.classLink RX5 225 "java/lang/ArithmeticException") (by decide +kernel)
  have q2 := hts (.initialized "java/lang/ArithmeticException") (by decide +kernel)
  have q3 : ∀ w ∈ (vx_atS RX5 229 "java/lang/ArithmeticException" ["java/lang/RuntimeException", "java/lang/Exception"]).filter goodWord, w.before ([.long a0] : List Value).toArray s = true := fun w h => hts w (List.mem_cons_of_mem _ (List.mem_append_right _ h))
  have hl := lv_entry ([.long a0]) (n := 2) (Nat.le_of_ble_eq_true rfl)
  rw [lg_entry_eq]
  generalize (lg_sl ([.long a0]) ++ List.replicate (2 - (lg_sl ([.long a0])).length) Slot.unset).toArray = ls at hl ⊢
  have hl : lv_has ls 2 [(0, .long a0)] := hl
  unfold f_X5_checkHasPowers at hf
  refine lv_lload_n hx hb dX5_checkHasPowers_0 rfl (lv_at hl 0 rfl) ?_
  refine my_callPi (As := [.long a0]) (n := 1) (rest := []) ⟨hx, hb, hml, hown, hts⟩ (m_X0_isZero l a0 _ rfl) gX5_checkHasPowers_X0_isZero rfl ⟨rfl, rfl⟩ (by decide +kernel) ⟨Nat.le_of_ble_eq_true rfl, Nat.le_of_ble_eq_true rfl⟩ ⟨Nat.le_of_ble_eq_true rfl, Nat.le_of_ble_eq_true rfl⟩ hl.1 rfl rfl (Nat.le_of_ble_eq_true rfl) dX5_checkHasPowers_1 ?_
  refine my_bz_ne (x := (f_X0_isZero a0)) (tgt := 14) hx hb dX5_checkHasPowers_4 (by decide) (fun c1 => ?_) (fun c1 => ?_)
  · rw [if_neg c1] at hf
    exact my_throwG (ik := 225) (is := 227) (ic := 229) (cls := "java/lang/ArithmeticException") (text := "no power of 2 leads it") hx hb hl0 hown q1 q2 q3 hXK rfl (by decide) (by decide) (by decide +kernel) (by decide +kernel) hS (hl.1.trans hml.symm) dX5_checkHasPowers_14 dX5_checkHasPowers_17 dX5_checkHasPowers_18 dX5_checkHasPowers_20 dX5_checkHasPowers_23 ht ⟨Nat.le_of_ble_eq_true rfl, Nat.le_of_ble_eq_true rfl, Nat.le_of_ble_eq_true rfl, Nat.le_of_ble_eq_true rfl⟩ hlk (Option.some.inj hf).symm (fun q h => h) (Nat.le_of_ble_eq_true rfl) (Nat.le_of_ble_eq_true rfl)
  · rw [if_pos c1] at hf
    refine lv_lload_n hx hb dX5_checkHasPowers_7 rfl (lv_at hl 0 rfl) ?_
    refine my_callPi (As := [.long a0]) (n := 1) (rest := []) ⟨hx, hb, hml, hown, hts⟩ (m_X0_hasNoEnd l a0 _ rfl) gX5_checkHasPowers_X0_hasNoEnd rfl ⟨rfl, rfl⟩ (by decide +kernel) ⟨Nat.le_of_ble_eq_true rfl, Nat.le_of_ble_eq_true rfl⟩ ⟨Nat.le_of_ble_eq_true rfl, Nat.le_of_ble_eq_true rfl⟩ hl.1 rfl rfl (Nat.le_of_ble_eq_true rfl) dX5_checkHasPowers_8 ?_
    refine my_bz_eq (x := (f_X0_hasNoEnd a0)) (tgt := 24) hx hb dX5_checkHasPowers_11 (by decide) (fun c2 => ?_) (fun c2 => ?_)
    · rw [if_pos c2] at hf
      refine W.widen (k := 1) (n := 6) (Nat.le_of_ble_eq_true rfl) (Nat.le_of_ble_eq_true rfl) ?_
      exact vx_ret (W.vret hx hb hr (fun t ht hW => ⟨⟨(), rfl, ⟨(), (Option.some.inj hf).symm⟩, trivial⟩, hS.F ht⟩) hS.2.2 dX5_checkHasPowers_24)
    · rw [if_neg c2] at hf
      exact my_throwG (ik := 225) (is := 227) (ic := 229) (cls := "java/lang/ArithmeticException") (text := "no power of 2 leads it") hx hb hl0 hown q1 q2 q3 hXK rfl (by decide) (by decide) (by decide +kernel) (by decide +kernel) hS (hl.1.trans hml.symm) dX5_checkHasPowers_14 dX5_checkHasPowers_17 dX5_checkHasPowers_18 dX5_checkHasPowers_20 dX5_checkHasPowers_23 ht ⟨Nat.le_of_ble_eq_true rfl, Nat.le_of_ble_eq_true rfl, Nat.le_of_ble_eq_true rfl, Nat.le_of_ble_eq_true rfl⟩ hlk (Option.some.inj hf).symm (fun q h => h) (Nat.le_of_ble_eq_true rfl) (Nat.le_of_ble_eq_true rfl)

set_option maxHeartbeats 4000000 in
set_option maxRecDepth 100000 in
theorem m_X5_checkHasEnd (l : Launch) (hl0 : l.stackTraces = false) (sz : Nat) (a0 : Int64) (res : (String ⊕ Unit)) (hf : f_X5_checkHasEnd a0 = some res) : vx_Met l yX5_checkHasEnd wsX5_checkHasEnd rmX5_checkHasEnd (my_PcT sz [.long a0]) (va_Qv (fun (_ : Unit) => ∃ u, res = .inr u) (fun _ _ => True) (fun q : Nat => sz ≤ q)) (vx_X (fun _ : Unit => True) (fun E _ _ => res = .inl E) (fun q : Nat => sz ≤ q)) 1 6 (fun q : Nat => sz ≤ q) := by
  refine vx_ofW (cc := cX5_checkHasEnd) (maxL := 2) (ret := none) (by decide) rfl ?_
  intro p e s m args below meth c s₁ B hml ht hv
  obtain ⟨rfl, hsz, hXK⟩ := hv
  have hx := B.exec
  have hb := B.bytes
  have hr := B.returns
  have hts : ∀ w ∈ wsX5_checkHasEnd, w.before ([.long a0] : List Value).toArray s = true := atoms_spec (ws := wsX5_checkHasEnd) B.pre
  have hown : s.vm.findClass RX5 = some m.cls := findClass_of_methodNamed B.named
  have hlk : meth.locks = false := B.notSynchronized
  subst hsz
  have hS : va_S (fun q : Nat => s.heap.size ≤ q) s.heap s.heap [] := va_S.rf
  have q1 := hts (.classLink RX5 146 "java/lang/IllegalStateException") (by decide +kernel)
  have q2 := hts (.initialized "java/lang/IllegalStateException") (by decide +kernel)
  have q3 : ∀ w ∈ (vx_atS RX5 150 "java/lang/IllegalStateException" ["java/lang/RuntimeException", "java/lang/Exception"]).filter goodWord, w.before ([.long a0] : List Value).toArray s = true := fun w h => hts w (List.mem_cons_of_mem _ (List.mem_append_right _ h))
  have hl := lv_entry ([.long a0]) (n := 2) (Nat.le_of_ble_eq_true rfl)
  rw [lg_entry_eq]
  generalize (lg_sl ([.long a0]) ++ List.replicate (2 - (lg_sl ([.long a0])).length) Slot.unset).toArray = ls at hl ⊢
  have hl : lv_has ls 2 [(0, .long a0)] := hl
  unfold f_X5_checkHasEnd at hf
  refine lv_lload_n hx hb dX5_checkHasEnd_0 rfl (lv_at hl 0 rfl) ?_
  refine my_callPi (As := [.long a0]) (n := 1) (rest := []) ⟨hx, hb, hml, hown, hts⟩ (m_X0_hasNoEnd l a0 _ rfl) gX5_checkHasEnd_X0_hasNoEnd rfl ⟨rfl, rfl⟩ (by decide +kernel) ⟨Nat.le_of_ble_eq_true rfl, Nat.le_of_ble_eq_true rfl⟩ ⟨Nat.le_of_ble_eq_true rfl, Nat.le_of_ble_eq_true rfl⟩ hl.1 rfl rfl (Nat.le_of_ble_eq_true rfl) dX5_checkHasEnd_1 ?_
  refine my_bz_eq (x := (f_X0_hasNoEnd a0)) (tgt := 17) hx hb dX5_checkHasEnd_4 (by decide) (fun c1 => ?_) (fun c1 => ?_)
  · rw [if_pos c1] at hf
    refine W.widen (k := 1) (n := 6) (Nat.le_of_ble_eq_true rfl) (Nat.le_of_ble_eq_true rfl) ?_
    exact vx_ret (W.vret hx hb hr (fun t ht hW => ⟨⟨(), rfl, ⟨(), (Option.some.inj hf).symm⟩, trivial⟩, hS.F ht⟩) hS.2.2 dX5_checkHasEnd_17)
  · rw [if_neg c1] at hf
    exact my_throwG (ik := 146) (is := 230) (ic := 150) (cls := "java/lang/IllegalStateException") (text := "endless") hx hb hl0 hown q1 q2 q3 hXK rfl (by decide) (by decide) (by decide +kernel) (by decide +kernel) hS (hl.1.trans hml.symm) dX5_checkHasEnd_7 dX5_checkHasEnd_10 dX5_checkHasEnd_11 dX5_checkHasEnd_13 dX5_checkHasEnd_16 ht ⟨Nat.le_of_ble_eq_true rfl, Nat.le_of_ble_eq_true rfl, Nat.le_of_ble_eq_true rfl, Nat.le_of_ble_eq_true rfl⟩ hlk (Option.some.inj hf).symm (fun q h => h) (Nat.le_of_ble_eq_true rfl) (Nat.le_of_ble_eq_true rfl)
