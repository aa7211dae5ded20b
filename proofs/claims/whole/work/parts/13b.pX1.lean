set_option maxHeartbeats 4000000 in
set_option maxRecDepth 100000 in
theorem m_X1_powerRest (l : Launch) (a0 : Int32) (a1 : Int32) (res : Int64) (hf : f_X1_powerRest a0 a1 = some res) : Met l yX1_powerRest wsX1_powerRest rmX1_powerRest (my_PcP [.int a0, .int a1]) (vp_Sl (fun z => z = res)) 0 0 (fun _ => False) := by
  refine Met.ofW (cc := cX1_powerRest) (maxL := 7) (ret := (some .long)) (by decide) rfl ?_
  intro p e s m args below meth c s₁ B hml hv
  obtain ⟨rfl, -⟩ := hv
  have hx := B.exec
  have hb := B.bytes
  have hr := B.returns
  have hts : ∀ w ∈ wsX1_powerRest, w.before ([.int a0, .int a1] : List Value).toArray s = true := atoms_spec (ws := wsX1_powerRest) B.pre
  have hown : s.vm.findClass RX1 = some m.cls := findClass_of_methodNamed B.named
  have hlk : meth.locks = false := B.notSynchronized
  have hl := lv_entry ([.int a0, .int a1]) (n := 7) (Nat.le_of_ble_eq_true rfl)
  rw [lg_entry_eq]
  generalize (lg_sl ([.int a0, .int a1]) ++ List.replicate (7 - (lg_sl ([.int a0, .int a1])).length) Slot.unset).toArray = ls at hl ⊢
  have hl : lv_has ls 7 [(0, .int a0), (1, .int a1)] := hl
  unfold f_X1_powerRest at hf
  refine lv_iconst (v := 1) hx hb dX1_powerRest_0 (by decide) ?_
  refine lv_iload_n hx hb dX1_powerRest_1 rfl (lv_at hl 1 rfl) ?_
  obtain ⟨g1, hf⟩ := og_e hf
  refine lv_irem hx hb dX1_powerRest_2 g1 ?_
  refine lv_i2l (v := (((1 - 1 / a1 * a1) : Int32).toInt64)) hx hb dX1_powerRest_3 rfl ?_
  refine lv_lstore_n (lv' := [(2, .long (((1 - 1 / a1 * a1) : Int32).toInt64)), (0, .int a0), (1, .int a1)]) hx hb dX1_powerRest_4 rfl hl (by decide) rfl (fun ls hl => ?_)
  refine lv_iconst (v := 2) hx hb dX1_powerRest_5 (by decide) ?_
  refine lv_iload_n hx hb dX1_powerRest_6 rfl (lv_at hl 2 rfl) ?_
  obtain ⟨g2, hf⟩ := og_e hf
  refine lv_irem hx hb dX1_powerRest_7 g2 ?_
  refine lv_i2l (v := (((2 - 2 / a1 * a1) : Int32).toInt64)) hx hb dX1_powerRest_8 rfl ?_
  refine lv_lstore (lv' := [(4, .long (((2 - 2 / a1 * a1) : Int32).toInt64)), (2, .long (((1 - 1 / a1 * a1) : Int32).toInt64)), (0, .int a0), (1, .int a1)]) hx hb dX1_powerRest_9 hl (by decide) rfl (fun ls hl => ?_)
  refine lv_iload_n hx hb dX1_powerRest_11 rfl (lv_at hl 2 rfl) ?_
  refine lv_istore (lv' := [(6, .int a0), (4, .long (((2 - 2 / a1 * a1) : Int32).toInt64)), (2, .long (((1 - 1 / a1 * a1) : Int32).toInt64)), (0, .int a0), (1, .int a1)]) hx hb dX1_powerRest_12 hl (by decide) rfl (fun ls hl => ?_)
  have loop14 : ∀ (n14 : Nat) (v14_6 : Int32) (v14_4 : Int64) (v14_2 : Int64) (ls : Array Slot), lv_has ls 7 [(6, .int v14_6), (4, .long v14_4), (2, .long v14_2), (1, .int a1)] → f_X1_powerRest_L14 a0 a1 n14 v14_6 v14_4 v14_2 = some res → W p l e (rmX1_powerRest) s m ([.int a0, .int a1] : List Value).toArray below meth c s.heap [] 0 0 (MQ below (vp_Sl (fun z => z = res)) ([.int a0, .int a1] : List Value).toArray s 0 0 (fun _ => False)) (F0 m 14 ls []) := by
    intro n14
    induction n14 with
    | zero => intro v14_6 v14_4 v14_2 ls hl hf; rw [f_X1_powerRest_L14] at hf; cases hf
    | succ n14 ih14 =>
      intro v14_6 v14_4 v14_2 ls hl hf
      rw [f_X1_powerRest_L14] at hf
      refine lv_iload hx hb dX1_powerRest_14 (lv_at hl 0 rfl) ?_
      refine my_if_le (tgt := 54) hx hb dX1_powerRest_16 (by decide) (fun c3 => ?_) (fun c3 => ?_)
      · rw [if_neg c3] at hf
        refine lv_lload_n hx hb dX1_powerRest_54 rfl (lv_at hl 2 rfl) ?_
        exact W.lret (v := v14_2) hx hb hr (fun t ht hW => ⟨_, rfl, Option.some.inj hf, ht⟩) (fun q hq => absurd hq List.not_mem_nil) dX1_powerRest_55
      · rw [if_pos c3] at hf
        refine lv_iload hx hb dX1_powerRest_19 (lv_at hl 0 rfl) ?_
        refine lv_iconst (v := 1) hx hb dX1_powerRest_21 (by decide) ?_
        refine lv_iand hx hb dX1_powerRest_22 ?_
        refine lv_iconst (v := 1) hx hb dX1_powerRest_23 (by decide) ?_
        refine my_ic_ne (tgt := 35) hx hb dX1_powerRest_24 (by decide) (fun c4 => ?_) (fun c4 => ?_)
        · rw [if_neg c4] at hf
          refine lv_lload hx hb dX1_powerRest_35 (lv_at hl 1 rfl) ?_
          refine lv_lload hx hb dX1_powerRest_37 (lv_at hl 1 rfl) ?_
          refine lv_lmul hx hb dX1_powerRest_39 ?_
          refine lv_iload_n hx hb dX1_powerRest_40 rfl (lv_at hl 3 rfl) ?_
          refine lv_i2l (v := (a1.toInt64)) hx hb dX1_powerRest_41 rfl ?_
          obtain ⟨g5, hf⟩ := og_e hf
          refine lv_lrem hx hb dX1_powerRest_42 g5 ?_
          refine lv_lstore (lv' := [(4, .long ((v14_4 * v14_4) - (v14_4 * v14_4) / (a1.toInt64) * (a1.toInt64))), (6, .int v14_6), (2, .long v14_2), (1, .int a1)]) hx hb dX1_powerRest_43 hl (by decide) rfl (fun ls hl => ?_)
          refine lv_iload hx hb dX1_powerRest_45 (lv_at hl 1 rfl) ?_
          refine lv_iconst (v := 1) hx hb dX1_powerRest_47 (by decide) ?_
          refine lv_ishr hx hb dX1_powerRest_48 ?_
          refine lv_istore (lv' := [(6, .int (v14_6 >>> (1 &&& 31))), (4, .long ((v14_4 * v14_4) - (v14_4 * v14_4) / (a1.toInt64) * (a1.toInt64))), (2, .long v14_2), (1, .int a1)]) hx hb dX1_powerRest_49 hl (by decide) rfl (fun ls hl => ?_)
          refine lv_goto (tgt := 14) hx hb dX1_powerRest_51 (by decide) ?_
          exact ih14 (v14_6 >>> (1 &&& 31)) ((v14_4 * v14_4) - (v14_4 * v14_4) / (a1.toInt64) * (a1.toInt64)) v14_2 _ (lv_sub hl [0, 1, 2, 3] rfl) hf
        · rw [if_pos c4] at hf
          refine lv_lload_n hx hb dX1_powerRest_27 rfl (lv_at hl 2 rfl) ?_
          refine lv_lload hx hb dX1_powerRest_28 (lv_at hl 1 rfl) ?_
          refine lv_lmul hx hb dX1_powerRest_30 ?_
          refine lv_iload_n hx hb dX1_powerRest_31 rfl (lv_at hl 3 rfl) ?_
          refine lv_i2l (v := (a1.toInt64)) hx hb dX1_powerRest_32 rfl ?_
          obtain ⟨g6, hf⟩ := og_e hf
          refine lv_lrem hx hb dX1_powerRest_33 g6 ?_
          refine lv_lstore_n (lv' := [(2, .long ((v14_2 * v14_4) - (v14_2 * v14_4) / (a1.toInt64) * (a1.toInt64))), (6, .int v14_6), (4, .long v14_4), (1, .int a1)]) hx hb dX1_powerRest_34 rfl hl (by decide) rfl (fun ls hl => ?_)
          refine lv_lload hx hb dX1_powerRest_35 (lv_at hl 2 rfl) ?_
          refine lv_lload hx hb dX1_powerRest_37 (lv_at hl 2 rfl) ?_
          refine lv_lmul hx hb dX1_powerRest_39 ?_
          refine lv_iload_n hx hb dX1_powerRest_40 rfl (lv_at hl 3 rfl) ?_
          refine lv_i2l (v := (a1.toInt64)) hx hb dX1_powerRest_41 rfl ?_
          obtain ⟨g7, hf⟩ := og_e hf
          refine lv_lrem hx hb dX1_powerRest_42 g7 ?_
          refine lv_lstore (lv' := [(4, .long ((v14_4 * v14_4) - (v14_4 * v14_4) / (a1.toInt64) * (a1.toInt64))), (2, .long ((v14_2 * v14_4) - (v14_2 * v14_4) / (a1.toInt64) * (a1.toInt64))), (6, .int v14_6), (1, .int a1)]) hx hb dX1_powerRest_43 hl (by decide) rfl (fun ls hl => ?_)
          refine lv_iload hx hb dX1_powerRest_45 (lv_at hl 2 rfl) ?_
          refine lv_iconst (v := 1) hx hb dX1_powerRest_47 (by decide) ?_
          refine lv_ishr hx hb dX1_powerRest_48 ?_
          refine lv_istore (lv' := [(6, .int (v14_6 >>> (1 &&& 31))), (4, .long ((v14_4 * v14_4) - (v14_4 * v14_4) / (a1.toInt64) * (a1.toInt64))), (2, .long ((v14_2 * v14_4) - (v14_2 * v14_4) / (a1.toInt64) * (a1.toInt64))), (1, .int a1)]) hx hb dX1_powerRest_49 hl (by decide) rfl (fun ls hl => ?_)
          refine lv_goto (tgt := 14) hx hb dX1_powerRest_51 (by decide) ?_
          exact ih14 (v14_6 >>> (1 &&& 31)) ((v14_4 * v14_4) - (v14_4 * v14_4) / (a1.toInt64) * (a1.toInt64)) ((v14_2 * v14_4) - (v14_2 * v14_4) / (a1.toInt64) * (a1.toInt64)) _ (lv_sub hl [0, 1, 2, 3] rfl) hf
  exact loop14 100 a0 (((2 - 2 / a1 * a1) : Int32).toInt64) (((1 - 1 / a1 * a1) : Int32).toInt64) _ (lv_sub hl [0, 1, 2, 4] rfl) hf

set_option maxHeartbeats 4000000 in
set_option maxRecDepth 100000 in
theorem m_X1_sizeRest (l : Launch) (a0 : Int64) (a1 : Int32) (res : Int32) (hf : f_X1_sizeRest a0 a1 = some res) : Met l yX1_sizeRest wsX1_sizeRest rmX1_sizeRest (my_PcP [.long a0, .int a1]) (vp_Si (fun z => z = res)) 0 0 (fun _ => False) := by
  refine Met.ofW (cc := cX1_sizeRest) (maxL := 5) (ret := (some .int)) (by decide) rfl ?_
  intro p e s m args below meth c s₁ B hml hv
  obtain ⟨rfl, -⟩ := hv
  have hx := B.exec
  have hb := B.bytes
  have hr := B.returns
  have hts : ∀ w ∈ wsX1_sizeRest, w.before ([.long a0, .int a1] : List Value).toArray s = true := atoms_spec (ws := wsX1_sizeRest) B.pre
  have hown : s.vm.findClass RX1 = some m.cls := findClass_of_methodNamed B.named
  have hlk : meth.locks = false := B.notSynchronized
  have hl := lv_entry ([.long a0, .int a1]) (n := 5) (Nat.le_of_ble_eq_true rfl)
  rw [lg_entry_eq]
  generalize (lg_sl ([.long a0, .int a1]) ++ List.replicate (5 - (lg_sl ([.long a0, .int a1])).length) Slot.unset).toArray = ls at hl ⊢
  have hl : lv_has ls 5 [(0, .long a0), (2, .int a1)] := hl
  unfold f_X1_sizeRest at hf
  refine lv_lload_n hx hb dX1_sizeRest_0 rfl (lv_at hl 0 rfl) ?_
  refine my_callPl (As := [.long a0]) (n := 1) (rest := []) ⟨hx, hb, hml, hown, hts⟩ (m_X0_whole l a0 _ rfl) gX1_sizeRest_X0_whole rfl ⟨rfl, rfl⟩ (by decide +kernel) ⟨Nat.le_of_ble_eq_true rfl, Nat.le_of_ble_eq_true rfl⟩ ⟨Nat.le_of_ble_eq_true rfl, Nat.le_of_ble_eq_true rfl⟩ hl.1 rfl rfl (Nat.le_of_ble_eq_true rfl) dX1_sizeRest_1 ?_
  refine lv_iload_n hx hb dX1_sizeRest_4 rfl (lv_at hl 1 rfl) ?_
  refine lv_i2l (v := (a1.toInt64)) hx hb dX1_sizeRest_5 rfl ?_
  obtain ⟨g1, hf⟩ := og_e hf
  refine lv_lrem hx hb dX1_sizeRest_6 g1 ?_
  refine lv_lload_n hx hb dX1_sizeRest_7 rfl (lv_at hl 0 rfl) ?_
  refine my_callPi (As := [.long a0]) (n := 1) (rest := [.long ((f_X0_whole a0) - (f_X0_whole a0) / (a1.toInt64) * (a1.toInt64))]) ⟨hx, hb, hml, hown, hts⟩ (m_X0_shift l a0 _ rfl) gX1_sizeRest_X0_shift rfl ⟨rfl, rfl⟩ (by decide +kernel) ⟨Nat.le_of_ble_eq_true rfl, Nat.le_of_ble_eq_true rfl⟩ ⟨Nat.le_of_ble_eq_true rfl, Nat.le_of_ble_eq_true rfl⟩ hl.1 rfl rfl (Nat.le_of_ble_eq_true rfl) dX1_sizeRest_8 ?_
  refine lv_iload_n hx hb dX1_sizeRest_11 rfl (lv_at hl 1 rfl) ?_
  obtain ⟨r2, er2, hf⟩ := ob_e hf
  refine my_callPl (As := [.int (f_X0_shift a0), .int a1]) (n := 2) (rest := [.long ((f_X0_whole a0) - (f_X0_whole a0) / (a1.toInt64) * (a1.toInt64))]) ⟨hx, hb, hml, hown, hts⟩ (m_X1_powerRest l (f_X0_shift a0) a1 _ er2) gX1_sizeRest_X1_powerRest rfl ⟨rfl, rfl⟩ (by decide +kernel) ⟨Nat.le_of_ble_eq_true rfl, Nat.le_of_ble_eq_true rfl⟩ ⟨Nat.le_of_ble_eq_true rfl, Nat.le_of_ble_eq_true rfl⟩ hl.1 rfl rfl (Nat.le_of_ble_eq_true rfl) dX1_sizeRest_12 ?_
  refine lv_lmul hx hb dX1_sizeRest_15 ?_
  refine lv_lstore_n (lv' := [(3, .long (((f_X0_whole a0) - (f_X0_whole a0) / (a1.toInt64) * (a1.toInt64)) * r2)), (0, .long a0), (2, .int a1)]) hx hb dX1_sizeRest_16 rfl hl (by decide) rfl (fun ls hl => ?_)
  refine lv_lload_n hx hb dX1_sizeRest_17 rfl (lv_at hl 0 rfl) ?_
  refine lv_iload_n hx hb dX1_sizeRest_18 rfl (lv_at hl 2 rfl) ?_
  refine lv_i2l (v := (a1.toInt64)) hx hb dX1_sizeRest_19 rfl ?_
  obtain ⟨g3, hf⟩ := og_e hf
  refine lv_lrem hx hb dX1_sizeRest_20 g3 ?_
  refine lv_l2i (v := (((((f_X0_whole a0) - (f_X0_whole a0) / (a1.toInt64) * (a1.toInt64)) * r2) - (((f_X0_whole a0) - (f_X0_whole a0) / (a1.toInt64) * (a1.toInt64)) * r2) / (a1.toInt64) * (a1.toInt64)).toInt32)) hx hb dX1_sizeRest_21 rfl ?_
  exact W.iret (v := (((((f_X0_whole a0) - (f_X0_whole a0) / (a1.toInt64) * (a1.toInt64)) * r2) - (((f_X0_whole a0) - (f_X0_whole a0) / (a1.toInt64) * (a1.toInt64)) * r2) / (a1.toInt64) * (a1.toInt64)).toInt32)) hx hb hr (fun t ht hW => ⟨_, rfl, Option.some.inj hf, ht⟩) (fun q hq => absurd hq List.not_mem_nil) dX1_sizeRest_22

set_option maxHeartbeats 4000000 in
set_option maxRecDepth 100000 in
theorem m_X1_signedRest (l : Launch) (a0 : Int64) (a1 : Int32) (res : Int32) (hf : f_X1_signedRest a0 a1 = some res) : Met l yX1_signedRest wsX1_signedRest rmX1_signedRest (my_PcP [.long a0, .int a1]) (vp_Si (fun z => z = res)) 0 0 (fun _ => False) := by
  refine Met.ofW (cc := cX1_signedRest) (maxL := 4) (ret := (some .int)) (by decide) rfl ?_
  intro p e s m args below meth c s₁ B hml hv
  obtain ⟨rfl, -⟩ := hv
  have hx := B.exec
  have hb := B.bytes
  have hr := B.returns
  have hts : ∀ w ∈ wsX1_signedRest, w.before ([.long a0, .int a1] : List Value).toArray s = true := atoms_spec (ws := wsX1_signedRest) B.pre
  have hown : s.vm.findClass RX1 = some m.cls := findClass_of_methodNamed B.named
  have hlk : meth.locks = false := B.notSynchronized
  have hl := lv_entry ([.long a0, .int a1]) (n := 4) (Nat.le_of_ble_eq_true rfl)
  rw [lg_entry_eq]
  generalize (lg_sl ([.long a0, .int a1]) ++ List.replicate (4 - (lg_sl ([.long a0, .int a1])).length) Slot.unset).toArray = ls at hl ⊢
  have hl : lv_has ls 4 [(0, .long a0), (2, .int a1)] := hl
  unfold f_X1_signedRest at hf
  refine lv_lload_n hx hb dX1_signedRest_0 rfl (lv_at hl 0 rfl) ?_
  refine lv_iload_n hx hb dX1_signedRest_1 rfl (lv_at hl 1 rfl) ?_
  obtain ⟨r1, er1, hf⟩ := ob_e hf
  refine my_callPi (As := [.long a0, .int a1]) (n := 2) (rest := []) ⟨hx, hb, hml, hown, hts⟩ (m_X1_sizeRest l a0 a1 _ er1) gX1_signedRest_X1_sizeRest rfl ⟨rfl, rfl⟩ (by decide +kernel) ⟨Nat.le_of_ble_eq_true rfl, Nat.le_of_ble_eq_true rfl⟩ ⟨Nat.le_of_ble_eq_true rfl, Nat.le_of_ble_eq_true rfl⟩ hl.1 rfl rfl (Nat.le_of_ble_eq_true rfl) dX1_signedRest_2 ?_
  refine lv_istore_n (lv' := [(3, .int r1), (0, .long a0), (2, .int a1)]) hx hb dX1_signedRest_5 rfl hl (by decide) rfl (fun ls hl => ?_)
  refine lv_lload_n hx hb dX1_signedRest_6 rfl (lv_at hl 1 rfl) ?_
  refine lv_lconst (v := 0) hx hb dX1_signedRest_7 (by decide) ?_
  refine my_lc_ge (tgt := 17) hx hb dX1_signedRest_8 dX1_signedRest_9 (by decide) (fun c2 => ?_) (fun c2 => ?_)
  · rw [if_neg c2] at hf
    refine lv_iload_n hx hb dX1_signedRest_17 rfl (lv_at hl 0 rfl) ?_
    exact W.iret (v := r1) hx hb hr (fun t ht hW => ⟨_, rfl, Option.some.inj hf, ht⟩) (fun q hq => absurd hq List.not_mem_nil) dX1_signedRest_18
  · rw [if_pos c2] at hf
    refine lv_iload_n hx hb dX1_signedRest_12 rfl (lv_at hl 0 rfl) ?_
    refine lv_ineg hx hb dX1_signedRest_13 ?_
    refine lv_goto (tgt := 18) hx hb dX1_signedRest_14 (by decide) ?_
    exact W.iret (v := (-r1)) hx hb hr (fun t ht hW => ⟨_, rfl, Option.some.inj hf, ht⟩) (fun q hq => absurd hq List.not_mem_nil) dX1_signedRest_18

set_option maxHeartbeats 4000000 in
set_option maxRecDepth 100000 in
theorem m_X1_gapRest (l : Launch) (a0 : Int64) (a1 : Int64) (a2 : Int32) (res : Int32) (hf : f_X1_gapRest a0 a1 a2 = some res) : Met l yX1_gapRest wsX1_gapRest rmX1_gapRest (my_PcP [.long a0, .long a1, .int a2]) (vp_Si (fun z => z = res)) 0 0 (fun _ => False) := by
  refine Met.ofW (cc := cX1_gapRest) (maxL := 6) (ret := (some .int)) (by decide) rfl ?_
  intro p e s m args below meth c s₁ B hml hv
  obtain ⟨rfl, -⟩ := hv
  have hx := B.exec
  have hb := B.bytes
  have hr := B.returns
  have hts : ∀ w ∈ wsX1_gapRest, w.before ([.long a0, .long a1, .int a2] : List Value).toArray s = true := atoms_spec (ws := wsX1_gapRest) B.pre
  have hown : s.vm.findClass RX1 = some m.cls := findClass_of_methodNamed B.named
  have hlk : meth.locks = false := B.notSynchronized
  have hl := lv_entry ([.long a0, .long a1, .int a2]) (n := 6) (Nat.le_of_ble_eq_true rfl)
  rw [lg_entry_eq]
  generalize (lg_sl ([.long a0, .long a1, .int a2]) ++ List.replicate (6 - (lg_sl ([.long a0, .long a1, .int a2])).length) Slot.unset).toArray = ls at hl ⊢
  have hl : lv_has ls 6 [(0, .long a0), (2, .long a1), (4, .int a2)] := hl
  unfold f_X1_gapRest at hf
  refine lv_lload_n hx hb dX1_gapRest_0 rfl (lv_at hl 0 rfl) ?_
  refine lv_iload hx hb dX1_gapRest_1 (lv_at hl 2 rfl) ?_
  obtain ⟨r1, er1, hf⟩ := ob_e hf
  refine my_callPi (As := [.long a0, .int a2]) (n := 2) (rest := []) ⟨hx, hb, hml, hown, hts⟩ (m_X1_signedRest l a0 a2 _ er1) gX1_gapRest_X1_signedRest rfl ⟨rfl, rfl⟩ (by decide +kernel) ⟨Nat.le_of_ble_eq_true rfl, Nat.le_of_ble_eq_true rfl⟩ ⟨Nat.le_of_ble_eq_true rfl, Nat.le_of_ble_eq_true rfl⟩ hl.1 rfl rfl (Nat.le_of_ble_eq_true rfl) dX1_gapRest_3 ?_
  refine lv_lload_n hx hb dX1_gapRest_6 rfl (lv_at hl 1 rfl) ?_
  refine lv_iload hx hb dX1_gapRest_7 (lv_at hl 2 rfl) ?_
  obtain ⟨r2, er2, hf⟩ := ob_e hf
  refine my_callPi (As := [.long a1, .int a2]) (n := 2) (rest := [.int r1]) ⟨hx, hb, hml, hown, hts⟩ (m_X1_signedRest l a1 a2 _ er2) gX1_gapRest_X1_signedRest rfl ⟨rfl, rfl⟩ (by decide +kernel) ⟨Nat.le_of_ble_eq_true rfl, Nat.le_of_ble_eq_true rfl⟩ ⟨Nat.le_of_ble_eq_true rfl, Nat.le_of_ble_eq_true rfl⟩ hl.1 rfl rfl (Nat.le_of_ble_eq_true rfl) dX1_gapRest_9 ?_
  refine lv_isub hx hb dX1_gapRest_12 ?_
  refine lv_istore (lv' := [(5, .int (r1 - r2)), (0, .long a0), (2, .long a1), (4, .int a2)]) hx hb dX1_gapRest_13 hl (by decide) rfl (fun ls hl => ?_)
  refine lv_lload_n hx hb dX1_gapRest_15 rfl (lv_at hl 1 rfl) ?_
  refine lv_lload_n hx hb dX1_gapRest_16 rfl (lv_at hl 2 rfl) ?_
  refine my_callPi (As := [.long a0, .long a1]) (n := 2) (rest := []) ⟨hx, hb, hml, hown, hts⟩ (m_X0_order l a0 a1 _ rfl) gX1_gapRest_X0_order rfl ⟨rfl, rfl⟩ (by decide +kernel) ⟨Nat.le_of_ble_eq_true rfl, Nat.le_of_ble_eq_true rfl⟩ ⟨Nat.le_of_ble_eq_true rfl, Nat.le_of_ble_eq_true rfl⟩ hl.1 rfl rfl (Nat.le_of_ble_eq_true rfl) dX1_gapRest_17 ?_
  refine my_if_ge (tgt := 29) hx hb dX1_gapRest_20 (by decide) (fun c3 => ?_) (fun c3 => ?_)
  · rw [if_neg c3] at hf
    refine lv_iload hx hb dX1_gapRest_29 (lv_at hl 0 rfl) ?_
    refine lv_iload hx hb dX1_gapRest_31 (lv_at hl 3 rfl) ?_
    obtain ⟨r4, er4, hf⟩ := ob_e hf
    refine my_callPi (As := [.int (r1 - r2), .int a2]) (n := 2) (rest := []) ⟨hx, hb, hml, hown, hts⟩ (m_J9_floorMod_7cf53 l (r1 - r2) a2 _ er4) gX1_gapRest_J9_floorMod_7cf53 rfl ⟨rfl, rfl⟩ (by decide +kernel) ⟨Nat.le_of_ble_eq_true rfl, Nat.le_of_ble_eq_true rfl⟩ ⟨Nat.le_of_ble_eq_true rfl, Nat.le_of_ble_eq_true rfl⟩ hl.1 rfl rfl (Nat.le_of_ble_eq_true rfl) dX1_gapRest_33 ?_
    exact W.iret (v := r4) hx hb hr (fun t ht hW => ⟨_, rfl, Option.some.inj hf, ht⟩) (fun q hq => absurd hq List.not_mem_nil) dX1_gapRest_36
  · rw [if_pos c3] at hf
    refine lv_iload hx hb dX1_gapRest_23 (lv_at hl 0 rfl) ?_
    refine lv_ineg hx hb dX1_gapRest_25 ?_
    refine lv_goto (tgt := 31) hx hb dX1_gapRest_26 (by decide) ?_
    refine lv_iload hx hb dX1_gapRest_31 (lv_at hl 3 rfl) ?_
    obtain ⟨r5, er5, hf⟩ := ob_e hf
    refine my_callPi (As := [.int (-(r1 - r2)), .int a2]) (n := 2) (rest := []) ⟨hx, hb, hml, hown, hts⟩ (m_J9_floorMod_7cf53 l (-(r1 - r2)) a2 _ er5) gX1_gapRest_J9_floorMod_7cf53 rfl ⟨rfl, rfl⟩ (by decide +kernel) ⟨Nat.le_of_ble_eq_true rfl, Nat.le_of_ble_eq_true rfl⟩ ⟨Nat.le_of_ble_eq_true rfl, Nat.le_of_ble_eq_true rfl⟩ hl.1 rfl rfl (Nat.le_of_ble_eq_true rfl) dX1_gapRest_33 ?_
    exact W.iret (v := r5) hx hb hr (fun t ht hW => ⟨_, rfl, Option.some.inj hf, ht⟩) (fun q hq => absurd hq List.not_mem_nil) dX1_gapRest_36

set_option maxHeartbeats 4000000 in
set_option maxRecDepth 100000 in
theorem m_X1_signedPart (l : Launch) (a0 : Int64) (a1 : Int32) (res : Int64) (hf : f_X1_signedPart a0 a1 = res) : Met l yX1_signedPart wsX1_signedPart rmX1_signedPart (my_PcP [.long a0, .int a1]) (vp_Sl (fun z => z = res)) 0 0 (fun _ => False) := by
  refine Met.ofW (cc := cX1_signedPart) (maxL := 6) (ret := (some .long)) (by decide) rfl ?_
  intro p e s m args below meth c s₁ B hml hv
  obtain ⟨rfl, -⟩ := hv
  have hx := B.exec
  have hb := B.bytes
  have hr := B.returns
  have hts : ∀ w ∈ wsX1_signedPart, w.before ([.long a0, .int a1] : List Value).toArray s = true := atoms_spec (ws := wsX1_signedPart) B.pre
  have hown : s.vm.findClass RX1 = some m.cls := findClass_of_methodNamed B.named
  have hlk : meth.locks = false := B.notSynchronized
  have q1 := hts (.constantLong RX1 51 (4294967295)) (by decide +kernel)
  have hl := lv_entry ([.long a0, .int a1]) (n := 6) (Nat.le_of_ble_eq_true rfl)
  rw [lg_entry_eq]
  generalize (lg_sl ([.long a0, .int a1]) ++ List.replicate (6 - (lg_sl ([.long a0, .int a1])).length) Slot.unset).toArray = ls at hl ⊢
  have hl : lv_has ls 6 [(0, .long a0), (2, .int a1)] := hl
  unfold f_X1_signedPart at hf
  refine lv_bipush (v := 32) hx hb dX1_signedPart_0 (by decide) ?_
  refine lv_iload_n hx hb dX1_signedPart_2 rfl (lv_at hl 1 rfl) ?_
  refine lv_imul hx hb dX1_signedPart_3 ?_
  refine lv_lload_n hx hb dX1_signedPart_4 rfl (lv_at hl 0 rfl) ?_
  refine my_callPi (As := [.long a0]) (n := 1) (rest := [.int (32 * a1)]) ⟨hx, hb, hml, hown, hts⟩ (m_X0_shift l a0 _ rfl) gX1_signedPart_X0_shift rfl ⟨rfl, rfl⟩ (by decide +kernel) ⟨Nat.le_of_ble_eq_true rfl, Nat.le_of_ble_eq_true rfl⟩ ⟨Nat.le_of_ble_eq_true rfl, Nat.le_of_ble_eq_true rfl⟩ hl.1 rfl rfl (Nat.le_of_ble_eq_true rfl) dX1_signedPart_5 ?_
  refine lv_isub hx hb dX1_signedPart_8 ?_
  refine lv_istore_n (lv' := [(3, .int ((32 * a1) - (f_X0_shift a0))), (0, .long a0), (2, .int a1)]) hx hb dX1_signedPart_9 rfl hl (by decide) rfl (fun ls hl => ?_)
  refine lv_lconst (v := 0) hx hb dX1_signedPart_10 (by decide) ?_
  refine lv_lstore (lv' := [(4, .long 0), (3, .int ((32 * a1) - (f_X0_shift a0))), (0, .long a0), (2, .int a1)]) hx hb dX1_signedPart_11 hl (by decide) rfl (fun ls hl => ?_)
  refine lv_iload_n hx hb dX1_signedPart_13 rfl (lv_at hl 1 rfl) ?_
  refine my_if_lt (tgt := 38) hx hb dX1_signedPart_14 (by decide) (fun c1 => ?_) (fun c1 => ?_)
  · rw [if_pos c1] at hf
    refine lv_iload_n hx hb dX1_signedPart_38 rfl (lv_at hl 1 rfl) ?_
    refine my_if_ge (tgt := 61) hx hb dX1_signedPart_39 (by decide) (fun c2 => ?_) (fun c2 => ?_)
    · rw [if_neg c2] at hf
      refine lv_lload_n hx hb dX1_signedPart_61 rfl (lv_at hl 2 rfl) ?_
      refine lv_lconst (v := 0) hx hb dX1_signedPart_62 (by decide) ?_
      refine my_lc_ge (tgt := 73) hx hb dX1_signedPart_63 dX1_signedPart_64 (by decide) (fun c3 => ?_) (fun c3 => ?_)
      · rw [if_neg c3] at hf
        refine lv_lload hx hb dX1_signedPart_73 (lv_at hl 0 rfl) ?_
        exact W.lret (v := 0) hx hb hr (fun t ht hW => ⟨_, rfl, hf, ht⟩) (fun q hq => absurd hq List.not_mem_nil) dX1_signedPart_75
      · rw [if_pos c3] at hf
        refine lv_lload hx hb dX1_signedPart_67 (lv_at hl 0 rfl) ?_
        refine lv_lneg hx hb dX1_signedPart_69 ?_
        refine lv_goto (tgt := 75) hx hb dX1_signedPart_70 (by decide) ?_
        exact W.lret (v := (-0)) hx hb hr (fun t ht hW => ⟨_, rfl, hf, ht⟩) (fun q hq => absurd hq List.not_mem_nil) dX1_signedPart_75
    · rw [if_pos c2] at hf
      refine lv_iload_n hx hb dX1_signedPart_42 rfl (lv_at hl 1 rfl) ?_
      refine lv_bipush (v := (-32)) hx hb dX1_signedPart_43 (by decide) ?_
      refine my_ic_le (tgt := 61) hx hb dX1_signedPart_45 (by decide) (fun c4 => ?_) (fun c4 => ?_)
      · rw [if_neg c4] at hf
        refine lv_lload_n hx hb dX1_signedPart_61 rfl (lv_at hl 2 rfl) ?_
        refine lv_lconst (v := 0) hx hb dX1_signedPart_62 (by decide) ?_
        refine my_lc_ge (tgt := 73) hx hb dX1_signedPart_63 dX1_signedPart_64 (by decide) (fun c5 => ?_) (fun c5 => ?_)
        · rw [if_neg c5] at hf
          refine lv_lload hx hb dX1_signedPart_73 (lv_at hl 0 rfl) ?_
          exact W.lret (v := 0) hx hb hr (fun t ht hW => ⟨_, rfl, hf, ht⟩) (fun q hq => absurd hq List.not_mem_nil) dX1_signedPart_75
        · rw [if_pos c5] at hf
          refine lv_lload hx hb dX1_signedPart_67 (lv_at hl 0 rfl) ?_
          refine lv_lneg hx hb dX1_signedPart_69 ?_
          refine lv_goto (tgt := 75) hx hb dX1_signedPart_70 (by decide) ?_
          exact W.lret (v := (-0)) hx hb hr (fun t ht hW => ⟨_, rfl, hf, ht⟩) (fun q hq => absurd hq List.not_mem_nil) dX1_signedPart_75
      · rw [if_pos c4] at hf
        refine lv_lload_n hx hb dX1_signedPart_48 rfl (lv_at hl 2 rfl) ?_
        refine my_callPl (As := [.long a0]) (n := 1) (rest := []) ⟨hx, hb, hml, hown, hts⟩ (m_X0_whole l a0 _ rfl) gX1_signedPart_X0_whole rfl ⟨rfl, rfl⟩ (by decide +kernel) ⟨Nat.le_of_ble_eq_true rfl, Nat.le_of_ble_eq_true rfl⟩ ⟨Nat.le_of_ble_eq_true rfl, Nat.le_of_ble_eq_true rfl⟩ hl.1 rfl rfl (Nat.le_of_ble_eq_true rfl) dX1_signedPart_49 ?_
        refine lv_iload_n hx hb dX1_signedPart_52 rfl (lv_at hl 1 rfl) ?_
        refine lv_ineg hx hb dX1_signedPart_53 ?_
        refine lv_lshl (v := (jshl (f_X0_whole a0) (-((32 * a1) - (f_X0_shift a0))))) hx hb dX1_signedPart_54 rfl ?_
        refine lv_ldc2 (v := 4294967295) hx hb hown q1 dX1_signedPart_55 ?_
        refine lv_land hx hb dX1_signedPart_58 ?_
        refine lv_lstore (lv' := [(4, .long ((jshl (f_X0_whole a0) (-((32 * a1) - (f_X0_shift a0)))) &&& 4294967295)), (3, .int ((32 * a1) - (f_X0_shift a0))), (0, .long a0), (2, .int a1)]) hx hb dX1_signedPart_59 hl (by decide) rfl (fun ls hl => ?_)
        refine lv_lload_n hx hb dX1_signedPart_61 rfl (lv_at hl 2 rfl) ?_
        refine lv_lconst (v := 0) hx hb dX1_signedPart_62 (by decide) ?_
        refine my_lc_ge (tgt := 73) hx hb dX1_signedPart_63 dX1_signedPart_64 (by decide) (fun c6 => ?_) (fun c6 => ?_)
        · rw [if_neg c6] at hf
          refine lv_lload hx hb dX1_signedPart_73 (lv_at hl 0 rfl) ?_
          exact W.lret (v := ((jshl (f_X0_whole a0) (-((32 * a1) - (f_X0_shift a0)))) &&& 4294967295)) hx hb hr (fun t ht hW => ⟨_, rfl, hf, ht⟩) (fun q hq => absurd hq List.not_mem_nil) dX1_signedPart_75
        · rw [if_pos c6] at hf
          refine lv_lload hx hb dX1_signedPart_67 (lv_at hl 0 rfl) ?_
          refine lv_lneg hx hb dX1_signedPart_69 ?_
          refine lv_goto (tgt := 75) hx hb dX1_signedPart_70 (by decide) ?_
          exact W.lret (v := (-((jshl (f_X0_whole a0) (-((32 * a1) - (f_X0_shift a0)))) &&& 4294967295))) hx hb hr (fun t ht hW => ⟨_, rfl, hf, ht⟩) (fun q hq => absurd hq List.not_mem_nil) dX1_signedPart_75
  · rw [if_neg c1] at hf
    refine lv_iload_n hx hb dX1_signedPart_17 rfl (lv_at hl 1 rfl) ?_
    refine lv_bipush (v := 64) hx hb dX1_signedPart_18 (by decide) ?_
    refine my_ic_ge (tgt := 38) hx hb dX1_signedPart_20 (by decide) (fun c7 => ?_) (fun c7 => ?_)
    · rw [if_neg c7] at hf
      refine lv_iload_n hx hb dX1_signedPart_38 rfl (lv_at hl 1 rfl) ?_
      refine my_if_ge (tgt := 61) hx hb dX1_signedPart_39 (by decide) (fun c8 => ?_) (fun c8 => ?_)
      · rw [if_neg c8] at hf
        refine lv_lload_n hx hb dX1_signedPart_61 rfl (lv_at hl 2 rfl) ?_
        refine lv_lconst (v := 0) hx hb dX1_signedPart_62 (by decide) ?_
        refine my_lc_ge (tgt := 73) hx hb dX1_signedPart_63 dX1_signedPart_64 (by decide) (fun c9 => ?_) (fun c9 => ?_)
        · rw [if_neg c9] at hf
          refine lv_lload hx hb dX1_signedPart_73 (lv_at hl 0 rfl) ?_
          exact W.lret (v := 0) hx hb hr (fun t ht hW => ⟨_, rfl, hf, ht⟩) (fun q hq => absurd hq List.not_mem_nil) dX1_signedPart_75
        · rw [if_pos c9] at hf
          refine lv_lload hx hb dX1_signedPart_67 (lv_at hl 0 rfl) ?_
          refine lv_lneg hx hb dX1_signedPart_69 ?_
          refine lv_goto (tgt := 75) hx hb dX1_signedPart_70 (by decide) ?_
          exact W.lret (v := (-0)) hx hb hr (fun t ht hW => ⟨_, rfl, hf, ht⟩) (fun q hq => absurd hq List.not_mem_nil) dX1_signedPart_75
      · rw [if_pos c8] at hf
        refine lv_iload_n hx hb dX1_signedPart_42 rfl (lv_at hl 1 rfl) ?_
        refine lv_bipush (v := (-32)) hx hb dX1_signedPart_43 (by decide) ?_
        refine my_ic_le (tgt := 61) hx hb dX1_signedPart_45 (by decide) (fun c10 => ?_) (fun c10 => ?_)
        · rw [if_neg c10] at hf
          refine lv_lload_n hx hb dX1_signedPart_61 rfl (lv_at hl 2 rfl) ?_
          refine lv_lconst (v := 0) hx hb dX1_signedPart_62 (by decide) ?_
          refine my_lc_ge (tgt := 73) hx hb dX1_signedPart_63 dX1_signedPart_64 (by decide) (fun c11 => ?_) (fun c11 => ?_)
          · rw [if_neg c11] at hf
            refine lv_lload hx hb dX1_signedPart_73 (lv_at hl 0 rfl) ?_
            exact W.lret (v := 0) hx hb hr (fun t ht hW => ⟨_, rfl, hf, ht⟩) (fun q hq => absurd hq List.not_mem_nil) dX1_signedPart_75
          · rw [if_pos c11] at hf
            refine lv_lload hx hb dX1_signedPart_67 (lv_at hl 0 rfl) ?_
            refine lv_lneg hx hb dX1_signedPart_69 ?_
            refine lv_goto (tgt := 75) hx hb dX1_signedPart_70 (by decide) ?_
            exact W.lret (v := (-0)) hx hb hr (fun t ht hW => ⟨_, rfl, hf, ht⟩) (fun q hq => absurd hq List.not_mem_nil) dX1_signedPart_75
        · rw [if_pos c10] at hf
          refine lv_lload_n hx hb dX1_signedPart_48 rfl (lv_at hl 2 rfl) ?_
          refine my_callPl (As := [.long a0]) (n := 1) (rest := []) ⟨hx, hb, hml, hown, hts⟩ (m_X0_whole l a0 _ rfl) gX1_signedPart_X0_whole rfl ⟨rfl, rfl⟩ (by decide +kernel) ⟨Nat.le_of_ble_eq_true rfl, Nat.le_of_ble_eq_true rfl⟩ ⟨Nat.le_of_ble_eq_true rfl, Nat.le_of_ble_eq_true rfl⟩ hl.1 rfl rfl (Nat.le_of_ble_eq_true rfl) dX1_signedPart_49 ?_
          refine lv_iload_n hx hb dX1_signedPart_52 rfl (lv_at hl 1 rfl) ?_
          refine lv_ineg hx hb dX1_signedPart_53 ?_
          refine lv_lshl (v := (jshl (f_X0_whole a0) (-((32 * a1) - (f_X0_shift a0))))) hx hb dX1_signedPart_54 rfl ?_
          refine lv_ldc2 (v := 4294967295) hx hb hown q1 dX1_signedPart_55 ?_
          refine lv_land hx hb dX1_signedPart_58 ?_
          refine lv_lstore (lv' := [(4, .long ((jshl (f_X0_whole a0) (-((32 * a1) - (f_X0_shift a0)))) &&& 4294967295)), (3, .int ((32 * a1) - (f_X0_shift a0))), (0, .long a0), (2, .int a1)]) hx hb dX1_signedPart_59 hl (by decide) rfl (fun ls hl => ?_)
          refine lv_lload_n hx hb dX1_signedPart_61 rfl (lv_at hl 2 rfl) ?_
          refine lv_lconst (v := 0) hx hb dX1_signedPart_62 (by decide) ?_
          refine my_lc_ge (tgt := 73) hx hb dX1_signedPart_63 dX1_signedPart_64 (by decide) (fun c12 => ?_) (fun c12 => ?_)
          · rw [if_neg c12] at hf
            refine lv_lload hx hb dX1_signedPart_73 (lv_at hl 0 rfl) ?_
            exact W.lret (v := ((jshl (f_X0_whole a0) (-((32 * a1) - (f_X0_shift a0)))) &&& 4294967295)) hx hb hr (fun t ht hW => ⟨_, rfl, hf, ht⟩) (fun q hq => absurd hq List.not_mem_nil) dX1_signedPart_75
          · rw [if_pos c12] at hf
            refine lv_lload hx hb dX1_signedPart_67 (lv_at hl 0 rfl) ?_
            refine lv_lneg hx hb dX1_signedPart_69 ?_
            refine lv_goto (tgt := 75) hx hb dX1_signedPart_70 (by decide) ?_
            exact W.lret (v := (-((jshl (f_X0_whole a0) (-((32 * a1) - (f_X0_shift a0)))) &&& 4294967295))) hx hb hr (fun t ht hW => ⟨_, rfl, hf, ht⟩) (fun q hq => absurd hq List.not_mem_nil) dX1_signedPart_75
    · rw [if_pos c7] at hf
      refine lv_lload_n hx hb dX1_signedPart_23 rfl (lv_at hl 2 rfl) ?_
      refine my_callPl (As := [.long a0]) (n := 1) (rest := []) ⟨hx, hb, hml, hown, hts⟩ (m_X0_whole l a0 _ rfl) gX1_signedPart_X0_whole rfl ⟨rfl, rfl⟩ (by decide +kernel) ⟨Nat.le_of_ble_eq_true rfl, Nat.le_of_ble_eq_true rfl⟩ ⟨Nat.le_of_ble_eq_true rfl, Nat.le_of_ble_eq_true rfl⟩ hl.1 rfl rfl (Nat.le_of_ble_eq_true rfl) dX1_signedPart_24 ?_
      refine lv_iload_n hx hb dX1_signedPart_27 rfl (lv_at hl 1 rfl) ?_
      refine lv_lshr (v := (jshr (f_X0_whole a0) ((32 * a1) - (f_X0_shift a0)))) hx hb dX1_signedPart_28 rfl ?_
      refine lv_ldc2 (v := 4294967295) hx hb hown q1 dX1_signedPart_29 ?_
      refine lv_land hx hb dX1_signedPart_32 ?_
      refine lv_lstore (lv' := [(4, .long ((jshr (f_X0_whole a0) ((32 * a1) - (f_X0_shift a0))) &&& 4294967295)), (3, .int ((32 * a1) - (f_X0_shift a0))), (0, .long a0), (2, .int a1)]) hx hb dX1_signedPart_33 hl (by decide) rfl (fun ls hl => ?_)
      refine lv_goto (tgt := 61) hx hb dX1_signedPart_35 (by decide) ?_
      refine lv_lload_n hx hb dX1_signedPart_61 rfl (lv_at hl 2 rfl) ?_
      refine lv_lconst (v := 0) hx hb dX1_signedPart_62 (by decide) ?_
      refine my_lc_ge (tgt := 73) hx hb dX1_signedPart_63 dX1_signedPart_64 (by decide) (fun c13 => ?_) (fun c13 => ?_)
      · rw [if_neg c13] at hf
        refine lv_lload hx hb dX1_signedPart_73 (lv_at hl 0 rfl) ?_
        exact W.lret (v := ((jshr (f_X0_whole a0) ((32 * a1) - (f_X0_shift a0))) &&& 4294967295)) hx hb hr (fun t ht hW => ⟨_, rfl, hf, ht⟩) (fun q hq => absurd hq List.not_mem_nil) dX1_signedPart_75
      · rw [if_pos c13] at hf
        refine lv_lload hx hb dX1_signedPart_67 (lv_at hl 0 rfl) ?_
        refine lv_lneg hx hb dX1_signedPart_69 ?_
        refine lv_goto (tgt := 75) hx hb dX1_signedPart_70 (by decide) ?_
        exact W.lret (v := (-((jshr (f_X0_whole a0) ((32 * a1) - (f_X0_shift a0))) &&& 4294967295))) hx hb hr (fun t ht hW => ⟨_, rfl, hf, ht⟩) (fun q hq => absurd hq List.not_mem_nil) dX1_signedPart_75

set_option maxHeartbeats 4000000 in
set_option maxRecDepth 100000 in
theorem m_X1_signOfSum (l : Launch) (a0 : Int64) (a1 : Int64) (a2 : Int64) (a3 : Int64) (res : Int32) (hf : f_X1_signOfSum a0 a1 a2 a3 = some res) : Met l yX1_signOfSum wsX1_signOfSum rmX1_signOfSum (my_PcP [.long a0, .long a1, .long a2, .long a3]) (vp_Si (fun z => z = res)) 0 0 (fun _ => False) := by
  refine Met.ofW (cc := cX1_signOfSum) (maxL := 14) (ret := (some .int)) (by decide) rfl ?_
  intro p e s m args below meth c s₁ B hml hv
  obtain ⟨rfl, -⟩ := hv
  have hx := B.exec
  have hb := B.bytes
  have hr := B.returns
  have hts : ∀ w ∈ wsX1_signOfSum, w.before ([.long a0, .long a1, .long a2, .long a3] : List Value).toArray s = true := atoms_spec (ws := wsX1_signOfSum) B.pre
  have hown : s.vm.findClass RX1 = some m.cls := findClass_of_methodNamed B.named
  have hlk : meth.locks = false := B.notSynchronized
  have q1 := hts (.constantLong RX1 51 (4294967295)) (by decide +kernel)
  have hl := lv_entry ([.long a0, .long a1, .long a2, .long a3]) (n := 14) (Nat.le_of_ble_eq_true rfl)
  rw [lg_entry_eq]
  generalize (lg_sl ([.long a0, .long a1, .long a2, .long a3]) ++ List.replicate (14 - (lg_sl ([.long a0, .long a1, .long a2, .long a3])).length) Slot.unset).toArray = ls at hl ⊢
  have hl : lv_has ls 14 [(0, .long a0), (2, .long a1), (4, .long a2), (6, .long a3)] := hl
  unfold f_X1_signOfSum at hf
  refine lv_lconst (v := 0) hx hb dX1_signOfSum_0 (by decide) ?_
  refine lv_lstore (lv' := [(8, .long 0), (0, .long a0), (2, .long a1), (4, .long a2), (6, .long a3)]) hx hb dX1_signOfSum_1 hl (by decide) rfl (fun ls hl => ?_)
  refine lv_iconst (v := 0) hx hb dX1_signOfSum_3 (by decide) ?_
  refine lv_istore (lv' := [(10, .int 0), (8, .long 0), (0, .long a0), (2, .long a1), (4, .long a2), (6, .long a3)]) hx hb dX1_signOfSum_4 hl (by decide) rfl (fun ls hl => ?_)
  refine lv_iconst (v := 0) hx hb dX1_signOfSum_6 (by decide) ?_
  refine lv_istore (lv' := [(11, .int 0), (10, .int 0), (8, .long 0), (0, .long a0), (2, .long a1), (4, .long a2), (6, .long a3)]) hx hb dX1_signOfSum_7 hl (by decide) rfl (fun ls hl => ?_)
  have loop9 : ∀ (n9 : Nat) (v9_11 : Int32) (v9_10 : Int32) (v9_8 : Int64) (ls : Array Slot), lv_has ls 14 [(11, .int v9_11), (10, .int v9_10), (8, .long v9_8), (0, .long a0), (2, .long a1), (4, .long a2), (6, .long a3)] → f_X1_signOfSum_L9 a0 a1 a2 a3 n9 v9_11 v9_10 v9_8 = some res → W p l e (rmX1_signOfSum) s m ([.long a0, .long a1, .long a2, .long a3] : List Value).toArray below meth c s.heap [] 0 0 (MQ below (vp_Si (fun z => z = res)) ([.long a0, .long a1, .long a2, .long a3] : List Value).toArray s 0 0 (fun _ => False)) (F0 m 9 ls []) := by
    intro n9
    induction n9 with
    | zero => intro v9_11 v9_10 v9_8 ls hl hf; rw [f_X1_signOfSum_L9] at hf; cases hf
    | succ n9 ih9 =>
      intro v9_11 v9_10 v9_8 ls hl hf
      rw [f_X1_signOfSum_L9] at hf
      refine lv_iload hx hb dX1_signOfSum_9 (lv_at hl 0 rfl) ?_
      refine lv_bipush (v := 66) hx hb dX1_signOfSum_11 (by decide) ?_
      refine my_ic_ge (tgt := 86) hx hb dX1_signOfSum_13 (by decide) (fun c1 => ?_) (fun c1 => ?_)
      · rw [if_neg c1] at hf
        refine lv_lload hx hb dX1_signOfSum_86 (lv_at hl 2 rfl) ?_
        refine lv_lconst (v := 0) hx hb dX1_signOfSum_88 (by decide) ?_
        refine my_lc_ge (tgt := 95) hx hb dX1_signOfSum_89 dX1_signOfSum_90 (by decide) (fun c2 => ?_) (fun c2 => ?_)
        · rw [if_neg c2] at hf
          refine lv_iload hx hb dX1_signOfSum_95 (lv_at hl 1 rfl) ?_
          refine my_if_eq (tgt := 104) hx hb dX1_signOfSum_97 (by decide) (fun c3 => ?_) (fun c3 => ?_)
          · rw [if_pos c3] at hf
            refine lv_iconst (v := 0) hx hb dX1_signOfSum_104 (by decide) ?_
            exact W.iret (v := 0) hx hb hr (fun t ht hW => ⟨_, rfl, Option.some.inj hf, ht⟩) (fun q hq => absurd hq List.not_mem_nil) dX1_signOfSum_105
          · rw [if_neg c3] at hf
            refine lv_iconst (v := 1) hx hb dX1_signOfSum_100 (by decide) ?_
            refine lv_goto (tgt := 105) hx hb dX1_signOfSum_101 (by decide) ?_
            exact W.iret (v := 1) hx hb hr (fun t ht hW => ⟨_, rfl, Option.some.inj hf, ht⟩) (fun q hq => absurd hq List.not_mem_nil) dX1_signOfSum_105
        · rw [if_pos c2] at hf
          refine lv_iconst (v := (-1)) hx hb dX1_signOfSum_93 (by decide) ?_
          exact W.iret (v := (-1)) hx hb hr (fun t ht hW => ⟨_, rfl, Option.some.inj hf, ht⟩) (fun q hq => absurd hq List.not_mem_nil) dX1_signOfSum_94
      · rw [if_pos c1] at hf
        refine lv_lload hx hb dX1_signOfSum_16 (lv_at hl 2 rfl) ?_
        refine lv_lload_n hx hb dX1_signOfSum_18 rfl (lv_at hl 3 rfl) ?_
        refine lv_iload hx hb dX1_signOfSum_19 (lv_at hl 0 rfl) ?_
        refine my_callPl (As := [.long a0, .int v9_11]) (n := 2) (rest := [.long v9_8]) ⟨hx, hb, hml, hown, hts⟩ (m_X1_signedPart l a0 v9_11 _ rfl) gX1_signOfSum_X1_signedPart rfl ⟨rfl, rfl⟩ (by decide +kernel) ⟨Nat.le_of_ble_eq_true rfl, Nat.le_of_ble_eq_true rfl⟩ ⟨Nat.le_of_ble_eq_true rfl, Nat.le_of_ble_eq_true rfl⟩ hl.1 rfl rfl (Nat.le_of_ble_eq_true rfl) dX1_signOfSum_21 ?_
        refine lv_ladd hx hb dX1_signOfSum_24 ?_
        refine lv_lload_n hx hb dX1_signOfSum_25 rfl (lv_at hl 4 rfl) ?_
        refine lv_iload hx hb dX1_signOfSum_26 (lv_at hl 0 rfl) ?_
        refine my_callPl (As := [.long a1, .int v9_11]) (n := 2) (rest := [.long (v9_8 + (f_X1_signedPart a0 v9_11))]) ⟨hx, hb, hml, hown, hts⟩ (m_X1_signedPart l a1 v9_11 _ rfl) gX1_signOfSum_X1_signedPart rfl ⟨rfl, rfl⟩ (by decide +kernel) ⟨Nat.le_of_ble_eq_true rfl, Nat.le_of_ble_eq_true rfl⟩ ⟨Nat.le_of_ble_eq_true rfl, Nat.le_of_ble_eq_true rfl⟩ hl.1 rfl rfl (Nat.le_of_ble_eq_true rfl) dX1_signOfSum_28 ?_
        refine lv_ladd hx hb dX1_signOfSum_31 ?_
        refine lv_lload hx hb dX1_signOfSum_32 (lv_at hl 5 rfl) ?_
        refine lv_iload hx hb dX1_signOfSum_34 (lv_at hl 0 rfl) ?_
        refine my_callPl (As := [.long a2, .int v9_11]) (n := 2) (rest := [.long ((v9_8 + (f_X1_signedPart a0 v9_11)) + (f_X1_signedPart a1 v9_11))]) ⟨hx, hb, hml, hown, hts⟩ (m_X1_signedPart l a2 v9_11 _ rfl) gX1_signOfSum_X1_signedPart rfl ⟨rfl, rfl⟩ (by decide +kernel) ⟨Nat.le_of_ble_eq_true rfl, Nat.le_of_ble_eq_true rfl⟩ ⟨Nat.le_of_ble_eq_true rfl, Nat.le_of_ble_eq_true rfl⟩ hl.1 rfl rfl (Nat.le_of_ble_eq_true rfl) dX1_signOfSum_36 ?_
        refine lv_ladd hx hb dX1_signOfSum_39 ?_
        refine lv_lload hx hb dX1_signOfSum_40 (lv_at hl 6 rfl) ?_
        refine lv_iload hx hb dX1_signOfSum_42 (lv_at hl 0 rfl) ?_
        refine my_callPl (As := [.long a3, .int v9_11]) (n := 2) (rest := [.long (((v9_8 + (f_X1_signedPart a0 v9_11)) + (f_X1_signedPart a1 v9_11)) + (f_X1_signedPart a2 v9_11))]) ⟨hx, hb, hml, hown, hts⟩ (m_X1_signedPart l a3 v9_11 _ rfl) gX1_signOfSum_X1_signedPart rfl ⟨rfl, rfl⟩ (by decide +kernel) ⟨Nat.le_of_ble_eq_true rfl, Nat.le_of_ble_eq_true rfl⟩ ⟨Nat.le_of_ble_eq_true rfl, Nat.le_of_ble_eq_true rfl⟩ hl.1 rfl rfl (Nat.le_of_ble_eq_true rfl) dX1_signOfSum_44 ?_
        refine lv_ladd hx hb dX1_signOfSum_47 ?_
        refine lv_lstore (lv' := [(12, .long ((((v9_8 + (f_X1_signedPart a0 v9_11)) + (f_X1_signedPart a1 v9_11)) + (f_X1_signedPart a2 v9_11)) + (f_X1_signedPart a3 v9_11))), (11, .int v9_11), (10, .int v9_10), (8, .long v9_8), (0, .long a0), (2, .long a1), (4, .long a2), (6, .long a3)]) hx hb dX1_signOfSum_48 hl (by decide) rfl (fun ls hl => ?_)
        refine lv_iload hx hb dX1_signOfSum_50 (lv_at hl 2 rfl) ?_
        refine my_if_ne (tgt := 66) hx hb dX1_signOfSum_52 (by decide) (fun c4 => ?_) (fun c4 => ?_)
        · rw [if_neg c4] at hf
          refine lv_iconst (v := 1) hx hb dX1_signOfSum_66 (by decide) ?_
          refine lv_goto (tgt := 71) hx hb dX1_signOfSum_67 (by decide) ?_
          refine lv_istore (lv' := [(10, .int 1), (12, .long ((((v9_8 + (f_X1_signedPart a0 v9_11)) + (f_X1_signedPart a1 v9_11)) + (f_X1_signedPart a2 v9_11)) + (f_X1_signedPart a3 v9_11))), (11, .int v9_11), (8, .long v9_8), (0, .long a0), (2, .long a1), (4, .long a2), (6, .long a3)]) hx hb dX1_signOfSum_71 hl (by decide) rfl (fun ls hl => ?_)
          refine lv_lload hx hb dX1_signOfSum_73 (lv_at hl 1 rfl) ?_
          refine lv_bipush (v := 32) hx hb dX1_signOfSum_75 (by decide) ?_
          refine lv_lshr (v := (jshr ((((v9_8 + (f_X1_signedPart a0 v9_11)) + (f_X1_signedPart a1 v9_11)) + (f_X1_signedPart a2 v9_11)) + (f_X1_signedPart a3 v9_11)) 32)) hx hb dX1_signOfSum_77 rfl ?_
          refine lv_lstore (lv' := [(8, .long (jshr ((((v9_8 + (f_X1_signedPart a0 v9_11)) + (f_X1_signedPart a1 v9_11)) + (f_X1_signedPart a2 v9_11)) + (f_X1_signedPart a3 v9_11)) 32)), (10, .int 1), (12, .long ((((v9_8 + (f_X1_signedPart a0 v9_11)) + (f_X1_signedPart a1 v9_11)) + (f_X1_signedPart a2 v9_11)) + (f_X1_signedPart a3 v9_11))), (11, .int v9_11), (0, .long a0), (2, .long a1), (4, .long a2), (6, .long a3)]) hx hb dX1_signOfSum_78 hl (by decide) rfl (fun ls hl => ?_)
          refine lv_iinc (v := (v9_11 + 1)) (lv' := [(11, .int (v9_11 + 1)), (8, .long (jshr ((((v9_8 + (f_X1_signedPart a0 v9_11)) + (f_X1_signedPart a1 v9_11)) + (f_X1_signedPart a2 v9_11)) + (f_X1_signedPart a3 v9_11)) 32)), (10, .int 1), (12, .long ((((v9_8 + (f_X1_signedPart a0 v9_11)) + (f_X1_signedPart a1 v9_11)) + (f_X1_signedPart a2 v9_11)) + (f_X1_signedPart a3 v9_11))), (0, .long a0), (2, .long a1), (4, .long a2), (6, .long a3)]) hx hb dX1_signOfSum_80 hl (k := 3) rfl rfl (by decide) rfl (fun ls hl => ?_)
          refine lv_goto (tgt := 9) hx hb dX1_signOfSum_83 (by decide) ?_
          exact ih9 (v9_11 + 1) 1 (jshr ((((v9_8 + (f_X1_signedPart a0 v9_11)) + (f_X1_signedPart a1 v9_11)) + (f_X1_signedPart a2 v9_11)) + (f_X1_signedPart a3 v9_11)) 32) _ (lv_sub hl [0, 2, 1, 4, 5, 6, 7] rfl) hf
        · rw [if_pos c4] at hf
          refine lv_lload hx hb dX1_signOfSum_55 (lv_at hl 0 rfl) ?_
          refine lv_ldc2 (v := 4294967295) hx hb hown q1 dX1_signOfSum_57 ?_
          refine lv_land hx hb dX1_signOfSum_60 ?_
          refine lv_lconst (v := 0) hx hb dX1_signOfSum_61 (by decide) ?_
          refine my_lc_eq (tgt := 70) hx hb dX1_signOfSum_62 dX1_signOfSum_63 (by decide) (fun c5 => ?_) (fun c5 => ?_)
          · rw [if_pos c5] at hf
            refine lv_iconst (v := 0) hx hb dX1_signOfSum_70 (by decide) ?_
            refine lv_istore (lv' := [(10, .int 0), (12, .long ((((v9_8 + (f_X1_signedPart a0 v9_11)) + (f_X1_signedPart a1 v9_11)) + (f_X1_signedPart a2 v9_11)) + (f_X1_signedPart a3 v9_11))), (11, .int v9_11), (8, .long v9_8), (0, .long a0), (2, .long a1), (4, .long a2), (6, .long a3)]) hx hb dX1_signOfSum_71 hl (by decide) rfl (fun ls hl => ?_)
            refine lv_lload hx hb dX1_signOfSum_73 (lv_at hl 1 rfl) ?_
            refine lv_bipush (v := 32) hx hb dX1_signOfSum_75 (by decide) ?_
            refine lv_lshr (v := (jshr ((((v9_8 + (f_X1_signedPart a0 v9_11)) + (f_X1_signedPart a1 v9_11)) + (f_X1_signedPart a2 v9_11)) + (f_X1_signedPart a3 v9_11)) 32)) hx hb dX1_signOfSum_77 rfl ?_
            refine lv_lstore (lv' := [(8, .long (jshr ((((v9_8 + (f_X1_signedPart a0 v9_11)) + (f_X1_signedPart a1 v9_11)) + (f_X1_signedPart a2 v9_11)) + (f_X1_signedPart a3 v9_11)) 32)), (10, .int 0), (12, .long ((((v9_8 + (f_X1_signedPart a0 v9_11)) + (f_X1_signedPart a1 v9_11)) + (f_X1_signedPart a2 v9_11)) + (f_X1_signedPart a3 v9_11))), (11, .int v9_11), (0, .long a0), (2, .long a1), (4, .long a2), (6, .long a3)]) hx hb dX1_signOfSum_78 hl (by decide) rfl (fun ls hl => ?_)
            refine lv_iinc (v := (v9_11 + 1)) (lv' := [(11, .int (v9_11 + 1)), (8, .long (jshr ((((v9_8 + (f_X1_signedPart a0 v9_11)) + (f_X1_signedPart a1 v9_11)) + (f_X1_signedPart a2 v9_11)) + (f_X1_signedPart a3 v9_11)) 32)), (10, .int 0), (12, .long ((((v9_8 + (f_X1_signedPart a0 v9_11)) + (f_X1_signedPart a1 v9_11)) + (f_X1_signedPart a2 v9_11)) + (f_X1_signedPart a3 v9_11))), (0, .long a0), (2, .long a1), (4, .long a2), (6, .long a3)]) hx hb dX1_signOfSum_80 hl (k := 3) rfl rfl (by decide) rfl (fun ls hl => ?_)
            refine lv_goto (tgt := 9) hx hb dX1_signOfSum_83 (by decide) ?_
            exact ih9 (v9_11 + 1) 0 (jshr ((((v9_8 + (f_X1_signedPart a0 v9_11)) + (f_X1_signedPart a1 v9_11)) + (f_X1_signedPart a2 v9_11)) + (f_X1_signedPart a3 v9_11)) 32) _ (lv_sub hl [0, 2, 1, 4, 5, 6, 7] rfl) hf
          · rw [if_neg c5] at hf
            refine lv_iconst (v := 1) hx hb dX1_signOfSum_66 (by decide) ?_
            refine lv_goto (tgt := 71) hx hb dX1_signOfSum_67 (by decide) ?_
            refine lv_istore (lv' := [(10, .int 1), (12, .long ((((v9_8 + (f_X1_signedPart a0 v9_11)) + (f_X1_signedPart a1 v9_11)) + (f_X1_signedPart a2 v9_11)) + (f_X1_signedPart a3 v9_11))), (11, .int v9_11), (8, .long v9_8), (0, .long a0), (2, .long a1), (4, .long a2), (6, .long a3)]) hx hb dX1_signOfSum_71 hl (by decide) rfl (fun ls hl => ?_)
            refine lv_lload hx hb dX1_signOfSum_73 (lv_at hl 1 rfl) ?_
            refine lv_bipush (v := 32) hx hb dX1_signOfSum_75 (by decide) ?_
            refine lv_lshr (v := (jshr ((((v9_8 + (f_X1_signedPart a0 v9_11)) + (f_X1_signedPart a1 v9_11)) + (f_X1_signedPart a2 v9_11)) + (f_X1_signedPart a3 v9_11)) 32)) hx hb dX1_signOfSum_77 rfl ?_
            refine lv_lstore (lv' := [(8, .long (jshr ((((v9_8 + (f_X1_signedPart a0 v9_11)) + (f_X1_signedPart a1 v9_11)) + (f_X1_signedPart a2 v9_11)) + (f_X1_signedPart a3 v9_11)) 32)), (10, .int 1), (12, .long ((((v9_8 + (f_X1_signedPart a0 v9_11)) + (f_X1_signedPart a1 v9_11)) + (f_X1_signedPart a2 v9_11)) + (f_X1_signedPart a3 v9_11))), (11, .int v9_11), (0, .long a0), (2, .long a1), (4, .long a2), (6, .long a3)]) hx hb dX1_signOfSum_78 hl (by decide) rfl (fun ls hl => ?_)
            refine lv_iinc (v := (v9_11 + 1)) (lv' := [(11, .int (v9_11 + 1)), (8, .long (jshr ((((v9_8 + (f_X1_signedPart a0 v9_11)) + (f_X1_signedPart a1 v9_11)) + (f_X1_signedPart a2 v9_11)) + (f_X1_signedPart a3 v9_11)) 32)), (10, .int 1), (12, .long ((((v9_8 + (f_X1_signedPart a0 v9_11)) + (f_X1_signedPart a1 v9_11)) + (f_X1_signedPart a2 v9_11)) + (f_X1_signedPart a3 v9_11))), (0, .long a0), (2, .long a1), (4, .long a2), (6, .long a3)]) hx hb dX1_signOfSum_80 hl (k := 3) rfl rfl (by decide) rfl (fun ls hl => ?_)
            refine lv_goto (tgt := 9) hx hb dX1_signOfSum_83 (by decide) ?_
            exact ih9 (v9_11 + 1) 1 (jshr ((((v9_8 + (f_X1_signedPart a0 v9_11)) + (f_X1_signedPart a1 v9_11)) + (f_X1_signedPart a2 v9_11)) + (f_X1_signedPart a3 v9_11)) 32) _ (lv_sub hl [0, 2, 1, 4, 5, 6, 7] rfl) hf
  exact loop9 100 0 0 0 _ (lv_sub hl [0, 1, 2, 3, 4, 5, 6] rfl) hf

set_option maxHeartbeats 4000000 in
set_option maxRecDepth 100000 in
theorem m_X1_orderOfGaps (l : Launch) (a0 : Int64) (a1 : Int64) (a2 : Int64) (a3 : Int64) (res : Int32) (hf : f_X1_orderOfGaps a0 a1 a2 a3 = some res) : Met l yX1_orderOfGaps wsX1_orderOfGaps rmX1_orderOfGaps (my_PcP [.long a0, .long a1, .long a2, .long a3]) (vp_Si (fun z => z = res)) 0 0 (fun _ => False) := by
  refine Met.ofW (cc := cX1_orderOfGaps) (maxL := 10) (ret := (some .int)) (by decide) rfl ?_
  intro p e s m args below meth c s₁ B hml hv
  obtain ⟨rfl, -⟩ := hv
  have hx := B.exec
  have hb := B.bytes
  have hr := B.returns
  have hts : ∀ w ∈ wsX1_orderOfGaps, w.before ([.long a0, .long a1, .long a2, .long a3] : List Value).toArray s = true := atoms_spec (ws := wsX1_orderOfGaps) B.pre
  have hown : s.vm.findClass RX1 = some m.cls := findClass_of_methodNamed B.named
  have hlk : meth.locks = false := B.notSynchronized
  have hl := lv_entry ([.long a0, .long a1, .long a2, .long a3]) (n := 10) (Nat.le_of_ble_eq_true rfl)
  rw [lg_entry_eq]
  generalize (lg_sl ([.long a0, .long a1, .long a2, .long a3]) ++ List.replicate (10 - (lg_sl ([.long a0, .long a1, .long a2, .long a3])).length) Slot.unset).toArray = ls at hl ⊢
  have hl : lv_has ls 10 [(0, .long a0), (2, .long a1), (4, .long a2), (6, .long a3)] := hl
  unfold f_X1_orderOfGaps at hf
  refine lv_lload_n hx hb dX1_orderOfGaps_0 rfl (lv_at hl 0 rfl) ?_
  refine lv_lload_n hx hb dX1_orderOfGaps_1 rfl (lv_at hl 1 rfl) ?_
  refine my_callPi (As := [.long a0, .long a1]) (n := 2) (rest := []) ⟨hx, hb, hml, hown, hts⟩ (m_X0_order l a0 a1 _ rfl) gX1_orderOfGaps_X0_order rfl ⟨rfl, rfl⟩ (by decide +kernel) ⟨Nat.le_of_ble_eq_true rfl, Nat.le_of_ble_eq_true rfl⟩ ⟨Nat.le_of_ble_eq_true rfl, Nat.le_of_ble_eq_true rfl⟩ hl.1 rfl rfl (Nat.le_of_ble_eq_true rfl) dX1_orderOfGaps_2 ?_
  refine my_if_ge (tgt := 12) hx hb dX1_orderOfGaps_5 (by decide) (fun c1 => ?_) (fun c1 => ?_)
  · rw [if_neg c1] at hf
    refine lv_iconst (v := 0) hx hb dX1_orderOfGaps_12 (by decide) ?_
    refine lv_istore (lv' := [(8, .int 0), (0, .long a0), (2, .long a1), (4, .long a2), (6, .long a3)]) hx hb dX1_orderOfGaps_13 hl (by decide) rfl (fun ls hl => ?_)
    refine lv_lload hx hb dX1_orderOfGaps_15 (lv_at hl 3 rfl) ?_
    refine lv_lload hx hb dX1_orderOfGaps_17 (lv_at hl 4 rfl) ?_
    refine my_callPi (As := [.long a2, .long a3]) (n := 2) (rest := []) ⟨hx, hb, hml, hown, hts⟩ (m_X0_order l a2 a3 _ rfl) gX1_orderOfGaps_X0_order rfl ⟨rfl, rfl⟩ (by decide +kernel) ⟨Nat.le_of_ble_eq_true rfl, Nat.le_of_ble_eq_true rfl⟩ ⟨Nat.le_of_ble_eq_true rfl, Nat.le_of_ble_eq_true rfl⟩ hl.1 rfl rfl (Nat.le_of_ble_eq_true rfl) dX1_orderOfGaps_19 ?_
    refine my_if_ge (tgt := 29) hx hb dX1_orderOfGaps_22 (by decide) (fun c2 => ?_) (fun c2 => ?_)
    · rw [if_neg c2] at hf
      refine lv_iconst (v := 0) hx hb dX1_orderOfGaps_29 (by decide) ?_
      refine lv_istore (lv' := [(9, .int 0), (8, .int 0), (0, .long a0), (2, .long a1), (4, .long a2), (6, .long a3)]) hx hb dX1_orderOfGaps_30 hl (by decide) rfl (fun ls hl => ?_)
      refine lv_iload hx hb dX1_orderOfGaps_32 (lv_at hl 1 rfl) ?_
      refine my_if_eq (x := 0) (tgt := 41) hx hb dX1_orderOfGaps_34 (by decide) (fun _ => ?_) (fun h9 => absurd h9 (by decide))
      refine lv_lload_n hx hb dX1_orderOfGaps_41 rfl (lv_at hl 2 rfl) ?_
      refine lv_iload hx hb dX1_orderOfGaps_42 (lv_at hl 1 rfl) ?_
      refine my_if_eq (x := 0) (tgt := 51) hx hb dX1_orderOfGaps_44 (by decide) (fun _ => ?_) (fun h9 => absurd h9 (by decide))
      refine lv_lload_n hx hb dX1_orderOfGaps_51 rfl (lv_at hl 3 rfl) ?_
      refine my_callPl (As := [.long a1]) (n := 1) (rest := [.long a0]) ⟨hx, hb, hml, hown, hts⟩ (m_X0_opposite l a1 _ rfl) gX1_orderOfGaps_X0_opposite rfl ⟨rfl, rfl⟩ (by decide +kernel) ⟨Nat.le_of_ble_eq_true rfl, Nat.le_of_ble_eq_true rfl⟩ ⟨Nat.le_of_ble_eq_true rfl, Nat.le_of_ble_eq_true rfl⟩ hl.1 rfl rfl (Nat.le_of_ble_eq_true rfl) dX1_orderOfGaps_52 ?_
      refine lv_iload hx hb dX1_orderOfGaps_55 (lv_at hl 0 rfl) ?_
      refine my_if_eq (x := 0) (tgt := 65) hx hb dX1_orderOfGaps_57 (by decide) (fun _ => ?_) (fun h9 => absurd h9 (by decide))
      refine lv_lload hx hb dX1_orderOfGaps_65 (lv_at hl 4 rfl) ?_
      refine my_callPl (As := [.long a2]) (n := 1) (rest := [.long (f_X0_opposite a1), .long a0]) ⟨hx, hb, hml, hown, hts⟩ (m_X0_opposite l a2 _ rfl) gX1_orderOfGaps_X0_opposite rfl ⟨rfl, rfl⟩ (by decide +kernel) ⟨Nat.le_of_ble_eq_true rfl, Nat.le_of_ble_eq_true rfl⟩ ⟨Nat.le_of_ble_eq_true rfl, Nat.le_of_ble_eq_true rfl⟩ hl.1 rfl rfl (Nat.le_of_ble_eq_true rfl) dX1_orderOfGaps_67 ?_
      refine lv_iload hx hb dX1_orderOfGaps_70 (lv_at hl 0 rfl) ?_
      refine my_if_eq (x := 0) (tgt := 80) hx hb dX1_orderOfGaps_72 (by decide) (fun _ => ?_) (fun h9 => absurd h9 (by decide))
      refine lv_lload hx hb dX1_orderOfGaps_80 (lv_at hl 5 rfl) ?_
      obtain ⟨r3, er3, hf⟩ := ob_e hf
      refine my_callPi (As := [.long a0, .long (f_X0_opposite a1), .long (f_X0_opposite a2), .long a3]) (n := 4) (rest := []) ⟨hx, hb, hml, hown, hts⟩ (m_X1_signOfSum l a0 (f_X0_opposite a1) (f_X0_opposite a2) a3 _ er3) gX1_orderOfGaps_X1_signOfSum rfl ⟨rfl, rfl⟩ (by decide +kernel) ⟨Nat.le_of_ble_eq_true rfl, Nat.le_of_ble_eq_true rfl⟩ ⟨Nat.le_of_ble_eq_true rfl, Nat.le_of_ble_eq_true rfl⟩ hl.1 rfl rfl (Nat.le_of_ble_eq_true rfl) dX1_orderOfGaps_82 ?_
      exact W.iret (v := r3) hx hb hr (fun t ht hW => ⟨_, rfl, Option.some.inj hf, ht⟩) (fun q hq => absurd hq List.not_mem_nil) dX1_orderOfGaps_85
    · rw [if_pos c2] at hf
      refine lv_iconst (v := 1) hx hb dX1_orderOfGaps_25 (by decide) ?_
      refine lv_goto (tgt := 30) hx hb dX1_orderOfGaps_26 (by decide) ?_
      refine lv_istore (lv' := [(9, .int 1), (8, .int 0), (0, .long a0), (2, .long a1), (4, .long a2), (6, .long a3)]) hx hb dX1_orderOfGaps_30 hl (by decide) rfl (fun ls hl => ?_)
      refine lv_iload hx hb dX1_orderOfGaps_32 (lv_at hl 1 rfl) ?_
      refine my_if_eq (x := 0) (tgt := 41) hx hb dX1_orderOfGaps_34 (by decide) (fun _ => ?_) (fun h9 => absurd h9 (by decide))
      refine lv_lload_n hx hb dX1_orderOfGaps_41 rfl (lv_at hl 2 rfl) ?_
      refine lv_iload hx hb dX1_orderOfGaps_42 (lv_at hl 1 rfl) ?_
      refine my_if_eq (x := 0) (tgt := 51) hx hb dX1_orderOfGaps_44 (by decide) (fun _ => ?_) (fun h9 => absurd h9 (by decide))
      refine lv_lload_n hx hb dX1_orderOfGaps_51 rfl (lv_at hl 3 rfl) ?_
      refine my_callPl (As := [.long a1]) (n := 1) (rest := [.long a0]) ⟨hx, hb, hml, hown, hts⟩ (m_X0_opposite l a1 _ rfl) gX1_orderOfGaps_X0_opposite rfl ⟨rfl, rfl⟩ (by decide +kernel) ⟨Nat.le_of_ble_eq_true rfl, Nat.le_of_ble_eq_true rfl⟩ ⟨Nat.le_of_ble_eq_true rfl, Nat.le_of_ble_eq_true rfl⟩ hl.1 rfl rfl (Nat.le_of_ble_eq_true rfl) dX1_orderOfGaps_52 ?_
      refine lv_iload hx hb dX1_orderOfGaps_55 (lv_at hl 0 rfl) ?_
      refine my_if_eq (x := 1) (tgt := 65) hx hb dX1_orderOfGaps_57 (by decide) (fun h9 => absurd h9 (by decide)) (fun _ => ?_)
      refine lv_lload hx hb dX1_orderOfGaps_60 (lv_at hl 5 rfl) ?_
      refine lv_goto (tgt := 67) hx hb dX1_orderOfGaps_62 (by decide) ?_
      refine my_callPl (As := [.long a3]) (n := 1) (rest := [.long (f_X0_opposite a1), .long a0]) ⟨hx, hb, hml, hown, hts⟩ (m_X0_opposite l a3 _ rfl) gX1_orderOfGaps_X0_opposite rfl ⟨rfl, rfl⟩ (by decide +kernel) ⟨Nat.le_of_ble_eq_true rfl, Nat.le_of_ble_eq_true rfl⟩ ⟨Nat.le_of_ble_eq_true rfl, Nat.le_of_ble_eq_true rfl⟩ hl.1 rfl rfl (Nat.le_of_ble_eq_true rfl) dX1_orderOfGaps_67 ?_
      refine lv_iload hx hb dX1_orderOfGaps_70 (lv_at hl 0 rfl) ?_
      refine my_if_eq (x := 1) (tgt := 80) hx hb dX1_orderOfGaps_72 (by decide) (fun h9 => absurd h9 (by decide)) (fun _ => ?_)
      refine lv_lload hx hb dX1_orderOfGaps_75 (lv_at hl 4 rfl) ?_
      refine lv_goto (tgt := 82) hx hb dX1_orderOfGaps_77 (by decide) ?_
      obtain ⟨r4, er4, hf⟩ := ob_e hf
      refine my_callPi (As := [.long a0, .long (f_X0_opposite a1), .long (f_X0_opposite a3), .long a2]) (n := 4) (rest := []) ⟨hx, hb, hml, hown, hts⟩ (m_X1_signOfSum l a0 (f_X0_opposite a1) (f_X0_opposite a3) a2 _ er4) gX1_orderOfGaps_X1_signOfSum rfl ⟨rfl, rfl⟩ (by decide +kernel) ⟨Nat.le_of_ble_eq_true rfl, Nat.le_of_ble_eq_true rfl⟩ ⟨Nat.le_of_ble_eq_true rfl, Nat.le_of_ble_eq_true rfl⟩ hl.1 rfl rfl (Nat.le_of_ble_eq_true rfl) dX1_orderOfGaps_82 ?_
      exact W.iret (v := r4) hx hb hr (fun t ht hW => ⟨_, rfl, Option.some.inj hf, ht⟩) (fun q hq => absurd hq List.not_mem_nil) dX1_orderOfGaps_85
  · rw [if_pos c1] at hf
    refine lv_iconst (v := 1) hx hb dX1_orderOfGaps_8 (by decide) ?_
    refine lv_goto (tgt := 13) hx hb dX1_orderOfGaps_9 (by decide) ?_
    refine lv_istore (lv' := [(8, .int 1), (0, .long a0), (2, .long a1), (4, .long a2), (6, .long a3)]) hx hb dX1_orderOfGaps_13 hl (by decide) rfl (fun ls hl => ?_)
    refine lv_lload hx hb dX1_orderOfGaps_15 (lv_at hl 3 rfl) ?_
    refine lv_lload hx hb dX1_orderOfGaps_17 (lv_at hl 4 rfl) ?_
    refine my_callPi (As := [.long a2, .long a3]) (n := 2) (rest := []) ⟨hx, hb, hml, hown, hts⟩ (m_X0_order l a2 a3 _ rfl) gX1_orderOfGaps_X0_order rfl ⟨rfl, rfl⟩ (by decide +kernel) ⟨Nat.le_of_ble_eq_true rfl, Nat.le_of_ble_eq_true rfl⟩ ⟨Nat.le_of_ble_eq_true rfl, Nat.le_of_ble_eq_true rfl⟩ hl.1 rfl rfl (Nat.le_of_ble_eq_true rfl) dX1_orderOfGaps_19 ?_
    refine my_if_ge (tgt := 29) hx hb dX1_orderOfGaps_22 (by decide) (fun c5 => ?_) (fun c5 => ?_)
    · rw [if_neg c5] at hf
      refine lv_iconst (v := 0) hx hb dX1_orderOfGaps_29 (by decide) ?_
      refine lv_istore (lv' := [(9, .int 0), (8, .int 1), (0, .long a0), (2, .long a1), (4, .long a2), (6, .long a3)]) hx hb dX1_orderOfGaps_30 hl (by decide) rfl (fun ls hl => ?_)
      refine lv_iload hx hb dX1_orderOfGaps_32 (lv_at hl 1 rfl) ?_
      refine my_if_eq (x := 1) (tgt := 41) hx hb dX1_orderOfGaps_34 (by decide) (fun h9 => absurd h9 (by decide)) (fun _ => ?_)
      refine lv_lload_n hx hb dX1_orderOfGaps_37 rfl (lv_at hl 3 rfl) ?_
      refine lv_goto (tgt := 42) hx hb dX1_orderOfGaps_38 (by decide) ?_
      refine lv_iload hx hb dX1_orderOfGaps_42 (lv_at hl 1 rfl) ?_
      refine my_if_eq (x := 1) (tgt := 51) hx hb dX1_orderOfGaps_44 (by decide) (fun h9 => absurd h9 (by decide)) (fun _ => ?_)
      refine lv_lload_n hx hb dX1_orderOfGaps_47 rfl (lv_at hl 2 rfl) ?_
      refine lv_goto (tgt := 52) hx hb dX1_orderOfGaps_48 (by decide) ?_
      refine my_callPl (As := [.long a0]) (n := 1) (rest := [.long a1]) ⟨hx, hb, hml, hown, hts⟩ (m_X0_opposite l a0 _ rfl) gX1_orderOfGaps_X0_opposite rfl ⟨rfl, rfl⟩ (by decide +kernel) ⟨Nat.le_of_ble_eq_true rfl, Nat.le_of_ble_eq_true rfl⟩ ⟨Nat.le_of_ble_eq_true rfl, Nat.le_of_ble_eq_true rfl⟩ hl.1 rfl rfl (Nat.le_of_ble_eq_true rfl) dX1_orderOfGaps_52 ?_
      refine lv_iload hx hb dX1_orderOfGaps_55 (lv_at hl 0 rfl) ?_
      refine my_if_eq (x := 0) (tgt := 65) hx hb dX1_orderOfGaps_57 (by decide) (fun _ => ?_) (fun h9 => absurd h9 (by decide))
      refine lv_lload hx hb dX1_orderOfGaps_65 (lv_at hl 4 rfl) ?_
      refine my_callPl (As := [.long a2]) (n := 1) (rest := [.long (f_X0_opposite a0), .long a1]) ⟨hx, hb, hml, hown, hts⟩ (m_X0_opposite l a2 _ rfl) gX1_orderOfGaps_X0_opposite rfl ⟨rfl, rfl⟩ (by decide +kernel) ⟨Nat.le_of_ble_eq_true rfl, Nat.le_of_ble_eq_true rfl⟩ ⟨Nat.le_of_ble_eq_true rfl, Nat.le_of_ble_eq_true rfl⟩ hl.1 rfl rfl (Nat.le_of_ble_eq_true rfl) dX1_orderOfGaps_67 ?_
      refine lv_iload hx hb dX1_orderOfGaps_70 (lv_at hl 0 rfl) ?_
      refine my_if_eq (x := 0) (tgt := 80) hx hb dX1_orderOfGaps_72 (by decide) (fun _ => ?_) (fun h9 => absurd h9 (by decide))
      refine lv_lload hx hb dX1_orderOfGaps_80 (lv_at hl 5 rfl) ?_
      obtain ⟨r6, er6, hf⟩ := ob_e hf
      refine my_callPi (As := [.long a1, .long (f_X0_opposite a0), .long (f_X0_opposite a2), .long a3]) (n := 4) (rest := []) ⟨hx, hb, hml, hown, hts⟩ (m_X1_signOfSum l a1 (f_X0_opposite a0) (f_X0_opposite a2) a3 _ er6) gX1_orderOfGaps_X1_signOfSum rfl ⟨rfl, rfl⟩ (by decide +kernel) ⟨Nat.le_of_ble_eq_true rfl, Nat.le_of_ble_eq_true rfl⟩ ⟨Nat.le_of_ble_eq_true rfl, Nat.le_of_ble_eq_true rfl⟩ hl.1 rfl rfl (Nat.le_of_ble_eq_true rfl) dX1_orderOfGaps_82 ?_
      exact W.iret (v := r6) hx hb hr (fun t ht hW => ⟨_, rfl, Option.some.inj hf, ht⟩) (fun q hq => absurd hq List.not_mem_nil) dX1_orderOfGaps_85
    · rw [if_pos c5] at hf
      refine lv_iconst (v := 1) hx hb dX1_orderOfGaps_25 (by decide) ?_
      refine lv_goto (tgt := 30) hx hb dX1_orderOfGaps_26 (by decide) ?_
      refine lv_istore (lv' := [(9, .int 1), (8, .int 1), (0, .long a0), (2, .long a1), (4, .long a2), (6, .long a3)]) hx hb dX1_orderOfGaps_30 hl (by decide) rfl (fun ls hl => ?_)
      refine lv_iload hx hb dX1_orderOfGaps_32 (lv_at hl 1 rfl) ?_
      refine my_if_eq (x := 1) (tgt := 41) hx hb dX1_orderOfGaps_34 (by decide) (fun h9 => absurd h9 (by decide)) (fun _ => ?_)
      refine lv_lload_n hx hb dX1_orderOfGaps_37 rfl (lv_at hl 3 rfl) ?_
      refine lv_goto (tgt := 42) hx hb dX1_orderOfGaps_38 (by decide) ?_
      refine lv_iload hx hb dX1_orderOfGaps_42 (lv_at hl 1 rfl) ?_
      refine my_if_eq (x := 1) (tgt := 51) hx hb dX1_orderOfGaps_44 (by decide) (fun h9 => absurd h9 (by decide)) (fun _ => ?_)
      refine lv_lload_n hx hb dX1_orderOfGaps_47 rfl (lv_at hl 2 rfl) ?_
      refine lv_goto (tgt := 52) hx hb dX1_orderOfGaps_48 (by decide) ?_
      refine my_callPl (As := [.long a0]) (n := 1) (rest := [.long a1]) ⟨hx, hb, hml, hown, hts⟩ (m_X0_opposite l a0 _ rfl) gX1_orderOfGaps_X0_opposite rfl ⟨rfl, rfl⟩ (by decide +kernel) ⟨Nat.le_of_ble_eq_true rfl, Nat.le_of_ble_eq_true rfl⟩ ⟨Nat.le_of_ble_eq_true rfl, Nat.le_of_ble_eq_true rfl⟩ hl.1 rfl rfl (Nat.le_of_ble_eq_true rfl) dX1_orderOfGaps_52 ?_
      refine lv_iload hx hb dX1_orderOfGaps_55 (lv_at hl 0 rfl) ?_
      refine my_if_eq (x := 1) (tgt := 65) hx hb dX1_orderOfGaps_57 (by decide) (fun h9 => absurd h9 (by decide)) (fun _ => ?_)
      refine lv_lload hx hb dX1_orderOfGaps_60 (lv_at hl 5 rfl) ?_
      refine lv_goto (tgt := 67) hx hb dX1_orderOfGaps_62 (by decide) ?_
      refine my_callPl (As := [.long a3]) (n := 1) (rest := [.long (f_X0_opposite a0), .long a1]) ⟨hx, hb, hml, hown, hts⟩ (m_X0_opposite l a3 _ rfl) gX1_orderOfGaps_X0_opposite rfl ⟨rfl, rfl⟩ (by decide +kernel) ⟨Nat.le_of_ble_eq_true rfl, Nat.le_of_ble_eq_true rfl⟩ ⟨Nat.le_of_ble_eq_true rfl, Nat.le_of_ble_eq_true rfl⟩ hl.1 rfl rfl (Nat.le_of_ble_eq_true rfl) dX1_orderOfGaps_67 ?_
      refine lv_iload hx hb dX1_orderOfGaps_70 (lv_at hl 0 rfl) ?_
      refine my_if_eq (x := 1) (tgt := 80) hx hb dX1_orderOfGaps_72 (by decide) (fun h9 => absurd h9 (by decide)) (fun _ => ?_)
      refine lv_lload hx hb dX1_orderOfGaps_75 (lv_at hl 4 rfl) ?_
      refine lv_goto (tgt := 82) hx hb dX1_orderOfGaps_77 (by decide) ?_
      obtain ⟨r7, er7, hf⟩ := ob_e hf
      refine my_callPi (As := [.long a1, .long (f_X0_opposite a0), .long (f_X0_opposite a3), .long a2]) (n := 4) (rest := []) ⟨hx, hb, hml, hown, hts⟩ (m_X1_signOfSum l a1 (f_X0_opposite a0) (f_X0_opposite a3) a2 _ er7) gX1_orderOfGaps_X1_signOfSum rfl ⟨rfl, rfl⟩ (by decide +kernel) ⟨Nat.le_of_ble_eq_true rfl, Nat.le_of_ble_eq_true rfl⟩ ⟨Nat.le_of_ble_eq_true rfl, Nat.le_of_ble_eq_true rfl⟩ hl.1 rfl rfl (Nat.le_of_ble_eq_true rfl) dX1_orderOfGaps_82 ?_
      exact W.iret (v := r7) hx hb hr (fun t ht hW => ⟨_, rfl, Option.some.inj hf, ht⟩) (fun q hq => absurd hq List.not_mem_nil) dX1_orderOfGaps_85

set_option maxHeartbeats 4000000 in
set_option maxRecDepth 100000 in
theorem m_X4_stepsHold (l : Launch) (a0 : Int64) (res : Bool) (hf : f_X4_stepsHold a0 = res) : Met l yX4_stepsHold wsX4_stepsHold rmX4_stepsHold (my_PcP [.long a0]) (vp_Si (fun z => z = b2i res)) 0 0 (fun _ => False) := by
  refine Met.ofW (cc := cX4_stepsHold) (maxL := 4) (ret := (some .boolean)) (by decide) rfl ?_
  intro p e s m args below meth c s₁ B hml hv
  obtain ⟨rfl, -⟩ := hv
  have hx := B.exec
  have hb := B.bytes
  have hr := B.returns
  have hts : ∀ w ∈ wsX4_stepsHold, w.before ([.long a0] : List Value).toArray s = true := atoms_spec (ws := wsX4_stepsHold) B.pre
  have hown : s.vm.findClass RX4 = some m.cls := findClass_of_methodNamed B.named
  have hlk : meth.locks = false := B.notSynchronized
  have q1 := hts (.constantLong RX4 37 (9218868437227405312)) (by decide +kernel)
  have hl := lv_entry ([.long a0]) (n := 4) (Nat.le_of_ble_eq_true rfl)
  rw [lg_entry_eq]
  generalize (lg_sl ([.long a0]) ++ List.replicate (4 - (lg_sl ([.long a0])).length) Slot.unset).toArray = ls at hl ⊢
  have hl : lv_has ls 4 [(0, .long a0)] := hl
  unfold f_X4_stepsHold at hf
  refine lv_lload_n hx hb dX4_stepsHold_0 rfl (lv_at hl 0 rfl) ?_
  refine lv_iconst (v := 1) hx hb dX4_stepsHold_1 (by decide) ?_
  refine my_callPl (As := [.long a0, .int 1]) (n := 2) (rest := []) ⟨hx, hb, hml, hown, hts⟩ (m_X0_raised l a0 1 _ rfl) gX4_stepsHold_X0_raised rfl ⟨rfl, rfl⟩ (by decide +kernel) ⟨Nat.le_of_ble_eq_true rfl, Nat.le_of_ble_eq_true rfl⟩ ⟨Nat.le_of_ble_eq_true rfl, Nat.le_of_ble_eq_true rfl⟩ hl.1 rfl rfl (Nat.le_of_ble_eq_true rfl) dX4_stepsHold_2 ?_
  refine lv_lstore_n (lv' := [(2, .long (f_X0_raised a0 1)), (0, .long a0)]) hx hb dX4_stepsHold_5 rfl hl (by decide) rfl (fun ls hl => ?_)
  refine lv_lload_n hx hb dX4_stepsHold_6 rfl (lv_at hl 1 rfl) ?_
  refine lv_ldc2 (v := 9218868437227405312) hx hb hown q1 dX4_stepsHold_7 ?_
  refine my_lc_ne (tgt := 26) hx hb dX4_stepsHold_10 dX4_stepsHold_11 (by decide) (fun c1 => ?_) (fun c1 => ?_)
  · rw [if_neg c1] at hf
    refine lv_lload_n hx hb dX4_stepsHold_26 rfl (lv_at hl 0 rfl) ?_
    refine my_callPl (As := [.long (f_X0_raised a0 1)]) (n := 1) (rest := []) ⟨hx, hb, hml, hown, hts⟩ (m_X0_placeOf l (f_X0_raised a0 1) _ rfl) gX4_stepsHold_X0_placeOf rfl ⟨rfl, rfl⟩ (by decide +kernel) ⟨Nat.le_of_ble_eq_true rfl, Nat.le_of_ble_eq_true rfl⟩ ⟨Nat.le_of_ble_eq_true rfl, Nat.le_of_ble_eq_true rfl⟩ hl.1 rfl rfl (Nat.le_of_ble_eq_true rfl) dX4_stepsHold_27 ?_
    refine lv_lload_n hx hb dX4_stepsHold_30 rfl (lv_at hl 1 rfl) ?_
    refine my_callPl (As := [.long a0]) (n := 1) (rest := [.long (f_X0_placeOf (f_X0_raised a0 1))]) ⟨hx, hb, hml, hown, hts⟩ (m_X0_placeOf l a0 _ rfl) gX4_stepsHold_X0_placeOf rfl ⟨rfl, rfl⟩ (by decide +kernel) ⟨Nat.le_of_ble_eq_true rfl, Nat.le_of_ble_eq_true rfl⟩ ⟨Nat.le_of_ble_eq_true rfl, Nat.le_of_ble_eq_true rfl⟩ hl.1 rfl rfl (Nat.le_of_ble_eq_true rfl) dX4_stepsHold_31 ?_
    refine lv_lconst (v := 1) hx hb dX4_stepsHold_34 (by decide) ?_
    refine lv_ladd hx hb dX4_stepsHold_35 ?_
    refine my_lc_ne (tgt := 56) hx hb dX4_stepsHold_36 dX4_stepsHold_37 (by decide) (fun c2 => ?_) (fun c2 => ?_)
    · rw [if_neg c2] at hf
      refine lv_iconst (v := 0) hx hb dX4_stepsHold_56 (by decide) ?_
      exact W.zret (v := b2i false) (ty := .boolean) hx hb hr (b2i_nar _) (fun t ht hW => ⟨_, rfl, congrArg b2i (hf), ht⟩) (fun q hq => absurd hq List.not_mem_nil) dX4_stepsHold_57
    · rw [if_pos c2] at hf
      refine lv_lload_n hx hb dX4_stepsHold_40 rfl (lv_at hl 0 rfl) ?_
      refine lv_iconst (v := 1) hx hb dX4_stepsHold_41 (by decide) ?_
      refine my_callPl (As := [.long (f_X0_raised a0 1), .int 1]) (n := 2) (rest := []) ⟨hx, hb, hml, hown, hts⟩ (m_X0_lowered l (f_X0_raised a0 1) 1 _ rfl) gX4_stepsHold_X0_lowered rfl ⟨rfl, rfl⟩ (by decide +kernel) ⟨Nat.le_of_ble_eq_true rfl, Nat.le_of_ble_eq_true rfl⟩ ⟨Nat.le_of_ble_eq_true rfl, Nat.le_of_ble_eq_true rfl⟩ hl.1 rfl rfl (Nat.le_of_ble_eq_true rfl) dX4_stepsHold_42 ?_
      refine lv_lload_n hx hb dX4_stepsHold_45 rfl (lv_at hl 1 rfl) ?_
      refine my_callPi (As := [.long (f_X0_lowered (f_X0_raised a0 1) 1), .long a0]) (n := 2) (rest := []) ⟨hx, hb, hml, hown, hts⟩ (m_X0_order l (f_X0_lowered (f_X0_raised a0 1) 1) a0 _ rfl) gX4_stepsHold_X0_order rfl ⟨rfl, rfl⟩ (by decide +kernel) ⟨Nat.le_of_ble_eq_true rfl, Nat.le_of_ble_eq_true rfl⟩ ⟨Nat.le_of_ble_eq_true rfl, Nat.le_of_ble_eq_true rfl⟩ hl.1 rfl rfl (Nat.le_of_ble_eq_true rfl) dX4_stepsHold_46 ?_
      refine my_if_ne (tgt := 56) hx hb dX4_stepsHold_49 (by decide) (fun c3 => ?_) (fun c3 => ?_)
      · rw [if_neg c3] at hf
        refine lv_iconst (v := 0) hx hb dX4_stepsHold_56 (by decide) ?_
        exact W.zret (v := b2i false) (ty := .boolean) hx hb hr (b2i_nar _) (fun t ht hW => ⟨_, rfl, congrArg b2i (hf), ht⟩) (fun q hq => absurd hq List.not_mem_nil) dX4_stepsHold_57
      · rw [if_pos c3] at hf
        refine lv_iconst (v := 1) hx hb dX4_stepsHold_52 (by decide) ?_
        refine lv_goto (tgt := 57) hx hb dX4_stepsHold_53 (by decide) ?_
        exact W.zret (v := b2i true) (ty := .boolean) hx hb hr (b2i_nar _) (fun t ht hW => ⟨_, rfl, congrArg b2i (hf), ht⟩) (fun q hq => absurd hq List.not_mem_nil) dX4_stepsHold_57
  · rw [if_pos c1] at hf
    refine lv_lload_n hx hb dX4_stepsHold_14 rfl (lv_at hl 0 rfl) ?_
    refine lv_lload_n hx hb dX4_stepsHold_15 rfl (lv_at hl 1 rfl) ?_
    refine my_lc_ne (tgt := 24) hx hb dX4_stepsHold_16 dX4_stepsHold_17 (by decide) (fun c4 => ?_) (fun c4 => ?_)
    · rw [if_neg c4] at hf
      refine lv_iconst (v := 0) hx hb dX4_stepsHold_24 (by decide) ?_
      exact W.zret (v := b2i false) (ty := .boolean) hx hb hr (b2i_nar _) (fun t ht hW => ⟨_, rfl, congrArg b2i (hf), ht⟩) (fun q hq => absurd hq List.not_mem_nil) dX4_stepsHold_25
    · rw [if_pos c4] at hf
      refine lv_iconst (v := 1) hx hb dX4_stepsHold_20 (by decide) ?_
      refine lv_goto (tgt := 25) hx hb dX4_stepsHold_21 (by decide) ?_
      exact W.zret (v := b2i true) (ty := .boolean) hx hb hr (b2i_nar _) (fun t ht hW => ⟨_, rfl, congrArg b2i (hf), ht⟩) (fun q hq => absurd hq List.not_mem_nil) dX4_stepsHold_25

set_option maxHeartbeats 4000000 in
set_option maxRecDepth 100000 in
theorem m_X4_unitHolds (l : Launch) (a0 : Int64) (res : Bool) (hf : f_X4_unitHolds a0 = some res) : Met l yX4_unitHolds wsX4_unitHolds rmX4_unitHolds (my_PcP [.long a0]) (vp_Si (fun z => z = b2i res)) 0 0 (fun _ => False) := by
  refine Met.ofW (cc := cX4_unitHolds) (maxL := 8) (ret := (some .boolean)) (by decide) rfl ?_
  intro p e s m args below meth c s₁ B hml hv
  obtain ⟨rfl, -⟩ := hv
  have hx := B.exec
  have hb := B.bytes
  have hr := B.returns
  have hts : ∀ w ∈ wsX4_unitHolds, w.before ([.long a0] : List Value).toArray s = true := atoms_spec (ws := wsX4_unitHolds) B.pre
  have hown : s.vm.findClass RX4 = some m.cls := findClass_of_methodNamed B.named
  have hlk : meth.locks = false := B.notSynchronized
  have q1 := hts (.constantLong RX4 37 (9218868437227405312)) (by decide +kernel)
  have hl := lv_entry ([.long a0]) (n := 8) (Nat.le_of_ble_eq_true rfl)
  rw [lg_entry_eq]
  generalize (lg_sl ([.long a0]) ++ List.replicate (8 - (lg_sl ([.long a0])).length) Slot.unset).toArray = ls at hl ⊢
  have hl : lv_has ls 8 [(0, .long a0)] := hl
  unfold f_X4_unitHolds at hf
  refine lv_lload_n hx hb dX4_unitHolds_0 rfl (lv_at hl 0 rfl) ?_
  refine my_callPl (As := [.long a0]) (n := 1) (rest := []) ⟨hx, hb, hml, hown, hts⟩ (m_X0_unitOf l a0 _ rfl) gX4_unitHolds_X0_unitOf rfl ⟨rfl, rfl⟩ (by decide +kernel) ⟨Nat.le_of_ble_eq_true rfl, Nat.le_of_ble_eq_true rfl⟩ ⟨Nat.le_of_ble_eq_true rfl, Nat.le_of_ble_eq_true rfl⟩ hl.1 rfl rfl (Nat.le_of_ble_eq_true rfl) dX4_unitHolds_1 ?_
  refine lv_lstore_n (lv' := [(2, .long (f_X0_unitOf a0)), (0, .long a0)]) hx hb dX4_unitHolds_4 rfl hl (by decide) rfl (fun ls hl => ?_)
  refine lv_lload_n hx hb dX4_unitHolds_5 rfl (lv_at hl 1 rfl) ?_
  refine my_callPi (As := [.long a0]) (n := 1) (rest := []) ⟨hx, hb, hml, hown, hts⟩ (m_X0_hasNoEnd l a0 _ rfl) gX4_unitHolds_X0_hasNoEnd rfl ⟨rfl, rfl⟩ (by decide +kernel) ⟨Nat.le_of_ble_eq_true rfl, Nat.le_of_ble_eq_true rfl⟩ ⟨Nat.le_of_ble_eq_true rfl, Nat.le_of_ble_eq_true rfl⟩ hl.1 rfl rfl (Nat.le_of_ble_eq_true rfl) dX4_unitHolds_6 ?_
  refine my_bz_eq (x := (f_X0_hasNoEnd a0)) (tgt := 26) hx hb dX4_unitHolds_9 (by decide) (fun c1 => ?_) (fun c1 => ?_)
  · rw [if_pos c1] at hf
    refine lv_lload_n hx hb dX4_unitHolds_26 rfl (lv_at hl 1 rfl) ?_
    refine my_callPl (As := [.long a0]) (n := 1) (rest := []) ⟨hx, hb, hml, hown, hts⟩ (m_X0_sizeOf l a0 _ rfl) gX4_unitHolds_X0_sizeOf rfl ⟨rfl, rfl⟩ (by decide +kernel) ⟨Nat.le_of_ble_eq_true rfl, Nat.le_of_ble_eq_true rfl⟩ ⟨Nat.le_of_ble_eq_true rfl, Nat.le_of_ble_eq_true rfl⟩ hl.1 rfl rfl (Nat.le_of_ble_eq_true rfl) dX4_unitHolds_27 ?_
    refine lv_lstore (lv' := [(4, .long (f_X0_sizeOf a0)), (2, .long (f_X0_unitOf a0)), (0, .long a0)]) hx hb dX4_unitHolds_30 hl (by decide) rfl (fun ls hl => ?_)
    refine lv_lload hx hb dX4_unitHolds_32 (lv_at hl 0 rfl) ?_
    refine lv_iconst (v := 1) hx hb dX4_unitHolds_34 (by decide) ?_
    refine my_callPl (As := [.long (f_X0_sizeOf a0), .int 1]) (n := 2) (rest := []) ⟨hx, hb, hml, hown, hts⟩ (m_X0_raised l (f_X0_sizeOf a0) 1 _ rfl) gX4_unitHolds_X0_raised rfl ⟨rfl, rfl⟩ (by decide +kernel) ⟨Nat.le_of_ble_eq_true rfl, Nat.le_of_ble_eq_true rfl⟩ ⟨Nat.le_of_ble_eq_true rfl, Nat.le_of_ble_eq_true rfl⟩ hl.1 rfl rfl (Nat.le_of_ble_eq_true rfl) dX4_unitHolds_35 ?_
    refine lv_lstore (lv' := [(6, .long (f_X0_raised (f_X0_sizeOf a0) 1)), (4, .long (f_X0_sizeOf a0)), (2, .long (f_X0_unitOf a0)), (0, .long a0)]) hx hb dX4_unitHolds_38 hl (by decide) rfl (fun ls hl => ?_)
    refine lv_lload hx hb dX4_unitHolds_40 (lv_at hl 0 rfl) ?_
    refine my_callPi (As := [.long (f_X0_raised (f_X0_sizeOf a0) 1)]) (n := 1) (rest := []) ⟨hx, hb, hml, hown, hts⟩ (m_X0_hasNoEnd l (f_X0_raised (f_X0_sizeOf a0) 1) _ rfl) gX4_unitHolds_X0_hasNoEnd rfl ⟨rfl, rfl⟩ (by decide +kernel) ⟨Nat.le_of_ble_eq_true rfl, Nat.le_of_ble_eq_true rfl⟩ ⟨Nat.le_of_ble_eq_true rfl, Nat.le_of_ble_eq_true rfl⟩ hl.1 rfl rfl (Nat.le_of_ble_eq_true rfl) dX4_unitHolds_42 ?_
    refine my_bz_ne (x := (f_X0_hasNoEnd (f_X0_raised (f_X0_sizeOf a0) 1))) (tgt := 66) hx hb dX4_unitHolds_45 (by decide) (fun c2 => ?_) (fun c2 => ?_)
    · rw [if_neg c2] at hf
      refine lv_iconst (v := 1) hx hb dX4_unitHolds_66 (by decide) ?_
      refine lv_goto (tgt := 71) hx hb dX4_unitHolds_67 (by decide) ?_
      exact W.zret (v := b2i true) (ty := .boolean) hx hb hr (b2i_nar _) (fun t ht hW => ⟨_, rfl, congrArg b2i (Option.some.inj hf), ht⟩) (fun q hq => absurd hq List.not_mem_nil) dX4_unitHolds_71
    · rw [if_pos c2] at hf
      refine lv_lload hx hb dX4_unitHolds_48 (lv_at hl 0 rfl) ?_
      refine lv_lload hx hb dX4_unitHolds_50 (lv_at hl 1 rfl) ?_
      refine my_callPl (As := [.long (f_X0_sizeOf a0)]) (n := 1) (rest := [.long (f_X0_raised (f_X0_sizeOf a0) 1)]) ⟨hx, hb, hml, hown, hts⟩ (m_X0_opposite l (f_X0_sizeOf a0) _ rfl) gX4_unitHolds_X0_opposite rfl ⟨rfl, rfl⟩ (by decide +kernel) ⟨Nat.le_of_ble_eq_true rfl, Nat.le_of_ble_eq_true rfl⟩ ⟨Nat.le_of_ble_eq_true rfl, Nat.le_of_ble_eq_true rfl⟩ hl.1 rfl rfl (Nat.le_of_ble_eq_true rfl) dX4_unitHolds_52 ?_
      refine lv_lload_n hx hb dX4_unitHolds_55 rfl (lv_at hl 2 rfl) ?_
      refine my_callPl (As := [.long (f_X0_unitOf a0)]) (n := 1) (rest := [.long (f_X0_opposite (f_X0_sizeOf a0)), .long (f_X0_raised (f_X0_sizeOf a0) 1)]) ⟨hx, hb, hml, hown, hts⟩ (m_X0_opposite l (f_X0_unitOf a0) _ rfl) gX4_unitHolds_X0_opposite rfl ⟨rfl, rfl⟩ (by decide +kernel) ⟨Nat.le_of_ble_eq_true rfl, Nat.le_of_ble_eq_true rfl⟩ ⟨Nat.le_of_ble_eq_true rfl, Nat.le_of_ble_eq_true rfl⟩ hl.1 rfl rfl (Nat.le_of_ble_eq_true rfl) dX4_unitHolds_56 ?_
      refine lv_lconst (v := 0) hx hb dX4_unitHolds_59 (by decide) ?_
      obtain ⟨r3, er3, hf⟩ := ob_e hf
      refine my_callPi (As := [.long (f_X0_raised (f_X0_sizeOf a0) 1), .long (f_X0_opposite (f_X0_sizeOf a0)), .long (f_X0_opposite (f_X0_unitOf a0)), .long 0]) (n := 4) (rest := []) ⟨hx, hb, hml, hown, hts⟩ (m_X1_signOfSum l (f_X0_raised (f_X0_sizeOf a0) 1) (f_X0_opposite (f_X0_sizeOf a0)) (f_X0_opposite (f_X0_unitOf a0)) 0 _ er3) gX4_unitHolds_X1_signOfSum rfl ⟨rfl, rfl⟩ (by decide +kernel) ⟨Nat.le_of_ble_eq_true rfl, Nat.le_of_ble_eq_true rfl⟩ ⟨Nat.le_of_ble_eq_true rfl, Nat.le_of_ble_eq_true rfl⟩ hl.1 rfl rfl (Nat.le_of_ble_eq_true rfl) dX4_unitHolds_60 ?_
      refine my_if_ne (tgt := 70) hx hb dX4_unitHolds_63 (by decide) (fun c4 => ?_) (fun c4 => ?_)
      · rw [if_neg c4] at hf
        refine lv_iconst (v := 0) hx hb dX4_unitHolds_70 (by decide) ?_
        exact W.zret (v := b2i false) (ty := .boolean) hx hb hr (b2i_nar _) (fun t ht hW => ⟨_, rfl, congrArg b2i (Option.some.inj hf), ht⟩) (fun q hq => absurd hq List.not_mem_nil) dX4_unitHolds_71
      · rw [if_pos c4] at hf
        refine lv_iconst (v := 1) hx hb dX4_unitHolds_66 (by decide) ?_
        refine lv_goto (tgt := 71) hx hb dX4_unitHolds_67 (by decide) ?_
        exact W.zret (v := b2i true) (ty := .boolean) hx hb hr (b2i_nar _) (fun t ht hW => ⟨_, rfl, congrArg b2i (Option.some.inj hf), ht⟩) (fun q hq => absurd hq List.not_mem_nil) dX4_unitHolds_71
  · rw [if_neg c1] at hf
    refine lv_lload_n hx hb dX4_unitHolds_12 rfl (lv_at hl 0 rfl) ?_
    refine lv_ldc2 (v := 9218868437227405312) hx hb hown q1 dX4_unitHolds_13 ?_
    refine my_lc_ne (tgt := 24) hx hb dX4_unitHolds_16 dX4_unitHolds_17 (by decide) (fun c5 => ?_) (fun c5 => ?_)
    · rw [if_neg c5] at hf
      refine lv_iconst (v := 0) hx hb dX4_unitHolds_24 (by decide) ?_
      exact W.zret (v := b2i false) (ty := .boolean) hx hb hr (b2i_nar _) (fun t ht hW => ⟨_, rfl, congrArg b2i (Option.some.inj hf), ht⟩) (fun q hq => absurd hq List.not_mem_nil) dX4_unitHolds_25
    · rw [if_pos c5] at hf
      refine lv_iconst (v := 1) hx hb dX4_unitHolds_20 (by decide) ?_
      refine lv_goto (tgt := 25) hx hb dX4_unitHolds_21 (by decide) ?_
      exact W.zret (v := b2i true) (ty := .boolean) hx hb hr (b2i_nar _) (fun t ht hW => ⟨_, rfl, congrArg b2i (Option.some.inj hf), ht⟩) (fun q hq => absurd hq List.not_mem_nil) dX4_unitHolds_25

set_option maxHeartbeats 4000000 in
set_option maxRecDepth 100000 in
theorem m_X4_powersHold (l : Launch) (a0 : Int64) (res : Bool) (hf : f_X4_powersHold a0 = res) : Met l yX4_powersHold wsX4_powersHold rmX4_powersHold (my_PcP [.long a0]) (vp_Si (fun z => z = b2i res)) 0 0 (fun _ => False) := by
  refine Met.ofW (cc := cX4_powersHold) (maxL := 8) (ret := (some .boolean)) (by decide) rfl ?_
  intro p e s m args below meth c s₁ B hml hv
  obtain ⟨rfl, -⟩ := hv
  have hx := B.exec
  have hb := B.bytes
  have hr := B.returns
  have hts : ∀ w ∈ wsX4_powersHold, w.before ([.long a0] : List Value).toArray s = true := atoms_spec (ws := wsX4_powersHold) B.pre
  have hown : s.vm.findClass RX4 = some m.cls := findClass_of_methodNamed B.named
  have hlk : meth.locks = false := B.notSynchronized
  have hl := lv_entry ([.long a0]) (n := 8) (Nat.le_of_ble_eq_true rfl)
  rw [lg_entry_eq]
  generalize (lg_sl ([.long a0]) ++ List.replicate (8 - (lg_sl ([.long a0])).length) Slot.unset).toArray = ls at hl ⊢
  have hl : lv_has ls 8 [(0, .long a0)] := hl
  unfold f_X4_powersHold at hf
  refine lv_lload_n hx hb dX4_powersHold_0 rfl (lv_at hl 0 rfl) ?_
  refine my_callPi (As := [.long a0]) (n := 1) (rest := []) ⟨hx, hb, hml, hown, hts⟩ (m_X0_isZero l a0 _ rfl) gX4_powersHold_X0_isZero rfl ⟨rfl, rfl⟩ (by decide +kernel) ⟨Nat.le_of_ble_eq_true rfl, Nat.le_of_ble_eq_true rfl⟩ ⟨Nat.le_of_ble_eq_true rfl, Nat.le_of_ble_eq_true rfl⟩ hl.1 rfl rfl (Nat.le_of_ble_eq_true rfl) dX4_powersHold_1 ?_
  refine my_bz_ne (x := (f_X0_isZero a0)) (tgt := 14) hx hb dX4_powersHold_4 (by decide) (fun c1 => ?_) (fun c1 => ?_)
  · rw [if_neg c1] at hf
    refine lv_lload_n hx hb dX4_powersHold_14 rfl (lv_at hl 0 rfl) ?_
    refine lv_iconst (v := 1) hx hb dX4_powersHold_15 (by decide) ?_
    refine my_callPl (As := [.long a0, .int 1]) (n := 2) (rest := []) ⟨hx, hb, hml, hown, hts⟩ (m_X0_scaled l a0 1 _ rfl) gX4_powersHold_X0_scaled rfl ⟨rfl, rfl⟩ (by decide +kernel) ⟨Nat.le_of_ble_eq_true rfl, Nat.le_of_ble_eq_true rfl⟩ ⟨Nat.le_of_ble_eq_true rfl, Nat.le_of_ble_eq_true rfl⟩ hl.1 rfl rfl (Nat.le_of_ble_eq_true rfl) dX4_powersHold_16 ?_
    refine lv_lload_n hx hb dX4_powersHold_19 rfl (lv_at hl 0 rfl) ?_
    refine my_lc_ne (tgt := 28) hx hb dX4_powersHold_20 dX4_powersHold_21 (by decide) (fun c2 => ?_) (fun c2 => ?_)
    · rw [if_neg c2] at hf
      refine lv_iconst (v := 0) hx hb dX4_powersHold_28 (by decide) ?_
      exact W.zret (v := b2i false) (ty := .boolean) hx hb hr (b2i_nar _) (fun t ht hW => ⟨_, rfl, congrArg b2i (hf), ht⟩) (fun q hq => absurd hq List.not_mem_nil) dX4_powersHold_29
    · rw [if_pos c2] at hf
      refine lv_iconst (v := 1) hx hb dX4_powersHold_24 (by decide) ?_
      refine lv_goto (tgt := 29) hx hb dX4_powersHold_25 (by decide) ?_
      exact W.zret (v := b2i true) (ty := .boolean) hx hb hr (b2i_nar _) (fun t ht hW => ⟨_, rfl, congrArg b2i (hf), ht⟩) (fun q hq => absurd hq List.not_mem_nil) dX4_powersHold_29
  · rw [if_pos c1] at hf
    refine lv_lload_n hx hb dX4_powersHold_7 rfl (lv_at hl 0 rfl) ?_
    refine my_callPi (As := [.long a0]) (n := 1) (rest := []) ⟨hx, hb, hml, hown, hts⟩ (m_X0_hasNoEnd l a0 _ rfl) gX4_powersHold_X0_hasNoEnd rfl ⟨rfl, rfl⟩ (by decide +kernel) ⟨Nat.le_of_ble_eq_true rfl, Nat.le_of_ble_eq_true rfl⟩ ⟨Nat.le_of_ble_eq_true rfl, Nat.le_of_ble_eq_true rfl⟩ hl.1 rfl rfl (Nat.le_of_ble_eq_true rfl) dX4_powersHold_8 ?_
    refine my_bz_eq (x := (f_X0_hasNoEnd a0)) (tgt := 30) hx hb dX4_powersHold_11 (by decide) (fun c3 => ?_) (fun c3 => ?_)
    · rw [if_pos c3] at hf
      refine lv_lload_n hx hb dX4_powersHold_30 rfl (lv_at hl 0 rfl) ?_
      refine my_callPl (As := [.long a0]) (n := 1) (rest := []) ⟨hx, hb, hml, hown, hts⟩ (m_X0_sizeOf l a0 _ rfl) gX4_powersHold_X0_sizeOf rfl ⟨rfl, rfl⟩ (by decide +kernel) ⟨Nat.le_of_ble_eq_true rfl, Nat.le_of_ble_eq_true rfl⟩ ⟨Nat.le_of_ble_eq_true rfl, Nat.le_of_ble_eq_true rfl⟩ hl.1 rfl rfl (Nat.le_of_ble_eq_true rfl) dX4_powersHold_31 ?_
      refine lv_lstore_n (lv' := [(2, .long (f_X0_sizeOf a0)), (0, .long a0)]) hx hb dX4_powersHold_34 rfl hl (by decide) rfl (fun ls hl => ?_)
      refine lv_lload_n hx hb dX4_powersHold_35 rfl (lv_at hl 1 rfl) ?_
      refine my_callPi (As := [.long a0]) (n := 1) (rest := []) ⟨hx, hb, hml, hown, hts⟩ (m_X0_leadOf l a0 _ rfl) gX4_powersHold_X0_leadOf rfl ⟨rfl, rfl⟩ (by decide +kernel) ⟨Nat.le_of_ble_eq_true rfl, Nat.le_of_ble_eq_true rfl⟩ ⟨Nat.le_of_ble_eq_true rfl, Nat.le_of_ble_eq_true rfl⟩ hl.1 rfl rfl (Nat.le_of_ble_eq_true rfl) dX4_powersHold_36 ?_
      refine my_callPl (As := [.int (f_X0_leadOf a0)]) (n := 1) (rest := []) ⟨hx, hb, hml, hown, hts⟩ (m_X0_powerOfTwo l (f_X0_leadOf a0) _ rfl) gX4_powersHold_X0_powerOfTwo rfl ⟨rfl, rfl⟩ (by decide +kernel) ⟨Nat.le_of_ble_eq_true rfl, Nat.le_of_ble_eq_true rfl⟩ ⟨Nat.le_of_ble_eq_true rfl, Nat.le_of_ble_eq_true rfl⟩ hl.1 rfl rfl (Nat.le_of_ble_eq_true rfl) dX4_powersHold_39 ?_
      refine lv_lstore (lv' := [(4, .long (f_X0_powerOfTwo (f_X0_leadOf a0))), (2, .long (f_X0_sizeOf a0)), (0, .long a0)]) hx hb dX4_powersHold_42 hl (by decide) rfl (fun ls hl => ?_)
      refine lv_lload_n hx hb dX4_powersHold_44 rfl (lv_at hl 2 rfl) ?_
      refine lv_iconst (v := 1) hx hb dX4_powersHold_45 (by decide) ?_
      refine my_callPl (As := [.long a0, .int 1]) (n := 2) (rest := []) ⟨hx, hb, hml, hown, hts⟩ (m_X0_scaled l a0 1 _ rfl) gX4_powersHold_X0_scaled rfl ⟨rfl, rfl⟩ (by decide +kernel) ⟨Nat.le_of_ble_eq_true rfl, Nat.le_of_ble_eq_true rfl⟩ ⟨Nat.le_of_ble_eq_true rfl, Nat.le_of_ble_eq_true rfl⟩ hl.1 rfl rfl (Nat.le_of_ble_eq_true rfl) dX4_powersHold_46 ?_
      refine lv_lstore (lv' := [(6, .long (f_X0_scaled a0 1)), (4, .long (f_X0_powerOfTwo (f_X0_leadOf a0))), (2, .long (f_X0_sizeOf a0)), (0, .long a0)]) hx hb dX4_powersHold_49 hl (by decide) rfl (fun ls hl => ?_)
      refine lv_lload_n hx hb dX4_powersHold_51 rfl (lv_at hl 3 rfl) ?_
      refine my_callPi (As := [.long a0]) (n := 1) (rest := []) ⟨hx, hb, hml, hown, hts⟩ (m_X0_tailOf l a0 _ rfl) gX4_powersHold_X0_tailOf rfl ⟨rfl, rfl⟩ (by decide +kernel) ⟨Nat.le_of_ble_eq_true rfl, Nat.le_of_ble_eq_true rfl⟩ ⟨Nat.le_of_ble_eq_true rfl, Nat.le_of_ble_eq_true rfl⟩ hl.1 rfl rfl (Nat.le_of_ble_eq_true rfl) dX4_powersHold_52 ?_
      refine lv_lload_n hx hb dX4_powersHold_55 rfl (lv_at hl 3 rfl) ?_
      refine my_callPi (As := [.long a0]) (n := 1) (rest := [.int (f_X0_tailOf a0)]) ⟨hx, hb, hml, hown, hts⟩ (m_X0_leadOf l a0 _ rfl) gX4_powersHold_X0_leadOf rfl ⟨rfl, rfl⟩ (by decide +kernel) ⟨Nat.le_of_ble_eq_true rfl, Nat.le_of_ble_eq_true rfl⟩ ⟨Nat.le_of_ble_eq_true rfl, Nat.le_of_ble_eq_true rfl⟩ hl.1 rfl rfl (Nat.le_of_ble_eq_true rfl) dX4_powersHold_56 ?_
      refine my_ic_gt (tgt := 107) hx hb dX4_powersHold_59 (by decide) (fun c4 => ?_) (fun c4 => ?_)
      · rw [if_pos c4] at hf
        refine lv_iconst (v := 0) hx hb dX4_powersHold_107 (by decide) ?_
        exact W.zret (v := b2i false) (ty := .boolean) hx hb hr (b2i_nar _) (fun t ht hW => ⟨_, rfl, congrArg b2i (hf), ht⟩) (fun q hq => absurd hq List.not_mem_nil) dX4_powersHold_108
      · rw [if_neg c4] at hf
        refine lv_lload hx hb dX4_powersHold_62 (lv_at hl 1 rfl) ?_
        refine lv_lload_n hx hb dX4_powersHold_64 rfl (lv_at hl 2 rfl) ?_
        refine my_callPi (As := [.long (f_X0_powerOfTwo (f_X0_leadOf a0)), .long (f_X0_sizeOf a0)]) (n := 2) (rest := []) ⟨hx, hb, hml, hown, hts⟩ (m_X0_order l (f_X0_powerOfTwo (f_X0_leadOf a0)) (f_X0_sizeOf a0) _ rfl) gX4_powersHold_X0_order rfl ⟨rfl, rfl⟩ (by decide +kernel) ⟨Nat.le_of_ble_eq_true rfl, Nat.le_of_ble_eq_true rfl⟩ ⟨Nat.le_of_ble_eq_true rfl, Nat.le_of_ble_eq_true rfl⟩ hl.1 rfl rfl (Nat.le_of_ble_eq_true rfl) dX4_powersHold_65 ?_
        refine my_if_gt (tgt := 107) hx hb dX4_powersHold_68 (by decide) (fun c5 => ?_) (fun c5 => ?_)
        · rw [if_pos c5] at hf
          refine lv_iconst (v := 0) hx hb dX4_powersHold_107 (by decide) ?_
          exact W.zret (v := b2i false) (ty := .boolean) hx hb hr (b2i_nar _) (fun t ht hW => ⟨_, rfl, congrArg b2i (hf), ht⟩) (fun q hq => absurd hq List.not_mem_nil) dX4_powersHold_108
        · rw [if_neg c5] at hf
          refine lv_lload_n hx hb dX4_powersHold_71 rfl (lv_at hl 2 rfl) ?_
          refine lv_lload hx hb dX4_powersHold_72 (lv_at hl 1 rfl) ?_
          refine lv_iconst (v := 1) hx hb dX4_powersHold_74 (by decide) ?_
          refine my_callPl (As := [.long (f_X0_powerOfTwo (f_X0_leadOf a0)), .int 1]) (n := 2) (rest := [.long (f_X0_sizeOf a0)]) ⟨hx, hb, hml, hown, hts⟩ (m_X0_scaled l (f_X0_powerOfTwo (f_X0_leadOf a0)) 1 _ rfl) gX4_powersHold_X0_scaled rfl ⟨rfl, rfl⟩ (by decide +kernel) ⟨Nat.le_of_ble_eq_true rfl, Nat.le_of_ble_eq_true rfl⟩ ⟨Nat.le_of_ble_eq_true rfl, Nat.le_of_ble_eq_true rfl⟩ hl.1 rfl rfl (Nat.le_of_ble_eq_true rfl) dX4_powersHold_75 ?_
          refine my_callPi (As := [.long (f_X0_sizeOf a0), .long (f_X0_scaled (f_X0_powerOfTwo (f_X0_leadOf a0)) 1)]) (n := 2) (rest := []) ⟨hx, hb, hml, hown, hts⟩ (m_X0_order l (f_X0_sizeOf a0) (f_X0_scaled (f_X0_powerOfTwo (f_X0_leadOf a0)) 1) _ rfl) gX4_powersHold_X0_order rfl ⟨rfl, rfl⟩ (by decide +kernel) ⟨Nat.le_of_ble_eq_true rfl, Nat.le_of_ble_eq_true rfl⟩ ⟨Nat.le_of_ble_eq_true rfl, Nat.le_of_ble_eq_true rfl⟩ hl.1 rfl rfl (Nat.le_of_ble_eq_true rfl) dX4_powersHold_78 ?_
          refine my_if_ge (tgt := 107) hx hb dX4_powersHold_81 (by decide) (fun c6 => ?_) (fun c6 => ?_)
          · rw [if_neg c6] at hf
            refine lv_iconst (v := 0) hx hb dX4_powersHold_107 (by decide) ?_
            exact W.zret (v := b2i false) (ty := .boolean) hx hb hr (b2i_nar _) (fun t ht hW => ⟨_, rfl, congrArg b2i (hf), ht⟩) (fun q hq => absurd hq List.not_mem_nil) dX4_powersHold_108
          · rw [if_pos c6] at hf
            refine lv_lload hx hb dX4_powersHold_84 (lv_at hl 0 rfl) ?_
            refine my_callPi (As := [.long (f_X0_scaled a0 1)]) (n := 1) (rest := []) ⟨hx, hb, hml, hown, hts⟩ (m_X0_hasNoEnd l (f_X0_scaled a0 1) _ rfl) gX4_powersHold_X0_hasNoEnd rfl ⟨rfl, rfl⟩ (by decide +kernel) ⟨Nat.le_of_ble_eq_true rfl, Nat.le_of_ble_eq_true rfl⟩ ⟨Nat.le_of_ble_eq_true rfl, Nat.le_of_ble_eq_true rfl⟩ hl.1 rfl rfl (Nat.le_of_ble_eq_true rfl) dX4_powersHold_86 ?_
            refine my_bz_ne (x := (f_X0_hasNoEnd (f_X0_scaled a0 1))) (tgt := 103) hx hb dX4_powersHold_89 (by decide) (fun c7 => ?_) (fun c7 => ?_)
            · rw [if_neg c7] at hf
              refine lv_iconst (v := 1) hx hb dX4_powersHold_103 (by decide) ?_
              refine lv_goto (tgt := 108) hx hb dX4_powersHold_104 (by decide) ?_
              exact W.zret (v := b2i true) (ty := .boolean) hx hb hr (b2i_nar _) (fun t ht hW => ⟨_, rfl, congrArg b2i (hf), ht⟩) (fun q hq => absurd hq List.not_mem_nil) dX4_powersHold_108
            · rw [if_pos c7] at hf
              refine lv_lload hx hb dX4_powersHold_92 (lv_at hl 0 rfl) ?_
              refine lv_iconst (v := (-1)) hx hb dX4_powersHold_94 (by decide) ?_
              refine my_callPl (As := [.long (f_X0_scaled a0 1), .int (-1)]) (n := 2) (rest := []) ⟨hx, hb, hml, hown, hts⟩ (m_X0_scaled l (f_X0_scaled a0 1) (-1) _ rfl) gX4_powersHold_X0_scaled rfl ⟨rfl, rfl⟩ (by decide +kernel) ⟨Nat.le_of_ble_eq_true rfl, Nat.le_of_ble_eq_true rfl⟩ ⟨Nat.le_of_ble_eq_true rfl, Nat.le_of_ble_eq_true rfl⟩ hl.1 rfl rfl (Nat.le_of_ble_eq_true rfl) dX4_powersHold_95 ?_
              refine lv_lload_n hx hb dX4_powersHold_98 rfl (lv_at hl 3 rfl) ?_
              refine my_lc_ne (tgt := 107) hx hb dX4_powersHold_99 dX4_powersHold_100 (by decide) (fun c8 => ?_) (fun c8 => ?_)
              · rw [if_neg c8] at hf
                refine lv_iconst (v := 0) hx hb dX4_powersHold_107 (by decide) ?_
                exact W.zret (v := b2i false) (ty := .boolean) hx hb hr (b2i_nar _) (fun t ht hW => ⟨_, rfl, congrArg b2i (hf), ht⟩) (fun q hq => absurd hq List.not_mem_nil) dX4_powersHold_108
              · rw [if_pos c8] at hf
                refine lv_iconst (v := 1) hx hb dX4_powersHold_103 (by decide) ?_
                refine lv_goto (tgt := 108) hx hb dX4_powersHold_104 (by decide) ?_
                exact W.zret (v := b2i true) (ty := .boolean) hx hb hr (b2i_nar _) (fun t ht hW => ⟨_, rfl, congrArg b2i (hf), ht⟩) (fun q hq => absurd hq List.not_mem_nil) dX4_powersHold_108
    · rw [if_neg c3] at hf
      refine lv_lload_n hx hb dX4_powersHold_14 rfl (lv_at hl 0 rfl) ?_
      refine lv_iconst (v := 1) hx hb dX4_powersHold_15 (by decide) ?_
      refine my_callPl (As := [.long a0, .int 1]) (n := 2) (rest := []) ⟨hx, hb, hml, hown, hts⟩ (m_X0_scaled l a0 1 _ rfl) gX4_powersHold_X0_scaled rfl ⟨rfl, rfl⟩ (by decide +kernel) ⟨Nat.le_of_ble_eq_true rfl, Nat.le_of_ble_eq_true rfl⟩ ⟨Nat.le_of_ble_eq_true rfl, Nat.le_of_ble_eq_true rfl⟩ hl.1 rfl rfl (Nat.le_of_ble_eq_true rfl) dX4_powersHold_16 ?_
      refine lv_lload_n hx hb dX4_powersHold_19 rfl (lv_at hl 0 rfl) ?_
      refine my_lc_ne (tgt := 28) hx hb dX4_powersHold_20 dX4_powersHold_21 (by decide) (fun c9 => ?_) (fun c9 => ?_)
      · rw [if_neg c9] at hf
        refine lv_iconst (v := 0) hx hb dX4_powersHold_28 (by decide) ?_
        exact W.zret (v := b2i false) (ty := .boolean) hx hb hr (b2i_nar _) (fun t ht hW => ⟨_, rfl, congrArg b2i (hf), ht⟩) (fun q hq => absurd hq List.not_mem_nil) dX4_powersHold_29
      · rw [if_pos c9] at hf
        refine lv_iconst (v := 1) hx hb dX4_powersHold_24 (by decide) ?_
        refine lv_goto (tgt := 29) hx hb dX4_powersHold_25 (by decide) ?_
        exact W.zret (v := b2i true) (ty := .boolean) hx hb hr (b2i_nar _) (fun t ht hW => ⟨_, rfl, congrArg b2i (hf), ht⟩) (fun q hq => absurd hq List.not_mem_nil) dX4_powersHold_29

set_option maxHeartbeats 4000000 in
set_option maxRecDepth 100000 in
theorem m_X4_holdsAt (l : Launch) (a0 : Int64) (res : Bool) (hf : f_X4_holdsAt a0 = some res) : Met l yX4_holdsAt wsX4_holdsAt rmX4_holdsAt (my_PcP [.long a0]) (vp_Si (fun z => z = b2i res)) 0 0 (fun _ => False) := by
  refine Met.ofW (cc := cX4_holdsAt) (maxL := 2) (ret := (some .boolean)) (by decide) rfl ?_
  intro p e s m args below meth c s₁ B hml hv
  obtain ⟨rfl, -⟩ := hv
  have hx := B.exec
  have hb := B.bytes
  have hr := B.returns
  have hts : ∀ w ∈ wsX4_holdsAt, w.before ([.long a0] : List Value).toArray s = true := atoms_spec (ws := wsX4_holdsAt) B.pre
  have hown : s.vm.findClass RX4 = some m.cls := findClass_of_methodNamed B.named
  have hlk : meth.locks = false := B.notSynchronized
  have hl := lv_entry ([.long a0]) (n := 2) (Nat.le_of_ble_eq_true rfl)
  rw [lg_entry_eq]
  generalize (lg_sl ([.long a0]) ++ List.replicate (2 - (lg_sl ([.long a0])).length) Slot.unset).toArray = ls at hl ⊢
  have hl : lv_has ls 2 [(0, .long a0)] := hl
  unfold f_X4_holdsAt at hf
  refine lv_lload_n hx hb dX4_holdsAt_0 rfl (lv_at hl 0 rfl) ?_
  refine my_callPi (As := [.long a0]) (n := 1) (rest := []) ⟨hx, hb, hml, hown, hts⟩ (m_X4_stepsHold l a0 _ rfl) gX4_holdsAt_X4_stepsHold rfl ⟨rfl, rfl⟩ (by decide +kernel) ⟨Nat.le_of_ble_eq_true rfl, Nat.le_of_ble_eq_true rfl⟩ ⟨Nat.le_of_ble_eq_true rfl, Nat.le_of_ble_eq_true rfl⟩ hl.1 rfl rfl (Nat.le_of_ble_eq_true rfl) dX4_holdsAt_1 ?_
  refine my_bz_eq (x := (f_X4_stepsHold a0)) (tgt := 35) hx hb dX4_holdsAt_4 (by decide) (fun c1 => ?_) (fun c1 => ?_)
  · rw [if_pos c1] at hf
    refine lv_iconst (v := 0) hx hb dX4_holdsAt_35 (by decide) ?_
    exact W.zret (v := b2i false) (ty := .boolean) hx hb hr (b2i_nar _) (fun t ht hW => ⟨_, rfl, congrArg b2i (Option.some.inj hf), ht⟩) (fun q hq => absurd hq List.not_mem_nil) dX4_holdsAt_36
  · rw [if_neg c1] at hf
    refine lv_lload_n hx hb dX4_holdsAt_7 rfl (lv_at hl 0 rfl) ?_
    refine my_callPl (As := [.long a0]) (n := 1) (rest := []) ⟨hx, hb, hml, hown, hts⟩ (m_X0_opposite l a0 _ rfl) gX4_holdsAt_X0_opposite rfl ⟨rfl, rfl⟩ (by decide +kernel) ⟨Nat.le_of_ble_eq_true rfl, Nat.le_of_ble_eq_true rfl⟩ ⟨Nat.le_of_ble_eq_true rfl, Nat.le_of_ble_eq_true rfl⟩ hl.1 rfl rfl (Nat.le_of_ble_eq_true rfl) dX4_holdsAt_8 ?_
    refine my_callPi (As := [.long (f_X0_opposite a0)]) (n := 1) (rest := []) ⟨hx, hb, hml, hown, hts⟩ (m_X4_stepsHold l (f_X0_opposite a0) _ rfl) gX4_holdsAt_X4_stepsHold rfl ⟨rfl, rfl⟩ (by decide +kernel) ⟨Nat.le_of_ble_eq_true rfl, Nat.le_of_ble_eq_true rfl⟩ ⟨Nat.le_of_ble_eq_true rfl, Nat.le_of_ble_eq_true rfl⟩ hl.1 rfl rfl (Nat.le_of_ble_eq_true rfl) dX4_holdsAt_11 ?_
    refine my_bz_eq (x := (f_X4_stepsHold (f_X0_opposite a0))) (tgt := 35) hx hb dX4_holdsAt_14 (by decide) (fun c2 => ?_) (fun c2 => ?_)
    · rw [if_pos c2] at hf
      refine lv_iconst (v := 0) hx hb dX4_holdsAt_35 (by decide) ?_
      exact W.zret (v := b2i false) (ty := .boolean) hx hb hr (b2i_nar _) (fun t ht hW => ⟨_, rfl, congrArg b2i (Option.some.inj hf), ht⟩) (fun q hq => absurd hq List.not_mem_nil) dX4_holdsAt_36
    · rw [if_neg c2] at hf
      refine lv_lload_n hx hb dX4_holdsAt_17 rfl (lv_at hl 0 rfl) ?_
      obtain ⟨r3, er3, hf⟩ := ob_e hf
      refine my_callPi (As := [.long a0]) (n := 1) (rest := []) ⟨hx, hb, hml, hown, hts⟩ (m_X4_unitHolds l a0 _ er3) gX4_holdsAt_X4_unitHolds rfl ⟨rfl, rfl⟩ (by decide +kernel) ⟨Nat.le_of_ble_eq_true rfl, Nat.le_of_ble_eq_true rfl⟩ ⟨Nat.le_of_ble_eq_true rfl, Nat.le_of_ble_eq_true rfl⟩ hl.1 rfl rfl (Nat.le_of_ble_eq_true rfl) dX4_holdsAt_18 ?_
      refine my_bz_eq (x := r3) (tgt := 35) hx hb dX4_holdsAt_21 (by decide) (fun c4 => ?_) (fun c4 => ?_)
      · rw [if_pos c4] at hf
        refine lv_iconst (v := 0) hx hb dX4_holdsAt_35 (by decide) ?_
        exact W.zret (v := b2i false) (ty := .boolean) hx hb hr (b2i_nar _) (fun t ht hW => ⟨_, rfl, congrArg b2i (Option.some.inj hf), ht⟩) (fun q hq => absurd hq List.not_mem_nil) dX4_holdsAt_36
      · rw [if_neg c4] at hf
        refine lv_lload_n hx hb dX4_holdsAt_24 rfl (lv_at hl 0 rfl) ?_
        refine my_callPi (As := [.long a0]) (n := 1) (rest := []) ⟨hx, hb, hml, hown, hts⟩ (m_X4_powersHold l a0 _ rfl) gX4_holdsAt_X4_powersHold rfl ⟨rfl, rfl⟩ (by decide +kernel) ⟨Nat.le_of_ble_eq_true rfl, Nat.le_of_ble_eq_true rfl⟩ ⟨Nat.le_of_ble_eq_true rfl, Nat.le_of_ble_eq_true rfl⟩ hl.1 rfl rfl (Nat.le_of_ble_eq_true rfl) dX4_holdsAt_25 ?_
        refine my_bz_eq (x := (f_X4_powersHold a0)) (tgt := 35) hx hb dX4_holdsAt_28 (by decide) (fun c5 => ?_) (fun c5 => ?_)
        · rw [if_pos c5] at hf
          refine lv_iconst (v := 0) hx hb dX4_holdsAt_35 (by decide) ?_
          exact W.zret (v := b2i false) (ty := .boolean) hx hb hr (b2i_nar _) (fun t ht hW => ⟨_, rfl, congrArg b2i (Option.some.inj hf), ht⟩) (fun q hq => absurd hq List.not_mem_nil) dX4_holdsAt_36
        · rw [if_neg c5] at hf
          refine lv_iconst (v := 1) hx hb dX4_holdsAt_31 (by decide) ?_
          refine lv_goto (tgt := 36) hx hb dX4_holdsAt_32 (by decide) ?_
          exact W.zret (v := b2i true) (ty := .boolean) hx hb hr (b2i_nar _) (fun t ht hW => ⟨_, rfl, congrArg b2i (Option.some.inj hf), ht⟩) (fun q hq => absurd hq List.not_mem_nil) dX4_holdsAt_36

set_option maxHeartbeats 4000000 in
set_option maxRecDepth 100000 in
theorem m_X4_stepHolds (l : Launch) (a0 : Int64) (a1 : Int64) (res : Bool) (hf : f_X4_stepHolds a0 a1 = res) : Met l yX4_stepHolds wsX4_stepHolds rmX4_stepHolds (my_PcP [.long a0, .long a1]) (vp_Si (fun z => z = b2i res)) 0 0 (fun _ => False) := by
  refine Met.ofW (cc := cX4_stepHolds) (maxL := 6) (ret := (some .boolean)) (by decide) rfl ?_
  intro p e s m args below meth c s₁ B hml hv
  obtain ⟨rfl, -⟩ := hv
  have hx := B.exec
  have hb := B.bytes
  have hr := B.returns
  have hts : ∀ w ∈ wsX4_stepHolds, w.before ([.long a0, .long a1] : List Value).toArray s = true := atoms_spec (ws := wsX4_stepHolds) B.pre
  have hown : s.vm.findClass RX4 = some m.cls := findClass_of_methodNamed B.named
  have hlk : meth.locks = false := B.notSynchronized
  have hl := lv_entry ([.long a0, .long a1]) (n := 6) (Nat.le_of_ble_eq_true rfl)
  rw [lg_entry_eq]
  generalize (lg_sl ([.long a0, .long a1]) ++ List.replicate (6 - (lg_sl ([.long a0, .long a1])).length) Slot.unset).toArray = ls at hl ⊢
  have hl : lv_has ls 6 [(0, .long a0), (2, .long a1)] := hl
  unfold f_X4_stepHolds at hf
  refine lv_lload_n hx hb dX4_stepHolds_0 rfl (lv_at hl 0 rfl) ?_
  refine lv_lload_n hx hb dX4_stepHolds_1 rfl (lv_at hl 1 rfl) ?_
  refine my_callPl (As := [.long a0, .long a1]) (n := 2) (rest := []) ⟨hx, hb, hml, hown, hts⟩ (m_X0_nearer l a0 a1 _ rfl) gX4_stepHolds_X0_nearer rfl ⟨rfl, rfl⟩ (by decide +kernel) ⟨Nat.le_of_ble_eq_true rfl, Nat.le_of_ble_eq_true rfl⟩ ⟨Nat.le_of_ble_eq_true rfl, Nat.le_of_ble_eq_true rfl⟩ hl.1 rfl rfl (Nat.le_of_ble_eq_true rfl) dX4_stepHolds_2 ?_
  refine lv_lstore (lv' := [(4, .long (f_X0_nearer a0 a1)), (0, .long a0), (2, .long a1)]) hx hb dX4_stepHolds_5 hl (by decide) rfl (fun ls hl => ?_)
  refine lv_lload_n hx hb dX4_stepHolds_7 rfl (lv_at hl 1 rfl) ?_
  refine lv_lload_n hx hb dX4_stepHolds_8 rfl (lv_at hl 2 rfl) ?_
  refine my_callPi (As := [.long a0, .long a1]) (n := 2) (rest := []) ⟨hx, hb, hml, hown, hts⟩ (m_X0_order l a0 a1 _ rfl) gX4_stepHolds_X0_order rfl ⟨rfl, rfl⟩ (by decide +kernel) ⟨Nat.le_of_ble_eq_true rfl, Nat.le_of_ble_eq_true rfl⟩ ⟨Nat.le_of_ble_eq_true rfl, Nat.le_of_ble_eq_true rfl⟩ hl.1 rfl rfl (Nat.le_of_ble_eq_true rfl) dX4_stepHolds_9 ?_
  refine my_if_ne (tgt := 28) hx hb dX4_stepHolds_12 (by decide) (fun c1 => ?_) (fun c1 => ?_)
  · rw [if_neg c1] at hf
    refine lv_lload hx hb dX4_stepHolds_28 (lv_at hl 0 rfl) ?_
    refine lv_lload_n hx hb dX4_stepHolds_30 rfl (lv_at hl 2 rfl) ?_
    refine my_callPl (As := [.long (f_X0_nearer a0 a1), .long a1]) (n := 2) (rest := []) ⟨hx, hb, hml, hown, hts⟩ (m_X0_distance l (f_X0_nearer a0 a1) a1 _ rfl) gX4_stepHolds_X0_distance rfl ⟨rfl, rfl⟩ (by decide +kernel) ⟨Nat.le_of_ble_eq_true rfl, Nat.le_of_ble_eq_true rfl⟩ ⟨Nat.le_of_ble_eq_true rfl, Nat.le_of_ble_eq_true rfl⟩ hl.1 rfl rfl (Nat.le_of_ble_eq_true rfl) dX4_stepHolds_31 ?_
    refine lv_lload_n hx hb dX4_stepHolds_34 rfl (lv_at hl 1 rfl) ?_
    refine lv_lload_n hx hb dX4_stepHolds_35 rfl (lv_at hl 2 rfl) ?_
    refine my_callPl (As := [.long a0, .long a1]) (n := 2) (rest := [.long (f_X0_distance (f_X0_nearer a0 a1) a1)]) ⟨hx, hb, hml, hown, hts⟩ (m_X0_distance l a0 a1 _ rfl) gX4_stepHolds_X0_distance rfl ⟨rfl, rfl⟩ (by decide +kernel) ⟨Nat.le_of_ble_eq_true rfl, Nat.le_of_ble_eq_true rfl⟩ ⟨Nat.le_of_ble_eq_true rfl, Nat.le_of_ble_eq_true rfl⟩ hl.1 rfl rfl (Nat.le_of_ble_eq_true rfl) dX4_stepHolds_36 ?_
    refine lv_lconst (v := 1) hx hb dX4_stepHolds_39 (by decide) ?_
    refine lv_lsub hx hb dX4_stepHolds_40 ?_
    refine my_lc_ne (tgt := 49) hx hb dX4_stepHolds_41 dX4_stepHolds_42 (by decide) (fun c2 => ?_) (fun c2 => ?_)
    · rw [if_neg c2] at hf
      refine lv_iconst (v := 0) hx hb dX4_stepHolds_49 (by decide) ?_
      exact W.zret (v := b2i false) (ty := .boolean) hx hb hr (b2i_nar _) (fun t ht hW => ⟨_, rfl, congrArg b2i (hf), ht⟩) (fun q hq => absurd hq List.not_mem_nil) dX4_stepHolds_50
    · rw [if_pos c2] at hf
      refine lv_iconst (v := 1) hx hb dX4_stepHolds_45 (by decide) ?_
      refine lv_goto (tgt := 50) hx hb dX4_stepHolds_46 (by decide) ?_
      exact W.zret (v := b2i true) (ty := .boolean) hx hb hr (b2i_nar _) (fun t ht hW => ⟨_, rfl, congrArg b2i (hf), ht⟩) (fun q hq => absurd hq List.not_mem_nil) dX4_stepHolds_50
  · rw [if_pos c1] at hf
    refine lv_lload hx hb dX4_stepHolds_15 (lv_at hl 0 rfl) ?_
    refine lv_lload_n hx hb dX4_stepHolds_17 rfl (lv_at hl 2 rfl) ?_
    refine my_lc_ne (tgt := 26) hx hb dX4_stepHolds_18 dX4_stepHolds_19 (by decide) (fun c3 => ?_) (fun c3 => ?_)
    · rw [if_neg c3] at hf
      refine lv_iconst (v := 0) hx hb dX4_stepHolds_26 (by decide) ?_
      exact W.zret (v := b2i false) (ty := .boolean) hx hb hr (b2i_nar _) (fun t ht hW => ⟨_, rfl, congrArg b2i (hf), ht⟩) (fun q hq => absurd hq List.not_mem_nil) dX4_stepHolds_27
    · rw [if_pos c3] at hf
      refine lv_iconst (v := 1) hx hb dX4_stepHolds_22 (by decide) ?_
      refine lv_goto (tgt := 27) hx hb dX4_stepHolds_23 (by decide) ?_
      exact W.zret (v := b2i true) (ty := .boolean) hx hb hr (b2i_nar _) (fun t ht hW => ⟨_, rfl, congrArg b2i (hf), ht⟩) (fun q hq => absurd hq List.not_mem_nil) dX4_stepHolds_27

set_option maxHeartbeats 4000000 in
set_option maxRecDepth 100000 in
theorem m_X4_holdsBetween (l : Launch) (a0 : Int64) (a1 : Int64) (res : Bool) (hf : f_X4_holdsBetween a0 a1 = res) : Met l yX4_holdsBetween wsX4_holdsBetween rmX4_holdsBetween (my_PcP [.long a0, .long a1]) (vp_Si (fun z => z = b2i res)) 0 0 (fun _ => False) := by
  refine Met.ofW (cc := cX4_holdsBetween) (maxL := 4) (ret := (some .boolean)) (by decide) rfl ?_
  intro p e s m args below meth c s₁ B hml hv
  obtain ⟨rfl, -⟩ := hv
  have hx := B.exec
  have hb := B.bytes
  have hr := B.returns
  have hts : ∀ w ∈ wsX4_holdsBetween, w.before ([.long a0, .long a1] : List Value).toArray s = true := atoms_spec (ws := wsX4_holdsBetween) B.pre
  have hown : s.vm.findClass RX4 = some m.cls := findClass_of_methodNamed B.named
  have hlk : meth.locks = false := B.notSynchronized
  have hl := lv_entry ([.long a0, .long a1]) (n := 4) (Nat.le_of_ble_eq_true rfl)
  rw [lg_entry_eq]
  generalize (lg_sl ([.long a0, .long a1]) ++ List.replicate (4 - (lg_sl ([.long a0, .long a1])).length) Slot.unset).toArray = ls at hl ⊢
  have hl : lv_has ls 4 [(0, .long a0), (2, .long a1)] := hl
  unfold f_X4_holdsBetween at hf
  refine lv_lload_n hx hb dX4_holdsBetween_0 rfl (lv_at hl 0 rfl) ?_
  refine lv_lload_n hx hb dX4_holdsBetween_1 rfl (lv_at hl 1 rfl) ?_
  refine my_callPi (As := [.long a0, .long a1]) (n := 2) (rest := []) ⟨hx, hb, hml, hown, hts⟩ (m_X0_order l a0 a1 _ rfl) gX4_holdsBetween_X0_order rfl ⟨rfl, rfl⟩ (by decide +kernel) ⟨Nat.le_of_ble_eq_true rfl, Nat.le_of_ble_eq_true rfl⟩ ⟨Nat.le_of_ble_eq_true rfl, Nat.le_of_ble_eq_true rfl⟩ hl.1 rfl rfl (Nat.le_of_ble_eq_true rfl) dX4_holdsBetween_2 ?_
  refine lv_lload_n hx hb dX4_holdsBetween_5 rfl (lv_at hl 1 rfl) ?_
  refine lv_lload_n hx hb dX4_holdsBetween_6 rfl (lv_at hl 0 rfl) ?_
  refine my_callPi (As := [.long a1, .long a0]) (n := 2) (rest := [.int (f_X0_order a0 a1)]) ⟨hx, hb, hml, hown, hts⟩ (m_X0_order l a1 a0 _ rfl) gX4_holdsBetween_X0_order rfl ⟨rfl, rfl⟩ (by decide +kernel) ⟨Nat.le_of_ble_eq_true rfl, Nat.le_of_ble_eq_true rfl⟩ ⟨Nat.le_of_ble_eq_true rfl, Nat.le_of_ble_eq_true rfl⟩ hl.1 rfl rfl (Nat.le_of_ble_eq_true rfl) dX4_holdsBetween_7 ?_
  refine lv_ineg hx hb dX4_holdsBetween_10 ?_
  refine my_ic_ne (tgt := 26) hx hb dX4_holdsBetween_11 (by decide) (fun c1 => ?_) (fun c1 => ?_)
  · rw [if_neg c1] at hf
    refine lv_iconst (v := 0) hx hb dX4_holdsBetween_26 (by decide) ?_
    exact W.zret (v := b2i false) (ty := .boolean) hx hb hr (b2i_nar _) (fun t ht hW => ⟨_, rfl, congrArg b2i (hf), ht⟩) (fun q hq => absurd hq List.not_mem_nil) dX4_holdsBetween_27
  · rw [if_pos c1] at hf
    refine lv_lload_n hx hb dX4_holdsBetween_14 rfl (lv_at hl 0 rfl) ?_
    refine lv_lload_n hx hb dX4_holdsBetween_15 rfl (lv_at hl 1 rfl) ?_
    refine my_callPi (As := [.long a0, .long a1]) (n := 2) (rest := []) ⟨hx, hb, hml, hown, hts⟩ (m_X4_stepHolds l a0 a1 _ rfl) gX4_holdsBetween_X4_stepHolds rfl ⟨rfl, rfl⟩ (by decide +kernel) ⟨Nat.le_of_ble_eq_true rfl, Nat.le_of_ble_eq_true rfl⟩ ⟨Nat.le_of_ble_eq_true rfl, Nat.le_of_ble_eq_true rfl⟩ hl.1 rfl rfl (Nat.le_of_ble_eq_true rfl) dX4_holdsBetween_16 ?_
    refine my_bz_eq (x := (f_X4_stepHolds a0 a1)) (tgt := 26) hx hb dX4_holdsBetween_19 (by decide) (fun c2 => ?_) (fun c2 => ?_)
    · rw [if_pos c2] at hf
      refine lv_iconst (v := 0) hx hb dX4_holdsBetween_26 (by decide) ?_
      exact W.zret (v := b2i false) (ty := .boolean) hx hb hr (b2i_nar _) (fun t ht hW => ⟨_, rfl, congrArg b2i (hf), ht⟩) (fun q hq => absurd hq List.not_mem_nil) dX4_holdsBetween_27
    · rw [if_neg c2] at hf
      refine lv_iconst (v := 1) hx hb dX4_holdsBetween_22 (by decide) ?_
      refine lv_goto (tgt := 27) hx hb dX4_holdsBetween_23 (by decide) ?_
      exact W.zret (v := b2i true) (ty := .boolean) hx hb hr (b2i_nar _) (fun t ht hW => ⟨_, rfl, congrArg b2i (hf), ht⟩) (fun q hq => absurd hq List.not_mem_nil) dX4_holdsBetween_27
