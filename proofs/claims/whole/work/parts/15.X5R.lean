set_option maxHeartbeats 4000000 in
set_option maxRecDepth 100000 in
theorem m_X5_least (l : Launch) (D : va_G) (cC cI cJ : ClassId) (h0 h1 h2 h3 h4 h5 h6 h7 : Nat) (u : StX) (res : Int32) (hf : f_X5_least u = some res) : Met l yX5_least wsX5_least rmX5_least (my_PcR D vwCl (KT cC cI cJ) (wX cC cI cJ h0 h1 h2 h3 h4 h5 h6 h7 u) [.ref h0]) (vp_Si (fun z => z = res)) 0 0 (fun _ => False) := by
  refine Met.ofW (cc := cX5_least) (maxL := 3) (ret := (some .int)) (by decide) rfl ?_
  intro p e s m args below meth c s₁ B hml hv
  obtain ⟨rfl, hP, hK⟩ := hv
  have hx := B.exec
  have hb := B.bytes
  have hr := B.returns
  have hts : ∀ w ∈ wsX5_least, w.before ([.ref h0] : List Value).toArray s = true := atoms_spec (ws := wsX5_least) B.pre
  have hown : s.vm.findClass RX5 = some m.cls := findClass_of_methodNamed B.named
  have hlk : meth.locks = false := B.notSynchronized
  have hP : va_P D vwCl [(h0, .inr (4, [.ref h1, .ref h2, .ref h5])), (h1, .inl (cJ, 8, .inr (.inl u.1))), (h2, .inr (3, [.ref h3, .ref h4, .int u.2.1.2.2])), (h3, .inl (cC, 40, .inl u.2.1.1)), (h4, .inl (cI, 40, .inl u.2.1.2.1)), (h5, .inr (2, [.ref h6, .ref h7, .int u.2.2.2.2.1, .int u.2.2.2.2.2])), (h6, .inl (cI, 8, .inl u.2.2.1)), (h7, .inl (cJ, 8, .inr (.inl u.2.2.2.1)))] s.heap := hP
  have q1 := hts (.fieldLink RX5 9 "Doubleline" "slots" "[J") (by decide +kernel)
  have q2 : ∀ w ∈ u_ws RX5 TX5 3, w ∈ wsX5_least := by decide +kernel
  have hl := lv_entry ([.ref h0]) (n := 3) (Nat.le_of_ble_eq_true rfl)
  rw [lg_entry_eq]
  generalize (lg_sl ([.ref h0]) ++ List.replicate (3 - (lg_sl ([.ref h0])).length) Slot.unset).toArray = ls at hl ⊢
  have hl : lv_has ls 3 [(0, .ref h0)] := hl
  unfold f_X5_least at hf
  refine lv_iconst (v := 0) hx hb dX5_least_0 (by decide) ?_
  refine lv_istore_n (lv' := [(1, .int 0), (0, .ref h0)]) hx hb dX5_least_1 rfl hl (by decide) rfl (fun ls hl => ?_)
  refine lv_iconst (v := 1) hx hb dX5_least_2 (by decide) ?_
  refine lv_istore_n (lv' := [(2, .int 1), (1, .int 0), (0, .ref h0)]) hx hb dX5_least_3 rfl hl (by decide) rfl (fun ls hl => ?_)
  have loop4 : ∀ (n4 : Nat) (v4_2 : Int32) (v4_1 : Int32) (ls : Array Slot), lv_has ls 3 [(2, .int v4_2), (1, .int v4_1), (0, .ref h0)] → f_X5_least_L4 u n4 v4_2 v4_1 = some res → W p l e (rmX5_least) s m ([.ref h0] : List Value).toArray below meth c s.heap [] 0 0 (MQ below (vp_Si (fun z => z = res)) ([.ref h0] : List Value).toArray s 0 0 (fun _ => False)) (F0 m 4 ls []) := by
    intro n4
    induction n4 with
    | zero => intro v4_2 v4_1 ls hl hf; rw [f_X5_least_L4] at hf; cases hf
    | succ n4 ih4 =>
      intro v4_2 v4_1 ls hl hf
      rw [f_X5_least_L4] at hf
      refine lv_iload_n hx hb dX5_least_4 rfl (lv_at hl 0 rfl) ?_
      refine lv_bipush (v := 8) hx hb dX5_least_5 (by decide) ?_
      refine my_ic_ge (tgt := 36) hx hb dX5_least_7 (by decide) (fun c1 => ?_) (fun c1 => ?_)
      · rw [if_neg c1] at hf
        refine lv_iload_n hx hb dX5_least_36 rfl (lv_at hl 1 rfl) ?_
        exact W.iret (v := v4_1) hx hb hr (fun t ht hW => ⟨_, rfl, Option.some.inj hf, ht⟩) (fun q hq => absurd hq List.not_mem_nil) dX5_least_37
      · rw [if_pos c1] at hf
        refine lv_aload_n hx hb dX5_least_10 rfl (lv_at hl 2 rfl) ?_
        refine va_get (D := D) (ci := 4) (v := .ref h1) (C := RX5) (T := TX5) (N := 3) hx hb hts q2 hown hK hP 0 rfl rfl 0 (by decide) q1 (fun _ h9 => h9) rfl dX5_least_11 ?_
        refine lv_iload_n hx hb dX5_least_14 rfl (lv_at hl 0 rfl) ?_
        obtain ⟨g2, hf⟩ := og_e hf
        refine va_lald hx hb hK hP 1 2 rfl rfl g2 dX5_least_15 ?_
        refine lv_aload_n hx hb dX5_least_16 rfl (lv_at hl 2 rfl) ?_
        refine va_get (D := D) (ci := 4) (v := .ref h1) (C := RX5) (T := TX5) (N := 3) hx hb hts q2 hown hK hP 0 rfl rfl 0 (by decide) q1 (fun _ h9 => h9) rfl dX5_least_17 ?_
        refine lv_iload_n hx hb dX5_least_20 rfl (lv_at hl 1 rfl) ?_
        obtain ⟨g3, hf⟩ := og_e hf
        refine va_lald hx hb hK hP 1 2 rfl rfl g3 dX5_least_21 ?_
        refine my_callPi (As := [.long (u.1 v4_2.toNatClampNeg), .long (u.1 v4_1.toNatClampNeg)]) (n := 2) (rest := []) ⟨hx, hb, hml, hown, hts⟩ (m_X0_order l (u.1 v4_2.toNatClampNeg) (u.1 v4_1.toNatClampNeg) _ rfl) gX5_least_X0_order rfl ⟨rfl, rfl⟩ (by decide +kernel) ⟨Nat.le_of_ble_eq_true rfl, Nat.le_of_ble_eq_true rfl⟩ ⟨Nat.le_of_ble_eq_true rfl, Nat.le_of_ble_eq_true rfl⟩ hl.1 rfl rfl (Nat.le_of_ble_eq_true rfl) dX5_least_22 ?_
        refine my_if_ge (tgt := 30) hx hb dX5_least_25 (by decide) (fun c4 => ?_) (fun c4 => ?_)
        · rw [if_neg c4] at hf
          refine lv_iinc (v := (v4_2 + 1)) (lv' := [(2, .int (v4_2 + 1)), (1, .int v4_1), (0, .ref h0)]) hx hb dX5_least_30 hl (k := 0) rfl rfl (by decide) rfl (fun ls hl => ?_)
          refine lv_goto (tgt := 4) hx hb dX5_least_33 (by decide) ?_
          exact ih4 (v4_2 + 1) v4_1 _ (lv_sub hl [0, 1, 2] rfl) hf
        · rw [if_pos c4] at hf
          refine lv_iload_n hx hb dX5_least_28 rfl (lv_at hl 0 rfl) ?_
          refine lv_istore_n (lv' := [(1, .int v4_2), (2, .int v4_2), (0, .ref h0)]) hx hb dX5_least_29 rfl hl (by decide) rfl (fun ls hl => ?_)
          refine lv_iinc (v := (v4_2 + 1)) (lv' := [(2, .int (v4_2 + 1)), (1, .int v4_2), (0, .ref h0)]) hx hb dX5_least_30 hl (k := 1) rfl rfl (by decide) rfl (fun ls hl => ?_)
          refine lv_goto (tgt := 4) hx hb dX5_least_33 (by decide) ?_
          exact ih4 (v4_2 + 1) v4_2 _ (lv_sub hl [0, 1, 2] rfl) hf
  exact loop4 100 1 0 _ (lv_sub hl [0, 1, 2] rfl) hf

set_option maxHeartbeats 4000000 in
set_option maxRecDepth 100000 in
theorem m_X5_hush (l : Launch) (D : va_G) (cC cI cJ : ClassId) (h0 h1 h2 h3 h4 h5 h6 h7 : Nat) (u : StX) (sz : Nat)  (res : Int32 × StX) (hf : f_X5_hush u = some res) : Met l yX5_hush wsX5_hush rmX5_hush (my_PcM D vwCl (KT cC cI cJ) sz (wX cC cI cJ h0 h1 h2 h3 h4 h5 h6 h7 u) [.ref h0]) (va_Qi (fun r v => r = res.1 ∧ v = res.2) (my_B D vwCl (KT cC cI cJ) (va_A (wX cC cI cJ h0 h1 h2 h3 h4 h5 h6 h7 u) sz) (fun v : StX => (wX cC cI cJ h0 h1 h2 h3 h4 h5 h6 h7 v))) (va_A (wX cC cI cJ h0 h1 h2 h3 h4 h5 h6 h7 u) sz)) 0 0 (va_A (wX cC cI cJ h0 h1 h2 h3 h4 h5 h6 h7 u) sz) := by
  refine Met.ofW (cc := cX5_hush) (maxL := 2) (ret := (some .int)) (by decide) rfl ?_
  intro p e s m args below meth c s₁ B hml hv
  obtain ⟨rfl, hsz, hP, hK, hD0⟩ := hv
  have hx := B.exec
  have hb := B.bytes
  have hr := B.returns
  have hts : ∀ w ∈ wsX5_hush, w.before ([.ref h0] : List Value).toArray s = true := atoms_spec (ws := wsX5_hush) B.pre
  have hown : s.vm.findClass RX5 = some m.cls := findClass_of_methodNamed B.named
  have hlk : meth.locks = false := B.notSynchronized
  subst hsz
  have hD := hD0.self (sz := s.heap.size)
  generalize hAe : va_A (wX cC cI cJ h0 h1 h2 h3 h4 h5 h6 h7 u) s.heap.size = A at hD ⊢
  have hA : ∀ q : Nat, s.heap.size ≤ q → A q := fun q h => by rw [← hAe]; exact Or.inr h
  have hS : va_S A s.heap s.heap [] := va_S.rf
  have hP : va_P D vwCl [(h0, .inr (4, [.ref h1, .ref h2, .ref h5])), (h1, .inl (cJ, 8, .inr (.inl u.1))), (h2, .inr (3, [.ref h3, .ref h4, .int u.2.1.2.2])), (h3, .inl (cC, 40, .inl u.2.1.1)), (h4, .inl (cI, 40, .inl u.2.1.2.1)), (h5, .inr (2, [.ref h6, .ref h7, .int u.2.2.2.2.1, .int u.2.2.2.2.2])), (h6, .inl (cI, 8, .inl u.2.2.1)), (h7, .inl (cJ, 8, .inr (.inl u.2.2.2.1)))] s.heap := hP
  have hD : va_D A [(h0, .inr (4, [.ref h1, .ref h2, .ref h5])), (h1, .inl (cJ, 8, .inr (.inl u.1))), (h2, .inr (3, [.ref h3, .ref h4, .int u.2.1.2.2])), (h3, .inl (cC, 40, .inl u.2.1.1)), (h4, .inl (cI, 40, .inl u.2.1.2.1)), (h5, .inr (2, [.ref h6, .ref h7, .int u.2.2.2.2.1, .int u.2.2.2.2.2])), (h6, .inl (cI, 8, .inl u.2.2.1)), (h7, .inl (cJ, 8, .inr (.inl u.2.2.2.1)))] := hD
  have q1 := hts (.fieldLink RX5 16 "Doubleline" "row" "LDoubleline$Row;") (by decide +kernel)
  have q2 : ∀ w ∈ u_ws RX5 TX5 3, w ∈ wsX5_hush := by decide +kernel
  have hl := lv_entry ([.ref h0]) (n := 2) (Nat.le_of_ble_eq_true rfl)
  rw [lg_entry_eq]
  generalize (lg_sl ([.ref h0]) ++ List.replicate (2 - (lg_sl ([.ref h0])).length) Slot.unset).toArray = ls at hl ⊢
  have hl : lv_has ls 2 [(0, .ref h0)] := hl
  unfold f_X5_hush at hf
  refine lv_aload_n hx hb dX5_hush_0 rfl (lv_at hl 0 rfl) ?_
  refine va_get (D := D) (ci := 4) (v := .ref h2) (C := RX5) (T := TX5) (N := 3) hx hb hts q2 hown hK hP 0 rfl rfl 1 (by decide) q1 (fun _ h9 => h9) rfl dX5_hush_1 ?_
  refine my_callRi (As := []) (n := 0) (rest := []) ⟨hx, hb, hml, hown, hts⟩ hK (hP.sub (ws' := (wR cC cI h2 h3 h4 u.2.1)) [2, 3, 4] rfl) (m_X3_size l D cC cI cJ h2 h3 h4 u.2.1 _ rfl) gX5_hush_X3_size rfl ⟨rfl, rfl⟩ (ci := 3) rfl rfl (by decide +kernel) ⟨Nat.le_of_ble_eq_true rfl, Nat.le_of_ble_eq_true rfl⟩ ⟨Nat.le_of_ble_eq_true rfl, Nat.le_of_ble_eq_true rfl⟩ hl.1 rfl rfl (Nat.le_of_ble_eq_true rfl) dX5_hush_4 ?_
  refine lv_istore_n (lv' := [(1, .int (f_X3_size u.2.1)), (0, .ref h0)]) hx hb dX5_hush_7 rfl hl (by decide) rfl (fun ls hl => ?_)
  refine lv_aload_n hx hb dX5_hush_8 rfl (lv_at hl 1 rfl) ?_
  refine va_get (D := D) (ci := 4) (v := .ref h2) (C := RX5) (T := TX5) (N := 3) hx hb hts q2 hown hK hP 0 rfl rfl 1 (by decide) q1 (fun _ h9 => h9) rfl dX5_hush_9 ?_
  obtain ⟨z1, ez1, hf⟩ := ob_e hf
  refine my_callMv (As := []) (n := 0) (rest := []) (wr := [(h0, .inr (4, [.ref h1, .ref h2, .ref h5])), (h1, .inl (cJ, 8, .inr (.inl u.1))), (h5, .inr (2, [.ref h6, .ref h7, .int u.2.2.2.2.1, .int u.2.2.2.2.2])), (h6, .inl (cI, 8, .inl u.2.2.1)), (h7, .inl (cJ, 8, .inr (.inl u.2.2.2.1)))]) ⟨hx, hb, hml, hown, hts⟩ hK hP hD hS hA [2, 3, 4] [0, 1, 5, 6, 7] rfl rfl (by decide) (by decide) (by decide) (m_X3_clear l D cC cI cJ h2 h3 h4 u.2.1 s.heap.size _ ez1) gX5_hush_X3_clear rfl ⟨rfl, rfl⟩ (ci := 3) rfl rfl (by decide +kernel) ⟨Nat.le_of_ble_eq_true rfl, Nat.le_of_ble_eq_true rfl⟩ ⟨Nat.le_of_ble_eq_true rfl, Nat.le_of_ble_eq_true rfl⟩ hl.1 rfl rfl (Nat.le_of_ble_eq_true rfl) dX5_hush_12 (fun u9 H locs hw hP hD hS => ?_)
  obtain rfl := hw.symm
  have hP : va_P D vwCl [(h0, .inr (4, [.ref h1, .ref h2, .ref h5])), (h1, .inl (cJ, 8, .inr (.inl u.1))), (h2, .inr (3, [.ref h3, .ref h4, .int z1.2.2])), (h3, .inl (cC, 40, .inl z1.1)), (h4, .inl (cI, 40, .inl z1.2.1)), (h5, .inr (2, [.ref h6, .ref h7, .int u.2.2.2.2.1, .int u.2.2.2.2.2])), (h6, .inl (cI, 8, .inl u.2.2.1)), (h7, .inl (cJ, 8, .inr (.inl u.2.2.2.1)))] H := hP.sub [0, 1, 5, 6, 7, 2, 3, 4] rfl
  have hD : va_D A [(h0, .inr (4, [.ref h1, .ref h2, .ref h5])), (h1, .inl (cJ, 8, .inr (.inl u.1))), (h2, .inr (3, [.ref h3, .ref h4, .int z1.2.2])), (h3, .inl (cC, 40, .inl z1.1)), (h4, .inl (cI, 40, .inl z1.2.1)), (h5, .inr (2, [.ref h6, .ref h7, .int u.2.2.2.2.1, .int u.2.2.2.2.2])), (h6, .inl (cI, 8, .inl u.2.2.1)), (h7, .inl (cJ, 8, .inr (.inl u.2.2.2.1)))] := hD.sub [0, 1, 5, 6, 7, 2, 3, 4] (by decide) rfl
  refine lv_iload_n hx hb dX5_hush_15 rfl (lv_at hl 0 rfl) ?_
  have hP9 : va_P D vwCl (wX cC cI cJ h0 h1 h2 h3 h4 h5 h6 h7 (u.1, (z1, u.2.2))) _ := hP
  have hD9 : va_D A (wX cC cI cJ h0 h1 h2 h3 h4 h5 h6 h7 (u.1, (z1, u.2.2))) := hD
  have hf := Option.some.inj hf
  have hf1 := congrArg Prod.fst hf
  have hf2 := congrArg Prod.snd hf
  exact W.iret (v := (f_X3_size u.2.1)) hx hb hr (fun t ht hW => ⟨⟨(f_X3_size u.2.1), (u.1, (z1, u.2.2)), rfl, ⟨hf1, hf2⟩, by rw [ht]; exact hP9, va_K.moved hW.alike hK, hD9⟩, hS.F ht⟩) hS.2.2 dX5_hush_16

set_option maxHeartbeats 4000000 in
set_option maxRecDepth 100000 in
theorem m_X5_share (l : Launch) (D : va_G) (cC cI cJ : ClassId) (h0 h1 h2 h3 h4 h5 h6 h7 : Nat) (u : StX) (res : UInt32) (hf : f_X5_share u = some res) : Met l yX5_share wsX5_share rmX5_share (my_PcR D vwCl (KT cC cI cJ) (wX cC cI cJ h0 h1 h2 h3 h4 h5 h6 h7 u) [.ref h0]) (vp_Sf (fun z => z = res)) 0 0 (fun _ => False) := by
  refine Met.ofW (cc := cX5_share) (maxL := 3) (ret := (some .float)) (by decide) rfl ?_
  intro p e s m args below meth c s₁ B hml hv
  obtain ⟨rfl, hP, hK⟩ := hv
  have hx := B.exec
  have hb := B.bytes
  have hr := B.returns
  have hts : ∀ w ∈ wsX5_share, w.before ([.ref h0] : List Value).toArray s = true := atoms_spec (ws := wsX5_share) B.pre
  have hown : s.vm.findClass RX5 = some m.cls := findClass_of_methodNamed B.named
  have hlk : meth.locks = false := B.notSynchronized
  have hP : va_P D vwCl [(h0, .inr (4, [.ref h1, .ref h2, .ref h5])), (h1, .inl (cJ, 8, .inr (.inl u.1))), (h2, .inr (3, [.ref h3, .ref h4, .int u.2.1.2.2])), (h3, .inl (cC, 40, .inl u.2.1.1)), (h4, .inl (cI, 40, .inl u.2.1.2.1)), (h5, .inr (2, [.ref h6, .ref h7, .int u.2.2.2.2.1, .int u.2.2.2.2.2])), (h6, .inl (cI, 8, .inl u.2.2.1)), (h7, .inl (cJ, 8, .inr (.inl u.2.2.2.1)))] s.heap := hP
  have q1 := hts (.constantFloat RX5 192 (1090519040)) (by decide +kernel)
  have q2 := hts (.fieldLink RX5 9 "Doubleline" "slots" "[J") (by decide +kernel)
  have q3 : ∀ w ∈ u_ws RX5 TX5 3, w ∈ wsX5_share := by decide +kernel
  have hl := lv_entry ([.ref h0]) (n := 3) (Nat.le_of_ble_eq_true rfl)
  rw [lg_entry_eq]
  generalize (lg_sl ([.ref h0]) ++ List.replicate (3 - (lg_sl ([.ref h0])).length) Slot.unset).toArray = ls at hl ⊢
  have hl : lv_has ls 3 [(0, .ref h0)] := hl
  unfold f_X5_share at hf
  refine lv_iconst (v := 0) hx hb dX5_share_0 (by decide) ?_
  refine lv_istore_n (lv' := [(1, .int 0), (0, .ref h0)]) hx hb dX5_share_1 rfl hl (by decide) rfl (fun ls hl => ?_)
  refine lv_iconst (v := 0) hx hb dX5_share_2 (by decide) ?_
  refine lv_istore_n (lv' := [(2, .int 0), (1, .int 0), (0, .ref h0)]) hx hb dX5_share_3 rfl hl (by decide) rfl (fun ls hl => ?_)
  have loop4 : ∀ (n4 : Nat) (v4_2 : Int32) (v4_1 : Int32) (ls : Array Slot), lv_has ls 3 [(2, .int v4_2), (1, .int v4_1), (0, .ref h0)] → f_X5_share_L4 u n4 v4_2 v4_1 = some res → W p l e (rmX5_share) s m ([.ref h0] : List Value).toArray below meth c s.heap [] 0 0 (MQ below (vp_Sf (fun z => z = res)) ([.ref h0] : List Value).toArray s 0 0 (fun _ => False)) (F0 m 4 ls []) := by
    intro n4
    induction n4 with
    | zero => intro v4_2 v4_1 ls hl hf; rw [f_X5_share_L4] at hf; cases hf
    | succ n4 ih4 =>
      intro v4_2 v4_1 ls hl hf
      rw [f_X5_share_L4] at hf
      refine lv_iload_n hx hb dX5_share_4 rfl (lv_at hl 0 rfl) ?_
      refine lv_bipush (v := 8) hx hb dX5_share_5 (by decide) ?_
      refine my_ic_ge (tgt := 31) hx hb dX5_share_7 (by decide) (fun c1 => ?_) (fun c1 => ?_)
      · rw [if_neg c1] at hf
        refine lv_iload_n hx hb dX5_share_31 rfl (lv_at hl 1 rfl) ?_
        refine lv_i2f hx hb dX5_share_32 ?_
        refine lv_ldcf (v := 1090519040) hx hb hown q1 dX5_share_33 ?_
        obtain ⟨g2, hf⟩ := og_e hf
        refine lv_fdiv hx hb dX5_share_35 (Classical.not_not.mp g2) ?_
        exact W.fret (v := (FP.fdiv (FP.i2f v4_1) 1090519040)) hx hb hr (fun t ht hW => ⟨_, rfl, Option.some.inj hf, ht⟩) (fun q hq => absurd hq List.not_mem_nil) dX5_share_36
      · rw [if_pos c1] at hf
        refine lv_aload_n hx hb dX5_share_10 rfl (lv_at hl 2 rfl) ?_
        refine va_get (D := D) (ci := 4) (v := .ref h1) (C := RX5) (T := TX5) (N := 3) hx hb hts q3 hown hK hP 0 rfl rfl 0 (by decide) q2 (fun _ h9 => h9) rfl dX5_share_11 ?_
        refine lv_iload_n hx hb dX5_share_14 rfl (lv_at hl 0 rfl) ?_
        obtain ⟨g3, hf⟩ := og_e hf
        refine va_lald hx hb hK hP 1 2 rfl rfl g3 dX5_share_15 ?_
        refine my_callPi (As := [.long (u.1 v4_2.toNatClampNeg)]) (n := 1) (rest := []) ⟨hx, hb, hml, hown, hts⟩ (m_X0_hasLeastExponent l (u.1 v4_2.toNatClampNeg) _ rfl) gX5_share_X0_hasLeastExponent rfl ⟨rfl, rfl⟩ (by decide +kernel) ⟨Nat.le_of_ble_eq_true rfl, Nat.le_of_ble_eq_true rfl⟩ ⟨Nat.le_of_ble_eq_true rfl, Nat.le_of_ble_eq_true rfl⟩ hl.1 rfl rfl (Nat.le_of_ble_eq_true rfl) dX5_share_16 ?_
        refine my_bz_eq (x := (f_X0_hasLeastExponent (u.1 v4_2.toNatClampNeg))) (tgt := 25) hx hb dX5_share_19 (by decide) (fun c4 => ?_) (fun c4 => ?_)
        · rw [if_pos c4] at hf
          refine lv_iinc (v := (v4_2 + 1)) (lv' := [(2, .int (v4_2 + 1)), (1, .int v4_1), (0, .ref h0)]) hx hb dX5_share_25 hl (k := 0) rfl rfl (by decide) rfl (fun ls hl => ?_)
          refine lv_goto (tgt := 4) hx hb dX5_share_28 (by decide) ?_
          exact ih4 (v4_2 + 1) v4_1 _ (lv_sub hl [0, 1, 2] rfl) hf
        · rw [if_neg c4] at hf
          refine lv_iinc (v := (v4_1 + 1)) (lv' := [(1, .int (v4_1 + 1)), (2, .int v4_2), (0, .ref h0)]) hx hb dX5_share_22 hl (k := 1) rfl rfl (by decide) rfl (fun ls hl => ?_)
          refine lv_iinc (v := (v4_2 + 1)) (lv' := [(2, .int (v4_2 + 1)), (1, .int (v4_1 + 1)), (0, .ref h0)]) hx hb dX5_share_25 hl (k := 1) rfl rfl (by decide) rfl (fun ls hl => ?_)
          refine lv_goto (tgt := 4) hx hb dX5_share_28 (by decide) ?_
          exact ih4 (v4_2 + 1) (v4_1 + 1) _ (lv_sub hl [0, 1, 2] rfl) hf
  exact loop4 100 0 0 _ (lv_sub hl [0, 1, 2] rfl) hf

set_option maxHeartbeats 4000000 in
set_option maxRecDepth 100000 in
theorem m_X5_meanExponent (l : Launch) (D : va_G) (cC cI cJ : ClassId) (h0 h1 h2 h3 h4 h5 h6 h7 : Nat) (u : StX) (res : UInt64) (hf : f_X5_meanExponent u = some res) : Met l yX5_meanExponent wsX5_meanExponent rmX5_meanExponent (my_PcR D vwCl (KT cC cI cJ) (wX cC cI cJ h0 h1 h2 h3 h4 h5 h6 h7 u) [.ref h0]) (vp_Sd (fun z => z = res)) 0 0 (fun _ => False) := by
  refine Met.ofW (cc := cX5_meanExponent) (maxL := 3) (ret := (some .double)) (by decide) rfl ?_
  intro p e s m args below meth c s₁ B hml hv
  obtain ⟨rfl, hP, hK⟩ := hv
  have hx := B.exec
  have hb := B.bytes
  have hr := B.returns
  have hts : ∀ w ∈ wsX5_meanExponent, w.before ([.ref h0] : List Value).toArray s = true := atoms_spec (ws := wsX5_meanExponent) B.pre
  have hown : s.vm.findClass RX5 = some m.cls := findClass_of_methodNamed B.named
  have hlk : meth.locks = false := B.notSynchronized
  have hP : va_P D vwCl [(h0, .inr (4, [.ref h1, .ref h2, .ref h5])), (h1, .inl (cJ, 8, .inr (.inl u.1))), (h2, .inr (3, [.ref h3, .ref h4, .int u.2.1.2.2])), (h3, .inl (cC, 40, .inl u.2.1.1)), (h4, .inl (cI, 40, .inl u.2.1.2.1)), (h5, .inr (2, [.ref h6, .ref h7, .int u.2.2.2.2.1, .int u.2.2.2.2.2])), (h6, .inl (cI, 8, .inl u.2.2.1)), (h7, .inl (cJ, 8, .inr (.inl u.2.2.2.1)))] s.heap := hP
  have q1 := hts (.constantDouble RX5 193 (4620693217682128896)) (by decide +kernel)
  have q2 := hts (.fieldLink RX5 9 "Doubleline" "slots" "[J") (by decide +kernel)
  have q3 : ∀ w ∈ u_ws RX5 TX5 3, w ∈ wsX5_meanExponent := by decide +kernel
  have hl := lv_entry ([.ref h0]) (n := 3) (Nat.le_of_ble_eq_true rfl)
  rw [lg_entry_eq]
  generalize (lg_sl ([.ref h0]) ++ List.replicate (3 - (lg_sl ([.ref h0])).length) Slot.unset).toArray = ls at hl ⊢
  have hl : lv_has ls 3 [(0, .ref h0)] := hl
  unfold f_X5_meanExponent at hf
  refine lv_iconst (v := 0) hx hb dX5_meanExponent_0 (by decide) ?_
  refine lv_istore_n (lv' := [(1, .int 0), (0, .ref h0)]) hx hb dX5_meanExponent_1 rfl hl (by decide) rfl (fun ls hl => ?_)
  refine lv_iconst (v := 0) hx hb dX5_meanExponent_2 (by decide) ?_
  refine lv_istore_n (lv' := [(2, .int 0), (1, .int 0), (0, .ref h0)]) hx hb dX5_meanExponent_3 rfl hl (by decide) rfl (fun ls hl => ?_)
  have loop4 : ∀ (n4 : Nat) (v4_2 : Int32) (v4_1 : Int32) (ls : Array Slot), lv_has ls 3 [(2, .int v4_2), (1, .int v4_1), (0, .ref h0)] → f_X5_meanExponent_L4 u n4 v4_2 v4_1 = some res → W p l e (rmX5_meanExponent) s m ([.ref h0] : List Value).toArray below meth c s.heap [] 0 0 (MQ below (vp_Sd (fun z => z = res)) ([.ref h0] : List Value).toArray s 0 0 (fun _ => False)) (F0 m 4 ls []) := by
    intro n4
    induction n4 with
    | zero => intro v4_2 v4_1 ls hl hf; rw [f_X5_meanExponent_L4] at hf; cases hf
    | succ n4 ih4 =>
      intro v4_2 v4_1 ls hl hf
      rw [f_X5_meanExponent_L4] at hf
      refine lv_iload_n hx hb dX5_meanExponent_4 rfl (lv_at hl 0 rfl) ?_
      refine lv_bipush (v := 8) hx hb dX5_meanExponent_5 (by decide) ?_
      refine my_ic_ge (tgt := 28) hx hb dX5_meanExponent_7 (by decide) (fun c1 => ?_) (fun c1 => ?_)
      · rw [if_neg c1] at hf
        refine lv_iload_n hx hb dX5_meanExponent_28 rfl (lv_at hl 1 rfl) ?_
        refine lv_i2d hx hb dX5_meanExponent_29 ?_
        refine lv_ldc2d (v := 4620693217682128896) hx hb hown q1 dX5_meanExponent_30 ?_
        obtain ⟨g2, hf⟩ := og_e hf
        refine lv_ddiv hx hb dX5_meanExponent_33 (Classical.not_not.mp g2) ?_
        exact W.dret (v := (FP.ddiv (FP.i2d v4_1) 4620693217682128896)) hx hb hr (fun t ht hW => ⟨_, rfl, Option.some.inj hf, ht⟩) (fun q hq => absurd hq List.not_mem_nil) dX5_meanExponent_34
      · rw [if_pos c1] at hf
        refine lv_iload_n hx hb dX5_meanExponent_10 rfl (lv_at hl 1 rfl) ?_
        refine lv_aload_n hx hb dX5_meanExponent_11 rfl (lv_at hl 2 rfl) ?_
        refine va_get (D := D) (ci := 4) (v := .ref h1) (C := RX5) (T := TX5) (N := 3) hx hb hts q3 hown hK hP 0 rfl rfl 0 (by decide) q2 (fun _ h9 => h9) rfl dX5_meanExponent_12 ?_
        refine lv_iload_n hx hb dX5_meanExponent_15 rfl (lv_at hl 0 rfl) ?_
        obtain ⟨g3, hf⟩ := og_e hf
        refine va_lald hx hb hK hP 1 2 rfl rfl g3 dX5_meanExponent_16 ?_
        refine my_callPi (As := [.long (u.1 v4_2.toNatClampNeg)]) (n := 1) (rest := [.int v4_1]) ⟨hx, hb, hml, hown, hts⟩ (m_X0_exponentOf l (u.1 v4_2.toNatClampNeg) _ rfl) gX5_meanExponent_X0_exponentOf rfl ⟨rfl, rfl⟩ (by decide +kernel) ⟨Nat.le_of_ble_eq_true rfl, Nat.le_of_ble_eq_true rfl⟩ ⟨Nat.le_of_ble_eq_true rfl, Nat.le_of_ble_eq_true rfl⟩ hl.1 rfl rfl (Nat.le_of_ble_eq_true rfl) dX5_meanExponent_17 ?_
        refine lv_iadd hx hb dX5_meanExponent_20 ?_
        refine lv_istore_n (lv' := [(1, .int (v4_1 + (f_X0_exponentOf (u.1 v4_2.toNatClampNeg)))), (2, .int v4_2), (0, .ref h0)]) hx hb dX5_meanExponent_21 rfl hl (by decide) rfl (fun ls hl => ?_)
        refine lv_iinc (v := (v4_2 + 1)) (lv' := [(2, .int (v4_2 + 1)), (1, .int (v4_1 + (f_X0_exponentOf (u.1 v4_2.toNatClampNeg)))), (0, .ref h0)]) hx hb dX5_meanExponent_22 hl (k := 1) rfl rfl (by decide) rfl (fun ls hl => ?_)
        refine lv_goto (tgt := 4) hx hb dX5_meanExponent_25 (by decide) ?_
        exact ih4 (v4_2 + 1) (v4_1 + (f_X0_exponentOf (u.1 v4_2.toNatClampNeg))) _ (lv_sub hl [0, 1, 2] rfl) hf
  exact loop4 100 0 0 _ (lv_sub hl [0, 1, 2] rfl) hf

set_option maxHeartbeats 4000000 in
set_option maxRecDepth 100000 in
theorem m_X5_checksum (l : Launch) (D : va_G) (cC cI cJ : ClassId) (h0 h1 h2 h3 h4 h5 h6 h7 : Nat) (u : StX) (res : Int64) (hf : f_X5_checksum u = some res) : Met l yX5_checksum wsX5_checksum rmX5_checksum (my_PcR D vwCl (KT cC cI cJ) (wX cC cI cJ h0 h1 h2 h3 h4 h5 h6 h7 u) [.ref h0]) (vp_Sl (fun z => z = res)) 0 0 (fun _ => False) := by
  refine Met.ofW (cc := cX5_checksum) (maxL := 4) (ret := (some .long)) (by decide) rfl ?_
  intro p e s m args below meth c s₁ B hml hv
  obtain ⟨rfl, hP, hK⟩ := hv
  have hx := B.exec
  have hb := B.bytes
  have hr := B.returns
  have hts : ∀ w ∈ wsX5_checksum, w.before ([.ref h0] : List Value).toArray s = true := atoms_spec (ws := wsX5_checksum) B.pre
  have hown : s.vm.findClass RX5 = some m.cls := findClass_of_methodNamed B.named
  have hlk : meth.locks = false := B.notSynchronized
  have hP : va_P D vwCl [(h0, .inr (4, [.ref h1, .ref h2, .ref h5])), (h1, .inl (cJ, 8, .inr (.inl u.1))), (h2, .inr (3, [.ref h3, .ref h4, .int u.2.1.2.2])), (h3, .inl (cC, 40, .inl u.2.1.1)), (h4, .inl (cI, 40, .inl u.2.1.2.1)), (h5, .inr (2, [.ref h6, .ref h7, .int u.2.2.2.2.1, .int u.2.2.2.2.2])), (h6, .inl (cI, 8, .inl u.2.2.1)), (h7, .inl (cJ, 8, .inr (.inl u.2.2.2.1)))] s.heap := hP
  have q1 := hts (.constantLong RX5 195 (7)) (by decide +kernel)
  have q2 := hts (.fieldLink RX5 16 "Doubleline" "row" "LDoubleline$Row;") (by decide +kernel)
  have q3 : ∀ w ∈ u_ws RX5 TX5 3, w ∈ wsX5_checksum := by decide +kernel
  have q4 := hts (.constantLong RX5 197 (31)) (by decide +kernel)
  have q5 := hts (.fieldLink RX5 9 "Doubleline" "slots" "[J") (by decide +kernel)
  have hl := lv_entry ([.ref h0]) (n := 4) (Nat.le_of_ble_eq_true rfl)
  rw [lg_entry_eq]
  generalize (lg_sl ([.ref h0]) ++ List.replicate (4 - (lg_sl ([.ref h0])).length) Slot.unset).toArray = ls at hl ⊢
  have hl : lv_has ls 4 [(0, .ref h0)] := hl
  unfold f_X5_checksum at hf
  refine lv_ldc2 (v := 7) hx hb hown q1 dX5_checksum_0 ?_
  refine lv_lstore_n (lv' := [(1, .long 7), (0, .ref h0)]) hx hb dX5_checksum_3 rfl hl (by decide) rfl (fun ls hl => ?_)
  refine lv_iconst (v := 0) hx hb dX5_checksum_4 (by decide) ?_
  refine lv_istore_n (lv' := [(3, .int 0), (1, .long 7), (0, .ref h0)]) hx hb dX5_checksum_5 rfl hl (by decide) rfl (fun ls hl => ?_)
  have loop6 : ∀ (n6 : Nat) (v6_3 : Int32) (v6_1 : Int64) (ls : Array Slot), lv_has ls 4 [(3, .int v6_3), (1, .long v6_1), (0, .ref h0)] → f_X5_checksum_L6 u n6 v6_3 v6_1 = some res → W p l e (rmX5_checksum) s m ([.ref h0] : List Value).toArray below meth c s.heap [] 0 0 (MQ below (vp_Sl (fun z => z = res)) ([.ref h0] : List Value).toArray s 0 0 (fun _ => False)) (F0 m 6 ls []) := by
    intro n6
    induction n6 with
    | zero => intro v6_3 v6_1 ls hl hf; rw [f_X5_checksum_L6] at hf; cases hf
    | succ n6 ih6 =>
      intro v6_3 v6_1 ls hl hf
      rw [f_X5_checksum_L6] at hf
      refine lv_iload_n hx hb dX5_checksum_6 rfl (lv_at hl 0 rfl) ?_
      refine lv_bipush (v := 8) hx hb dX5_checksum_7 (by decide) ?_
      refine my_ic_ge (tgt := 31) hx hb dX5_checksum_9 (by decide) (fun c1 => ?_) (fun c1 => ?_)
      · rw [if_neg c1] at hf
        refine lv_aload_n hx hb dX5_checksum_31 rfl (lv_at hl 2 rfl) ?_
        refine va_get (D := D) (ci := 4) (v := .ref h2) (C := RX5) (T := TX5) (N := 3) hx hb hts q3 hown hK hP 0 rfl rfl 1 (by decide) q2 (fun _ h9 => h9) rfl dX5_checksum_32 ?_
        refine lv_lload_n hx hb dX5_checksum_35 rfl (lv_at hl 1 rfl) ?_
        obtain ⟨r2, er2, hf⟩ := ob_e hf
        refine my_callRl (As := [.long v6_1]) (n := 1) (rest := []) ⟨hx, hb, hml, hown, hts⟩ hK (hP.sub (ws' := (wR cC cI h2 h3 h4 u.2.1)) [2, 3, 4] rfl) (m_X3_addedTo l D cC cI cJ h2 h3 h4 u.2.1 v6_1 _ er2) gX5_checksum_X3_addedTo rfl ⟨rfl, rfl⟩ (ci := 3) rfl rfl (by decide +kernel) ⟨Nat.le_of_ble_eq_true rfl, Nat.le_of_ble_eq_true rfl⟩ ⟨Nat.le_of_ble_eq_true rfl, Nat.le_of_ble_eq_true rfl⟩ hl.1 rfl rfl (Nat.le_of_ble_eq_true rfl) dX5_checksum_36 ?_
        exact W.lret (v := r2) hx hb hr (fun t ht hW => ⟨_, rfl, Option.some.inj hf, ht⟩) (fun q hq => absurd hq List.not_mem_nil) dX5_checksum_39
      · rw [if_pos c1] at hf
        refine lv_ldc2 (v := 31) hx hb hown q4 dX5_checksum_12 ?_
        refine lv_lload_n hx hb dX5_checksum_15 rfl (lv_at hl 1 rfl) ?_
        refine lv_lmul hx hb dX5_checksum_16 ?_
        refine lv_aload_n hx hb dX5_checksum_17 rfl (lv_at hl 2 rfl) ?_
        refine va_get (D := D) (ci := 4) (v := .ref h1) (C := RX5) (T := TX5) (N := 3) hx hb hts q3 hown hK hP 0 rfl rfl 0 (by decide) q5 (fun _ h9 => h9) rfl dX5_checksum_18 ?_
        refine lv_iload_n hx hb dX5_checksum_21 rfl (lv_at hl 0 rfl) ?_
        obtain ⟨g3, hf⟩ := og_e hf
        refine va_lald hx hb hK hP 1 2 rfl rfl g3 dX5_checksum_22 ?_
        refine lv_ladd hx hb dX5_checksum_23 ?_
        refine lv_lstore_n (lv' := [(1, .long ((31 * v6_1) + (u.1 v6_3.toNatClampNeg))), (3, .int v6_3), (0, .ref h0)]) hx hb dX5_checksum_24 rfl hl (by decide) rfl (fun ls hl => ?_)
        refine lv_iinc (v := (v6_3 + 1)) (lv' := [(3, .int (v6_3 + 1)), (1, .long ((31 * v6_1) + (u.1 v6_3.toNatClampNeg))), (0, .ref h0)]) hx hb dX5_checksum_25 hl (k := 1) rfl rfl (by decide) rfl (fun ls hl => ?_)
        refine lv_goto (tgt := 6) hx hb dX5_checksum_28 (by decide) ?_
        exact ih6 (v6_3 + 1) ((31 * v6_1) + (u.1 v6_3.toNatClampNeg)) _ (lv_sub hl [0, 1, 2] rfl) hf
  exact loop6 100 0 7 _ (lv_sub hl [0, 1, 2] rfl) hf

set_option maxHeartbeats 4000000 in
set_option maxRecDepth 100000 in
theorem m_X5_isSound (l : Launch) (D : va_G) (cC cI cJ : ClassId) (h0 h1 h2 h3 h4 h5 h6 h7 : Nat) (u : StX) (res : Bool) (hf : f_X5_isSound u = some res) : Met l yX5_isSound wsX5_isSound rmX5_isSound (my_PcR D vwCl (KT cC cI cJ) (wX cC cI cJ h0 h1 h2 h3 h4 h5 h6 h7 u) [.ref h0]) (vp_Si (fun z => z = b2i res)) 0 0 (fun _ => False) := by
  refine Met.ofW (cc := cX5_isSound) (maxL := 3) (ret := (some .boolean)) (by decide) rfl ?_
  intro p e s m args below meth c s₁ B hml hv
  obtain ⟨rfl, hP, hK⟩ := hv
  have hx := B.exec
  have hb := B.bytes
  have hr := B.returns
  have hts : ∀ w ∈ wsX5_isSound, w.before ([.ref h0] : List Value).toArray s = true := atoms_spec (ws := wsX5_isSound) B.pre
  have hown : s.vm.findClass RX5 = some m.cls := findClass_of_methodNamed B.named
  have hlk : meth.locks = false := B.notSynchronized
  have hP : va_P D vwCl [(h0, .inr (4, [.ref h1, .ref h2, .ref h5])), (h1, .inl (cJ, 8, .inr (.inl u.1))), (h2, .inr (3, [.ref h3, .ref h4, .int u.2.1.2.2])), (h3, .inl (cC, 40, .inl u.2.1.1)), (h4, .inl (cI, 40, .inl u.2.1.2.1)), (h5, .inr (2, [.ref h6, .ref h7, .int u.2.2.2.2.1, .int u.2.2.2.2.2])), (h6, .inl (cI, 8, .inl u.2.2.1)), (h7, .inl (cJ, 8, .inr (.inl u.2.2.2.1)))] s.heap := hP
  have q1 := hts (.fieldLink RX5 9 "Doubleline" "slots" "[J") (by decide +kernel)
  have q2 : ∀ w ∈ u_ws RX5 TX5 3, w ∈ wsX5_isSound := by decide +kernel
  have q3 := hts (.fieldLink RX5 16 "Doubleline" "row" "LDoubleline$Row;") (by decide +kernel)
  have hl := lv_entry ([.ref h0]) (n := 3) (Nat.le_of_ble_eq_true rfl)
  rw [lg_entry_eq]
  generalize (lg_sl ([.ref h0]) ++ List.replicate (3 - (lg_sl ([.ref h0])).length) Slot.unset).toArray = ls at hl ⊢
  have hl : lv_has ls 3 [(0, .ref h0)] := hl
  unfold f_X5_isSound at hf
  refine lv_iconst (v := 0) hx hb dX5_isSound_0 (by decide) ?_
  refine lv_istore_n (lv' := [(1, .int 0), (0, .ref h0)]) hx hb dX5_isSound_1 rfl hl (by decide) rfl (fun ls hl => ?_)
  have loop2 : ∀ (n2 : Nat) (v2_1 : Int32) (ls : Array Slot), lv_has ls 3 [(1, .int v2_1), (0, .ref h0)] → f_X5_isSound_L2 u n2 v2_1 = some res → W p l e (rmX5_isSound) s m ([.ref h0] : List Value).toArray below meth c s.heap [] 0 0 (MQ below (vp_Si (fun z => z = b2i res)) ([.ref h0] : List Value).toArray s 0 0 (fun _ => False)) (F0 m 2 ls []) := by
    intro n2
    induction n2 with
    | zero => intro v2_1 ls hl hf; rw [f_X5_isSound_L2] at hf; cases hf
    | succ n2 ih2 =>
      intro v2_1 ls hl hf
      rw [f_X5_isSound_L2] at hf
      refine lv_iload_n hx hb dX5_isSound_2 rfl (lv_at hl 0 rfl) ?_
      refine lv_bipush (v := 8) hx hb dX5_isSound_3 (by decide) ?_
      refine my_ic_ge (tgt := 94) hx hb dX5_isSound_5 (by decide) (fun c1 => ?_) (fun c1 => ?_)
      · rw [if_neg c1] at hf
        refine lv_iconst (v := 1) hx hb dX5_isSound_94 (by decide) ?_
        exact W.zret (v := b2i true) (ty := .boolean) hx hb hr (b2i_nar _) (fun t ht hW => ⟨_, rfl, congrArg b2i (Option.some.inj hf), ht⟩) (fun q hq => absurd hq List.not_mem_nil) dX5_isSound_95
      · rw [if_pos c1] at hf
        refine lv_aload_n hx hb dX5_isSound_8 rfl (lv_at hl 1 rfl) ?_
        refine va_get (D := D) (ci := 4) (v := .ref h1) (C := RX5) (T := TX5) (N := 3) hx hb hts q2 hown hK hP 0 rfl rfl 0 (by decide) q1 (fun _ h9 => h9) rfl dX5_isSound_9 ?_
        refine lv_iload_n hx hb dX5_isSound_12 rfl (lv_at hl 0 rfl) ?_
        obtain ⟨g2, hf⟩ := og_e hf
        refine va_lald hx hb hK hP 1 2 rfl rfl g2 dX5_isSound_13 ?_
        obtain ⟨r3, er3, hf⟩ := ob_e hf
        refine my_callPi (As := [.long (u.1 v2_1.toNatClampNeg)]) (n := 1) (rest := []) ⟨hx, hb, hml, hown, hts⟩ (m_X4_holdsAt l (u.1 v2_1.toNatClampNeg) _ er3) gX5_isSound_X4_holdsAt rfl ⟨rfl, rfl⟩ (by decide +kernel) ⟨Nat.le_of_ble_eq_true rfl, Nat.le_of_ble_eq_true rfl⟩ ⟨Nat.le_of_ble_eq_true rfl, Nat.le_of_ble_eq_true rfl⟩ hl.1 rfl rfl (Nat.le_of_ble_eq_true rfl) dX5_isSound_14 ?_
        refine my_bz_eq (x := r3) (tgt := 52) hx hb dX5_isSound_17 (by decide) (fun c4 => ?_) (fun c4 => ?_)
        · rw [if_pos c4] at hf
          refine lv_iconst (v := 0) hx hb dX5_isSound_52 (by decide) ?_
          exact W.zret (v := b2i false) (ty := .boolean) hx hb hr (b2i_nar _) (fun t ht hW => ⟨_, rfl, congrArg b2i (Option.some.inj hf), ht⟩) (fun q hq => absurd hq List.not_mem_nil) dX5_isSound_53
        · rw [if_neg c4] at hf
          refine lv_aload_n hx hb dX5_isSound_20 rfl (lv_at hl 1 rfl) ?_
          refine va_get (D := D) (ci := 4) (v := .ref h2) (C := RX5) (T := TX5) (N := 3) hx hb hts q2 hown hK hP 0 rfl rfl 1 (by decide) q3 (fun _ h9 => h9) rfl dX5_isSound_21 ?_
          refine lv_aload_n hx hb dX5_isSound_24 rfl (lv_at hl 1 rfl) ?_
          refine va_get (D := D) (ci := 4) (v := .ref h1) (C := RX5) (T := TX5) (N := 3) hx hb hts q2 hown hK hP 0 rfl rfl 0 (by decide) q1 (fun _ h9 => h9) rfl dX5_isSound_25 ?_
          refine lv_iload_n hx hb dX5_isSound_28 rfl (lv_at hl 0 rfl) ?_
          obtain ⟨g5, hf⟩ := og_e hf
          refine va_lald hx hb hK hP 1 2 rfl rfl g5 dX5_isSound_29 ?_
          obtain ⟨r6, er6, hf⟩ := ob_e hf
          refine my_callRi (As := [.long (u.1 v2_1.toNatClampNeg)]) (n := 1) (rest := []) ⟨hx, hb, hml, hown, hts⟩ hK (hP.sub (ws' := (wR cC cI h2 h3 h4 u.2.1)) [2, 3, 4] rfl) (m_X3_lossesFrom l D cC cI cJ h2 h3 h4 u.2.1 (u.1 v2_1.toNatClampNeg) _ er6) gX5_isSound_X3_lossesFrom rfl ⟨rfl, rfl⟩ (ci := 3) rfl rfl (by decide +kernel) ⟨Nat.le_of_ble_eq_true rfl, Nat.le_of_ble_eq_true rfl⟩ ⟨Nat.le_of_ble_eq_true rfl, Nat.le_of_ble_eq_true rfl⟩ hl.1 rfl rfl (Nat.le_of_ble_eq_true rfl) dX5_isSound_30 ?_
          refine my_if_ne (tgt := 54) hx hb dX5_isSound_33 (by decide) (fun c7 => ?_) (fun c7 => ?_)
          · rw [if_neg c7] at hf
            refine lv_iconst (v := 0) hx hb dX5_isSound_54 (by decide) ?_
            refine lv_istore_n (lv' := [(2, .int 0), (1, .int v2_1), (0, .ref h0)]) hx hb dX5_isSound_55 rfl hl (by decide) rfl (fun ls hl => ?_)
            have loop56 : ∀ (n56 : Nat) (v56_2 : Int32) (v56_1 : Int32) (ls : Array Slot), lv_has ls 3 [(2, .int v56_2), (1, .int v56_1), (0, .ref h0)] → f_X5_isSound_L56 u (f_X5_isSound_L2 u n2) n56 v56_2 v56_1 = some res → W p l e (rmX5_isSound) s m ([.ref h0] : List Value).toArray below meth c s.heap [] 0 0 (MQ below (vp_Si (fun z => z = b2i res)) ([.ref h0] : List Value).toArray s 0 0 (fun _ => False)) (F0 m 56 ls []) := by
              intro n56
              induction n56 with
              | zero => intro v56_2 v56_1 ls hl hf; rw [f_X5_isSound_L56] at hf; cases hf
              | succ n56 ih56 =>
                intro v56_2 v56_1 ls hl hf
                rw [f_X5_isSound_L56] at hf
                refine lv_iload_n hx hb dX5_isSound_56 rfl (lv_at hl 0 rfl) ?_
                refine lv_bipush (v := 8) hx hb dX5_isSound_57 (by decide) ?_
                refine my_ic_ge (tgt := 88) hx hb dX5_isSound_59 (by decide) (fun c8 => ?_) (fun c8 => ?_)
                · rw [if_neg c8] at hf
                  refine lv_iinc (v := (v56_1 + 1)) (lv' := [(1, .int (v56_1 + 1)), (2, .int v56_2), (0, .ref h0)]) hx hb dX5_isSound_88 hl (k := 1) rfl rfl (by decide) rfl (fun ls hl => ?_)
                  refine lv_goto (tgt := 2) hx hb dX5_isSound_91 (by decide) ?_
                  exact ih2 (v56_1 + 1) _ (lv_sub hl [0, 2] rfl) hf
                · rw [if_pos c8] at hf
                  refine lv_aload_n hx hb dX5_isSound_62 rfl (lv_at hl 2 rfl) ?_
                  refine va_get (D := D) (ci := 4) (v := .ref h1) (C := RX5) (T := TX5) (N := 3) hx hb hts q2 hown hK hP 0 rfl rfl 0 (by decide) q1 (fun _ h9 => h9) rfl dX5_isSound_63 ?_
                  refine lv_iload_n hx hb dX5_isSound_66 rfl (lv_at hl 1 rfl) ?_
                  obtain ⟨g9, hf⟩ := og_e hf
                  refine va_lald hx hb hK hP 1 2 rfl rfl g9 dX5_isSound_67 ?_
                  refine lv_aload_n hx hb dX5_isSound_68 rfl (lv_at hl 2 rfl) ?_
                  refine va_get (D := D) (ci := 4) (v := .ref h1) (C := RX5) (T := TX5) (N := 3) hx hb hts q2 hown hK hP 0 rfl rfl 0 (by decide) q1 (fun _ h9 => h9) rfl dX5_isSound_69 ?_
                  refine lv_iload_n hx hb dX5_isSound_72 rfl (lv_at hl 0 rfl) ?_
                  obtain ⟨g10, hf⟩ := og_e hf
                  refine va_lald hx hb hK hP 1 2 rfl rfl g10 dX5_isSound_73 ?_
                  refine my_callPi (As := [.long (u.1 v56_1.toNatClampNeg), .long (u.1 v56_2.toNatClampNeg)]) (n := 2) (rest := []) ⟨hx, hb, hml, hown, hts⟩ (m_X4_holdsBetween l (u.1 v56_1.toNatClampNeg) (u.1 v56_2.toNatClampNeg) _ rfl) gX5_isSound_X4_holdsBetween rfl ⟨rfl, rfl⟩ (by decide +kernel) ⟨Nat.le_of_ble_eq_true rfl, Nat.le_of_ble_eq_true rfl⟩ ⟨Nat.le_of_ble_eq_true rfl, Nat.le_of_ble_eq_true rfl⟩ hl.1 rfl rfl (Nat.le_of_ble_eq_true rfl) dX5_isSound_74 ?_
                  refine my_bz_ne (x := (f_X4_holdsBetween (u.1 v56_1.toNatClampNeg) (u.1 v56_2.toNatClampNeg))) (tgt := 82) hx hb dX5_isSound_77 (by decide) (fun c11 => ?_) (fun c11 => ?_)
                  · rw [if_neg c11] at hf
                    refine lv_iinc (v := (v56_2 + 1)) (lv' := [(2, .int (v56_2 + 1)), (1, .int v56_1), (0, .ref h0)]) hx hb dX5_isSound_82 hl (k := 0) rfl rfl (by decide) rfl (fun ls hl => ?_)
                    refine lv_goto (tgt := 56) hx hb dX5_isSound_85 (by decide) ?_
                    exact ih56 (v56_2 + 1) v56_1 _ (lv_sub hl [0, 1, 2] rfl) hf
                  · rw [if_pos c11] at hf
                    refine lv_iconst (v := 0) hx hb dX5_isSound_80 (by decide) ?_
                    exact W.zret (v := b2i false) (ty := .boolean) hx hb hr (b2i_nar _) (fun t ht hW => ⟨_, rfl, congrArg b2i (Option.some.inj hf), ht⟩) (fun q hq => absurd hq List.not_mem_nil) dX5_isSound_81
            exact loop56 100 0 v2_1 _ (lv_sub hl [0, 1, 2] rfl) hf
          · rw [if_pos c7] at hf
            refine lv_aload_n hx hb dX5_isSound_36 rfl (lv_at hl 1 rfl) ?_
            refine va_get (D := D) (ci := 4) (v := .ref h2) (C := RX5) (T := TX5) (N := 3) hx hb hts q2 hown hK hP 0 rfl rfl 1 (by decide) q3 (fun _ h9 => h9) rfl dX5_isSound_37 ?_
            refine lv_aload_n hx hb dX5_isSound_40 rfl (lv_at hl 1 rfl) ?_
            refine va_get (D := D) (ci := 4) (v := .ref h1) (C := RX5) (T := TX5) (N := 3) hx hb hts q2 hown hK hP 0 rfl rfl 0 (by decide) q1 (fun _ h9 => h9) rfl dX5_isSound_41 ?_
            refine lv_iload_n hx hb dX5_isSound_44 rfl (lv_at hl 0 rfl) ?_
            obtain ⟨g12, hf⟩ := og_e hf
            refine va_lald hx hb hK hP 1 2 rfl rfl g12 dX5_isSound_45 ?_
            obtain ⟨r13, er13, hf⟩ := ob_e hf
            refine my_callRi (As := [.long (u.1 v2_1.toNatClampNeg)]) (n := 1) (rest := []) ⟨hx, hb, hml, hown, hts⟩ hK (hP.sub (ws' := (wR cC cI h2 h3 h4 u.2.1)) [2, 3, 4] rfl) (m_X3_leadsHome l D cC cI cJ h2 h3 h4 u.2.1 (u.1 v2_1.toNatClampNeg) _ er13) gX5_isSound_X3_leadsHome rfl ⟨rfl, rfl⟩ (ci := 3) rfl rfl (by decide +kernel) ⟨Nat.le_of_ble_eq_true rfl, Nat.le_of_ble_eq_true rfl⟩ ⟨Nat.le_of_ble_eq_true rfl, Nat.le_of_ble_eq_true rfl⟩ hl.1 rfl rfl (Nat.le_of_ble_eq_true rfl) dX5_isSound_46 ?_
            refine my_bz_ne (x := r13) (tgt := 54) hx hb dX5_isSound_49 (by decide) (fun c14 => ?_) (fun c14 => ?_)
            · rw [if_neg c14] at hf
              refine lv_iconst (v := 0) hx hb dX5_isSound_54 (by decide) ?_
              refine lv_istore_n (lv' := [(2, .int 0), (1, .int v2_1), (0, .ref h0)]) hx hb dX5_isSound_55 rfl hl (by decide) rfl (fun ls hl => ?_)
              have loop56 : ∀ (n56 : Nat) (v56_2 : Int32) (v56_1 : Int32) (ls : Array Slot), lv_has ls 3 [(2, .int v56_2), (1, .int v56_1), (0, .ref h0)] → f_X5_isSound_L56 u (f_X5_isSound_L2 u n2) n56 v56_2 v56_1 = some res → W p l e (rmX5_isSound) s m ([.ref h0] : List Value).toArray below meth c s.heap [] 0 0 (MQ below (vp_Si (fun z => z = b2i res)) ([.ref h0] : List Value).toArray s 0 0 (fun _ => False)) (F0 m 56 ls []) := by
                intro n56
                induction n56 with
                | zero => intro v56_2 v56_1 ls hl hf; rw [f_X5_isSound_L56] at hf; cases hf
                | succ n56 ih56 =>
                  intro v56_2 v56_1 ls hl hf
                  rw [f_X5_isSound_L56] at hf
                  refine lv_iload_n hx hb dX5_isSound_56 rfl (lv_at hl 0 rfl) ?_
                  refine lv_bipush (v := 8) hx hb dX5_isSound_57 (by decide) ?_
                  refine my_ic_ge (tgt := 88) hx hb dX5_isSound_59 (by decide) (fun c15 => ?_) (fun c15 => ?_)
                  · rw [if_neg c15] at hf
                    refine lv_iinc (v := (v56_1 + 1)) (lv' := [(1, .int (v56_1 + 1)), (2, .int v56_2), (0, .ref h0)]) hx hb dX5_isSound_88 hl (k := 1) rfl rfl (by decide) rfl (fun ls hl => ?_)
                    refine lv_goto (tgt := 2) hx hb dX5_isSound_91 (by decide) ?_
                    exact ih2 (v56_1 + 1) _ (lv_sub hl [0, 2] rfl) hf
                  · rw [if_pos c15] at hf
                    refine lv_aload_n hx hb dX5_isSound_62 rfl (lv_at hl 2 rfl) ?_
                    refine va_get (D := D) (ci := 4) (v := .ref h1) (C := RX5) (T := TX5) (N := 3) hx hb hts q2 hown hK hP 0 rfl rfl 0 (by decide) q1 (fun _ h9 => h9) rfl dX5_isSound_63 ?_
                    refine lv_iload_n hx hb dX5_isSound_66 rfl (lv_at hl 1 rfl) ?_
                    obtain ⟨g16, hf⟩ := og_e hf
                    refine va_lald hx hb hK hP 1 2 rfl rfl g16 dX5_isSound_67 ?_
                    refine lv_aload_n hx hb dX5_isSound_68 rfl (lv_at hl 2 rfl) ?_
                    refine va_get (D := D) (ci := 4) (v := .ref h1) (C := RX5) (T := TX5) (N := 3) hx hb hts q2 hown hK hP 0 rfl rfl 0 (by decide) q1 (fun _ h9 => h9) rfl dX5_isSound_69 ?_
                    refine lv_iload_n hx hb dX5_isSound_72 rfl (lv_at hl 0 rfl) ?_
                    obtain ⟨g17, hf⟩ := og_e hf
                    refine va_lald hx hb hK hP 1 2 rfl rfl g17 dX5_isSound_73 ?_
                    refine my_callPi (As := [.long (u.1 v56_1.toNatClampNeg), .long (u.1 v56_2.toNatClampNeg)]) (n := 2) (rest := []) ⟨hx, hb, hml, hown, hts⟩ (m_X4_holdsBetween l (u.1 v56_1.toNatClampNeg) (u.1 v56_2.toNatClampNeg) _ rfl) gX5_isSound_X4_holdsBetween rfl ⟨rfl, rfl⟩ (by decide +kernel) ⟨Nat.le_of_ble_eq_true rfl, Nat.le_of_ble_eq_true rfl⟩ ⟨Nat.le_of_ble_eq_true rfl, Nat.le_of_ble_eq_true rfl⟩ hl.1 rfl rfl (Nat.le_of_ble_eq_true rfl) dX5_isSound_74 ?_
                    refine my_bz_ne (x := (f_X4_holdsBetween (u.1 v56_1.toNatClampNeg) (u.1 v56_2.toNatClampNeg))) (tgt := 82) hx hb dX5_isSound_77 (by decide) (fun c18 => ?_) (fun c18 => ?_)
                    · rw [if_neg c18] at hf
                      refine lv_iinc (v := (v56_2 + 1)) (lv' := [(2, .int (v56_2 + 1)), (1, .int v56_1), (0, .ref h0)]) hx hb dX5_isSound_82 hl (k := 0) rfl rfl (by decide) rfl (fun ls hl => ?_)
                      refine lv_goto (tgt := 56) hx hb dX5_isSound_85 (by decide) ?_
                      exact ih56 (v56_2 + 1) v56_1 _ (lv_sub hl [0, 1, 2] rfl) hf
                    · rw [if_pos c18] at hf
                      refine lv_iconst (v := 0) hx hb dX5_isSound_80 (by decide) ?_
                      exact W.zret (v := b2i false) (ty := .boolean) hx hb hr (b2i_nar _) (fun t ht hW => ⟨_, rfl, congrArg b2i (Option.some.inj hf), ht⟩) (fun q hq => absurd hq List.not_mem_nil) dX5_isSound_81
              exact loop56 100 0 v2_1 _ (lv_sub hl [0, 1, 2] rfl) hf
            · rw [if_pos c14] at hf
              refine lv_iconst (v := 0) hx hb dX5_isSound_52 (by decide) ?_
              exact W.zret (v := b2i false) (ty := .boolean) hx hb hr (b2i_nar _) (fun t ht hW => ⟨_, rfl, congrArg b2i (Option.some.inj hf), ht⟩) (fun q hq => absurd hq List.not_mem_nil) dX5_isSound_53
  exact loop2 100 0 _ (lv_sub hl [0, 1] rfl) hf

set_option maxHeartbeats 4000000 in
set_option maxRecDepth 100000 in
theorem m_X5_become (l : Launch) (D : va_G) (cC cI cJ : ClassId) (h0 h1 h2 h3 h4 h5 h6 h7 : Nat) (u : StX) (sz : Nat) (a0 : Int32) (a1 : Int64) (res : Int64 × StX) (hf : f_X5_become u a0 a1 = some res) : Met l yX5_become wsX5_become rmX5_become (my_PcM D vwCl (KT cC cI cJ) sz (wX cC cI cJ h0 h1 h2 h3 h4 h5 h6 h7 u) [.ref h0, .int a0, .long a1]) (va_Ql (fun r v => r = res.1 ∧ v = res.2) (my_B D vwCl (KT cC cI cJ) (va_A (wX cC cI cJ h0 h1 h2 h3 h4 h5 h6 h7 u) sz) (fun v : StX => (wX cC cI cJ h0 h1 h2 h3 h4 h5 h6 h7 v))) (va_A (wX cC cI cJ h0 h1 h2 h3 h4 h5 h6 h7 u) sz)) 0 0 (va_A (wX cC cI cJ h0 h1 h2 h3 h4 h5 h6 h7 u) sz) := by
  refine Met.ofW (cc := cX5_become) (maxL := 4) (ret := (some .long)) (by decide) rfl ?_
  intro p e s m args below meth c s₁ B hml hv
  obtain ⟨rfl, hsz, hP, hK, hD0⟩ := hv
  have hx := B.exec
  have hb := B.bytes
  have hr := B.returns
  have hts : ∀ w ∈ wsX5_become, w.before ([.ref h0, .int a0, .long a1] : List Value).toArray s = true := atoms_spec (ws := wsX5_become) B.pre
  have hown : s.vm.findClass RX5 = some m.cls := findClass_of_methodNamed B.named
  have hlk : meth.locks = false := B.notSynchronized
  subst hsz
  have hD := hD0.self (sz := s.heap.size)
  generalize hAe : va_A (wX cC cI cJ h0 h1 h2 h3 h4 h5 h6 h7 u) s.heap.size = A at hD ⊢
  have hA : ∀ q : Nat, s.heap.size ≤ q → A q := fun q h => by rw [← hAe]; exact Or.inr h
  have hS : va_S A s.heap s.heap [] := va_S.rf
  have hP : va_P D vwCl [(h0, .inr (4, [.ref h1, .ref h2, .ref h5])), (h1, .inl (cJ, 8, .inr (.inl u.1))), (h2, .inr (3, [.ref h3, .ref h4, .int u.2.1.2.2])), (h3, .inl (cC, 40, .inl u.2.1.1)), (h4, .inl (cI, 40, .inl u.2.1.2.1)), (h5, .inr (2, [.ref h6, .ref h7, .int u.2.2.2.2.1, .int u.2.2.2.2.2])), (h6, .inl (cI, 8, .inl u.2.2.1)), (h7, .inl (cJ, 8, .inr (.inl u.2.2.2.1)))] s.heap := hP
  have hD : va_D A [(h0, .inr (4, [.ref h1, .ref h2, .ref h5])), (h1, .inl (cJ, 8, .inr (.inl u.1))), (h2, .inr (3, [.ref h3, .ref h4, .int u.2.1.2.2])), (h3, .inl (cC, 40, .inl u.2.1.1)), (h4, .inl (cI, 40, .inl u.2.1.2.1)), (h5, .inr (2, [.ref h6, .ref h7, .int u.2.2.2.2.1, .int u.2.2.2.2.2])), (h6, .inl (cI, 8, .inl u.2.2.1)), (h7, .inl (cJ, 8, .inr (.inl u.2.2.2.1)))] := hD
  have q1 := hts (.fieldLink RX5 23 "Doubleline" "past" "LDoubleline$Past;") (by decide +kernel)
  have q2 : ∀ w ∈ u_ws RX5 TX5 3, w ∈ wsX5_become := by decide +kernel
  have q3 := hts (.fieldLink RX5 9 "Doubleline" "slots" "[J") (by decide +kernel)
  have hl := lv_entry ([.ref h0, .int a0, .long a1]) (n := 4) (Nat.le_of_ble_eq_true rfl)
  rw [lg_entry_eq]
  generalize (lg_sl ([.ref h0, .int a0, .long a1]) ++ List.replicate (4 - (lg_sl ([.ref h0, .int a0, .long a1])).length) Slot.unset).toArray = ls at hl ⊢
  have hl : lv_has ls 4 [(0, .ref h0), (1, .int a0), (2, .long a1)] := hl
  unfold f_X5_become at hf
  refine lv_aload_n hx hb dX5_become_0 rfl (lv_at hl 0 rfl) ?_
  refine va_get (D := D) (ci := 4) (v := .ref h5) (C := RX5) (T := TX5) (N := 3) hx hb hts q2 hown hK hP 0 rfl rfl 2 (by decide) q1 (fun _ h9 => h9) rfl dX5_become_1 ?_
  refine lv_iload_n hx hb dX5_become_4 rfl (lv_at hl 1 rfl) ?_
  refine lv_aload_n hx hb dX5_become_5 rfl (lv_at hl 0 rfl) ?_
  refine va_get (D := D) (ci := 4) (v := .ref h1) (C := RX5) (T := TX5) (N := 3) hx hb hts q2 hown hK hP 0 rfl rfl 0 (by decide) q3 (fun _ h9 => h9) rfl dX5_become_6 ?_
  refine lv_iload_n hx hb dX5_become_9 rfl (lv_at hl 1 rfl) ?_
  obtain ⟨g1, hf⟩ := og_e hf
  refine va_lald hx hb hK hP 1 2 rfl rfl g1 dX5_become_10 ?_
  obtain ⟨z2, ez2, hf⟩ := ob_e hf
  refine my_callMv (As := [.int a0, .long (u.1 a0.toNatClampNeg)]) (n := 2) (rest := []) (wr := [(h0, .inr (4, [.ref h1, .ref h2, .ref h5])), (h1, .inl (cJ, 8, .inr (.inl u.1))), (h2, .inr (3, [.ref h3, .ref h4, .int u.2.1.2.2])), (h3, .inl (cC, 40, .inl u.2.1.1)), (h4, .inl (cI, 40, .inl u.2.1.2.1))]) ⟨hx, hb, hml, hown, hts⟩ hK hP hD hS hA [5, 6, 7] [0, 1, 2, 3, 4] rfl rfl (by decide) (by decide) (by decide) (m_X2_keep l D cC cI cJ h5 h6 h7 u.2.2 s.heap.size a0 (u.1 a0.toNatClampNeg) _ ez2) gX5_become_X2_keep rfl ⟨rfl, rfl⟩ (ci := 2) rfl rfl (by decide +kernel) ⟨Nat.le_of_ble_eq_true rfl, Nat.le_of_ble_eq_true rfl⟩ ⟨Nat.le_of_ble_eq_true rfl, Nat.le_of_ble_eq_true rfl⟩ hl.1 rfl rfl (Nat.le_of_ble_eq_true rfl) dX5_become_11 (fun u9 H locs hw hP hD hS => ?_)
  obtain rfl := hw.symm
  have hP : va_P D vwCl [(h0, .inr (4, [.ref h1, .ref h2, .ref h5])), (h1, .inl (cJ, 8, .inr (.inl u.1))), (h2, .inr (3, [.ref h3, .ref h4, .int u.2.1.2.2])), (h3, .inl (cC, 40, .inl u.2.1.1)), (h4, .inl (cI, 40, .inl u.2.1.2.1)), (h5, .inr (2, [.ref h6, .ref h7, .int z2.2.2.1, .int z2.2.2.2])), (h6, .inl (cI, 8, .inl z2.1)), (h7, .inl (cJ, 8, .inr (.inl z2.2.1)))] H := hP.sub [0, 1, 2, 3, 4, 5, 6, 7] rfl
  have hD : va_D A [(h0, .inr (4, [.ref h1, .ref h2, .ref h5])), (h1, .inl (cJ, 8, .inr (.inl u.1))), (h2, .inr (3, [.ref h3, .ref h4, .int u.2.1.2.2])), (h3, .inl (cC, 40, .inl u.2.1.1)), (h4, .inl (cI, 40, .inl u.2.1.2.1)), (h5, .inr (2, [.ref h6, .ref h7, .int z2.2.2.1, .int z2.2.2.2])), (h6, .inl (cI, 8, .inl z2.1)), (h7, .inl (cJ, 8, .inr (.inl z2.2.1)))] := hD.sub [0, 1, 2, 3, 4, 5, 6, 7] (by decide) rfl
  refine lv_aload_n hx hb dX5_become_14 rfl (lv_at hl 0 rfl) ?_
  refine va_get (D := D) (ci := 4) (v := .ref h1) (C := RX5) (T := TX5) (N := 3) hx hb hts q2 hown hK hP 0 rfl rfl 0 (by decide) q3 (fun _ h9 => h9) rfl dX5_become_15 ?_
  refine lv_iload_n hx hb dX5_become_18 rfl (lv_at hl 1 rfl) ?_
  refine lv_lload_n hx hb dX5_become_19 rfl (lv_at hl 2 rfl) ?_
  obtain ⟨g3, hf⟩ := og_e hf
  refine va_last hx hb hK hP hD hS 1 2 rfl rfl g3 dX5_become_20 (fun H locs hP hD hS => ?_)
  have hP : va_P D vwCl [(h0, .inr (4, [.ref h1, .ref h2, .ref h5])), (h1, .inl (cJ, 8, .inr (.inl (vp_updL u.1 a0.toNatClampNeg a1)))), (h2, .inr (3, [.ref h3, .ref h4, .int u.2.1.2.2])), (h3, .inl (cC, 40, .inl u.2.1.1)), (h4, .inl (cI, 40, .inl u.2.1.2.1)), (h5, .inr (2, [.ref h6, .ref h7, .int z2.2.2.1, .int z2.2.2.2])), (h6, .inl (cI, 8, .inl z2.1)), (h7, .inl (cJ, 8, .inr (.inl z2.2.1)))] H := hP
  have hD : va_D A [(h0, .inr (4, [.ref h1, .ref h2, .ref h5])), (h1, .inl (cJ, 8, .inr (.inl (vp_updL u.1 a0.toNatClampNeg a1)))), (h2, .inr (3, [.ref h3, .ref h4, .int u.2.1.2.2])), (h3, .inl (cC, 40, .inl u.2.1.1)), (h4, .inl (cI, 40, .inl u.2.1.2.1)), (h5, .inr (2, [.ref h6, .ref h7, .int z2.2.2.1, .int z2.2.2.2])), (h6, .inl (cI, 8, .inl z2.1)), (h7, .inl (cJ, 8, .inr (.inl z2.2.1)))] := hD
  refine lv_lload_n hx hb dX5_become_21 rfl (lv_at hl 2 rfl) ?_
  refine my_callPl (As := [.long a1]) (n := 1) (rest := []) ⟨hx, hb, hml, hown, hts⟩ (m_X0_placeOf l a1 _ rfl) gX5_become_X0_placeOf rfl ⟨rfl, rfl⟩ (by decide +kernel) ⟨Nat.le_of_ble_eq_true rfl, Nat.le_of_ble_eq_true rfl⟩ ⟨Nat.le_of_ble_eq_true rfl, Nat.le_of_ble_eq_true rfl⟩ hl.1 rfl rfl (Nat.le_of_ble_eq_true rfl) dX5_become_22 ?_
  have hP9 : va_P D vwCl (wX cC cI cJ h0 h1 h2 h3 h4 h5 h6 h7 ((vp_updL u.1 a0.toNatClampNeg a1), (u.2.1, z2))) _ := hP
  have hD9 : va_D A (wX cC cI cJ h0 h1 h2 h3 h4 h5 h6 h7 ((vp_updL u.1 a0.toNatClampNeg a1), (u.2.1, z2))) := hD
  have hf := Option.some.inj hf
  have hf1 := congrArg Prod.fst hf
  have hf2 := congrArg Prod.snd hf
  exact W.lret (v := (f_X0_placeOf a1)) hx hb hr (fun t ht hW => ⟨⟨(f_X0_placeOf a1), ((vp_updL u.1 a0.toNatClampNeg a1), (u.2.1, z2)), rfl, ⟨hf1, hf2⟩, by rw [ht]; exact hP9, va_K.moved hW.alike hK, hD9⟩, hS.F ht⟩) hS.2.2 dX5_become_25
