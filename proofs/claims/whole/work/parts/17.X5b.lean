set_option maxHeartbeats 4000000 in
set_option maxRecDepth 100000 in
theorem m_X5_rank (l : Launch) (hl0 : l.stackTraces = false) (D : va_G) (cC cI cJ : ClassId) (h0 h1 h2 h3 h4 h5 h6 h7 : Nat) (u : StX) (sz : Nat) (a0 : Int32) (res : (String ⊕ Int32)) (hf : f_X5_rank u a0 = some res) : vx_Met l yX5_rank wsX5_rank rmX5_rank (my_PcTR D vwCl (KT cC cI cJ) sz (wX cC cI cJ h0 h1 h2 h3 h4 h5 h6 h7 u) [.ref h0, .int a0]) (va_Qi (fun r (_ : Unit) => (∃ z, r = z ∧ res = .inr z)) (fun _ _ => True) (fun q : Nat => sz ≤ q)) (vx_X (fun _ : Unit => True) (fun E _ _ => res = .inl E) (fun q : Nat => sz ≤ q)) 1 6 (fun q : Nat => sz ≤ q) := by
  refine vx_ofW (cc := cX5_rank) (maxL := 4) (ret := (some .int)) (by decide) rfl ?_
  intro p e s m args below meth c s₁ B hml ht hv
  obtain ⟨rfl, hsz, hP, hK, hXK⟩ := hv
  have hx := B.exec
  have hb := B.bytes
  have hr := B.returns
  have hts : ∀ w ∈ wsX5_rank, w.before ([.ref h0, .int a0] : List Value).toArray s = true := atoms_spec (ws := wsX5_rank) B.pre
  have hown : s.vm.findClass RX5 = some m.cls := findClass_of_methodNamed B.named
  have hlk : meth.locks = false := B.notSynchronized
  subst hsz
  have hS : va_S (fun q : Nat => s.heap.size ≤ q) s.heap s.heap [] := va_S.rf
  have hP : va_P D vwCl [(h0, .inr (4, [.ref h1, .ref h2, .ref h5])), (h1, .inl (cJ, 8, .inr (.inl u.1))), (h2, .inr (3, [.ref h3, .ref h4, .int u.2.1.2.2])), (h3, .inl (cC, 40, .inl u.2.1.1)), (h4, .inl (cI, 40, .inl u.2.1.2.1)), (h5, .inr (2, [.ref h6, .ref h7, .int u.2.2.2.2.1, .int u.2.2.2.2.2])), (h6, .inl (cI, 8, .inl u.2.2.1)), (h7, .inl (cJ, 8, .inr (.inl u.2.2.2.1)))] s.heap := hP
  have q1 := hts (.fieldLink RX5 9 "Doubleline" "slots" "[J") (by decide +kernel)
  have q2 : ∀ w ∈ u_ws RX5 TX5 3, w ∈ wsX5_rank := by decide +kernel
  have hl := lv_entry ([.ref h0, .int a0]) (n := 4) (Nat.le_of_ble_eq_true rfl)
  rw [lg_entry_eq]
  generalize (lg_sl ([.ref h0, .int a0]) ++ List.replicate (4 - (lg_sl ([.ref h0, .int a0])).length) Slot.unset).toArray = ls at hl ⊢
  have hl : lv_has ls 4 [(0, .ref h0), (1, .int a0)] := hl
  unfold f_X5_rank at hf
  refine lv_iload_n hx hb dX5_rank_0 rfl (lv_at hl 1 rfl) ?_
  obtain ⟨z1, ez1, xz1, hf⟩ := xb_e hf
  refine my_callT (As := [.int a0]) (n := 1) (rest := []) ⟨hx, hb, hml, hown, hts⟩ ht hlk hXK hS (m_X5_checkSlot l hl0 s.heap.size a0 _ ez1) gX5_rank_X5_checkSlot rfl (by decide +kernel) ⟨rfl, rfl⟩ ⟨Nat.le_of_ble_eq_true rfl, Nat.le_of_ble_eq_true rfl⟩ ⟨Nat.le_of_ble_eq_true rfl, Nat.le_of_ble_eq_true rfl⟩ ⟨Nat.le_of_ble_eq_true rfl, Nat.le_of_ble_eq_true rfl⟩ (fun q h => h) xz1 hl.1 rfl rfl (Nat.le_of_ble_eq_true rfl) dX5_rank_1 (fun u9 H locs qz1 hk1 hS => ?_)
  have hP := my_keep hP hk1
  have hf := hf _ qz1
  refine lv_iconst (v := 0) hx hb dX5_rank_4 (by decide) ?_
  refine lv_istore_n (lv' := [(2, .int 0), (0, .ref h0), (1, .int a0)]) hx hb dX5_rank_5 rfl hl (by decide) rfl (fun ls hl => ?_)
  refine lv_iconst (v := 0) hx hb dX5_rank_6 (by decide) ?_
  refine lv_istore_n (lv' := [(3, .int 0), (2, .int 0), (0, .ref h0), (1, .int a0)]) hx hb dX5_rank_7 rfl hl (by decide) rfl (fun ls hl => ?_)
  have loop8 : ∀ (n8 : Nat) (v8_3 : Int32) (v8_2 : Int32) (ls : Array Slot), lv_has ls 4 [(3, .int v8_3), (2, .int v8_2), (0, .ref h0), (1, .int a0)] → f_X5_rank_L8 u a0 n8 v8_3 v8_2 = some res → W p l e (rmX5_rank) s m ([.ref h0, .int a0] : List Value).toArray below meth c H locs 1 6 (vx_MQ below (va_Qi (fun r (_ : Unit) => (∃ z, r = z ∧ res = .inr z)) (fun _ _ => True) (fun q : Nat => s.heap.size ≤ q)) (vx_X (fun _ : Unit => True) (fun E _ _ => res = .inl E) (fun q : Nat => s.heap.size ≤ q)) ([.ref h0, .int a0] : List Value).toArray s 1 6 (fun q : Nat => s.heap.size ≤ q)) (F0 m 8 ls []) := by
    intro n8
    induction n8 with
    | zero => intro v8_3 v8_2 ls hl hf; rw [f_X5_rank_L8] at hf; cases hf
    | succ n8 ih8 =>
      intro v8_3 v8_2 ls hl hf
      rw [f_X5_rank_L8] at hf
      refine lv_iload_n hx hb dX5_rank_8 rfl (lv_at hl 0 rfl) ?_
      refine lv_bipush (v := 8) hx hb dX5_rank_9 (by decide) ?_
      refine my_ic_ge (tgt := 41) hx hb dX5_rank_11 (by decide) (fun c2 => ?_) (fun c2 => ?_)
      · rw [if_neg c2] at hf
        refine lv_iload_n hx hb dX5_rank_41 rfl (lv_at hl 1 rfl) ?_
        exact vx_ret (W.iret (v := v8_2) hx hb hr (fun t ht hW => ⟨⟨v8_2, (), rfl, ⟨_, rfl, (Option.some.inj hf).symm⟩, trivial⟩, hS.F ht⟩) hS.2.2 dX5_rank_42)
      · rw [if_pos c2] at hf
        refine lv_aload_n hx hb dX5_rank_14 rfl (lv_at hl 2 rfl) ?_
        refine va_get (D := D) (ci := 4) (v := .ref h1) (C := RX5) (T := TX5) (N := 3) hx hb hts q2 hown hK hP 0 rfl rfl 0 (by decide) q1 (fun _ h9 => h9) rfl dX5_rank_15 ?_
        refine lv_iload_n hx hb dX5_rank_18 rfl (lv_at hl 0 rfl) ?_
        obtain ⟨g3, hf⟩ := og_e hf
        refine va_lald hx hb hK hP 1 2 rfl rfl g3 dX5_rank_19 ?_
        refine lv_aload_n hx hb dX5_rank_20 rfl (lv_at hl 2 rfl) ?_
        refine va_get (D := D) (ci := 4) (v := .ref h1) (C := RX5) (T := TX5) (N := 3) hx hb hts q2 hown hK hP 0 rfl rfl 0 (by decide) q1 (fun _ h9 => h9) rfl dX5_rank_21 ?_
        refine lv_iload_n hx hb dX5_rank_24 rfl (lv_at hl 3 rfl) ?_
        obtain ⟨g4, hf⟩ := og_e hf
        refine va_lald hx hb hK hP 1 2 rfl rfl g4 dX5_rank_25 ?_
        refine my_callPi (As := [.long (u.1 v8_3.toNatClampNeg), .long (u.1 a0.toNatClampNeg)]) (n := 2) (rest := []) ⟨hx, hb, hml, hown, hts⟩ (m_X0_order l (u.1 v8_3.toNatClampNeg) (u.1 a0.toNatClampNeg) _ rfl) gX5_rank_X0_order rfl ⟨rfl, rfl⟩ (by decide +kernel) ⟨Nat.le_of_ble_eq_true rfl, Nat.le_of_ble_eq_true rfl⟩ ⟨Nat.le_of_ble_eq_true rfl, Nat.le_of_ble_eq_true rfl⟩ hl.1 rfl rfl (Nat.le_of_ble_eq_true rfl) dX5_rank_26 ?_
        refine my_if_ge (tgt := 35) hx hb dX5_rank_29 (by decide) (fun c5 => ?_) (fun c5 => ?_)
        · rw [if_neg c5] at hf
          refine lv_iinc (v := (v8_3 + 1)) (lv' := [(3, .int (v8_3 + 1)), (2, .int v8_2), (0, .ref h0), (1, .int a0)]) hx hb dX5_rank_35 hl (k := 0) rfl rfl (by decide) rfl (fun ls hl => ?_)
          refine lv_goto (tgt := 8) hx hb dX5_rank_38 (by decide) ?_
          exact ih8 (v8_3 + 1) v8_2 _ (lv_sub hl [0, 1, 2, 3] rfl) hf
        · rw [if_pos c5] at hf
          refine lv_iinc (v := (v8_2 + 1)) (lv' := [(2, .int (v8_2 + 1)), (3, .int v8_3), (0, .ref h0), (1, .int a0)]) hx hb dX5_rank_32 hl (k := 1) rfl rfl (by decide) rfl (fun ls hl => ?_)
          refine lv_iinc (v := (v8_3 + 1)) (lv' := [(3, .int (v8_3 + 1)), (2, .int (v8_2 + 1)), (0, .ref h0), (1, .int a0)]) hx hb dX5_rank_35 hl (k := 1) rfl rfl (by decide) rfl (fun ls hl => ?_)
          refine lv_goto (tgt := 8) hx hb dX5_rank_38 (by decide) ?_
          exact ih8 (v8_3 + 1) (v8_2 + 1) _ (lv_sub hl [0, 1, 2, 3] rfl) hf
  exact loop8 100 0 0 _ (lv_sub hl [0, 1, 2, 3] rfl) hf

set_option maxHeartbeats 4000000 in
set_option maxRecDepth 100000 in
theorem m_X5_scale (l : Launch) (hl0 : l.stackTraces = false) (D : va_G) (cC cI cJ : ClassId) (h0 h1 h2 h3 h4 h5 h6 h7 : Nat) (u : StX) (sz : Nat) (a0 : Int32) (a1 : Int32) (a2 : Int32) (res : (String ⊕ (Int64 × StX))) (hf : f_X5_scale u a0 a1 a2 = some res) : vx_Met l yX5_scale wsX5_scale rmX5_scale (my_PcTM D vwCl (KT cC cI cJ) sz (wX cC cI cJ h0 h1 h2 h3 h4 h5 h6 h7 u) [.ref h0, .int a0, .int a1, .int a2]) (va_Ql (fun r v => ∃ z, r = z.1 ∧ v = z.2 ∧ res = .inr z) (my_B D vwCl (KT cC cI cJ) (va_A (wX cC cI cJ h0 h1 h2 h3 h4 h5 h6 h7 u) sz) (fun v : StX => (wX cC cI cJ h0 h1 h2 h3 h4 h5 h6 h7 v))) (va_A (wX cC cI cJ h0 h1 h2 h3 h4 h5 h6 h7 u) sz)) (vx_X (fun _ : Unit => True) (fun E _ _ => res = .inl E) (fun q : Nat => sz ≤ q)) 3 18 (va_A (wX cC cI cJ h0 h1 h2 h3 h4 h5 h6 h7 u) sz) := by
  refine vx_ofW (cc := cX5_scale) (maxL := 4) (ret := (some .long)) (by decide) rfl ?_
  intro p e s m args below meth c s₁ B hml ht hv
  obtain ⟨rfl, hsz, hP, hK, hD0, hXK⟩ := hv
  have hx := B.exec
  have hb := B.bytes
  have hr := B.returns
  have hts : ∀ w ∈ wsX5_scale, w.before ([.ref h0, .int a0, .int a1, .int a2] : List Value).toArray s = true := atoms_spec (ws := wsX5_scale) B.pre
  have hown : s.vm.findClass RX5 = some m.cls := findClass_of_methodNamed B.named
  have hlk : meth.locks = false := B.notSynchronized
  subst hsz
  have hD := hD0.self (sz := s.heap.size)
  generalize hAe : va_A (wX cC cI cJ h0 h1 h2 h3 h4 h5 h6 h7 u) s.heap.size = A at hD ⊢
  have hA : ∀ q : Nat, s.heap.size ≤ q → A q := fun q h => by rw [← hAe]; exact Or.inr h
  have hS : va_S (fun q : Nat => s.heap.size ≤ q) s.heap s.heap [] := va_S.rf
  have hP : va_P D vwCl [(h0, .inr (4, [.ref h1, .ref h2, .ref h5])), (h1, .inl (cJ, 8, .inr (.inl u.1))), (h2, .inr (3, [.ref h3, .ref h4, .int u.2.1.2.2])), (h3, .inl (cC, 40, .inl u.2.1.1)), (h4, .inl (cI, 40, .inl u.2.1.2.1)), (h5, .inr (2, [.ref h6, .ref h7, .int u.2.2.2.2.1, .int u.2.2.2.2.2])), (h6, .inl (cI, 8, .inl u.2.2.1)), (h7, .inl (cJ, 8, .inr (.inl u.2.2.2.1)))] s.heap := hP
  have hD : va_D A [(h0, .inr (4, [.ref h1, .ref h2, .ref h5])), (h1, .inl (cJ, 8, .inr (.inl u.1))), (h2, .inr (3, [.ref h3, .ref h4, .int u.2.1.2.2])), (h3, .inl (cC, 40, .inl u.2.1.1)), (h4, .inl (cI, 40, .inl u.2.1.2.1)), (h5, .inr (2, [.ref h6, .ref h7, .int u.2.2.2.2.1, .int u.2.2.2.2.2])), (h6, .inl (cI, 8, .inl u.2.2.1)), (h7, .inl (cJ, 8, .inr (.inl u.2.2.2.1)))] := hD
  have q1 := hts (.fieldLink RX5 9 "Doubleline" "slots" "[J") (by decide +kernel)
  have q2 : ∀ w ∈ u_ws RX5 TX5 3, w ∈ wsX5_scale := by decide +kernel
  have hl := lv_entry ([.ref h0, .int a0, .int a1, .int a2]) (n := 4) (Nat.le_of_ble_eq_true rfl)
  rw [lg_entry_eq]
  generalize (lg_sl ([.ref h0, .int a0, .int a1, .int a2]) ++ List.replicate (4 - (lg_sl ([.ref h0, .int a0, .int a1, .int a2])).length) Slot.unset).toArray = ls at hl ⊢
  have hl : lv_has ls 4 [(0, .ref h0), (1, .int a0), (2, .int a1), (3, .int a2)] := hl
  unfold f_X5_scale at hf
  refine lv_iload_n hx hb dX5_scale_0 rfl (lv_at hl 1 rfl) ?_
  obtain ⟨z1, ez1, xz1, hf⟩ := xb_e hf
  refine my_callT (As := [.int a0]) (n := 1) (rest := []) ⟨hx, hb, hml, hown, hts⟩ ht hlk hXK hS (m_X5_checkSlot l hl0 s.heap.size a0 _ ez1) gX5_scale_X5_checkSlot rfl (by decide +kernel) ⟨rfl, rfl⟩ ⟨Nat.le_of_ble_eq_true rfl, Nat.le_of_ble_eq_true rfl⟩ ⟨Nat.le_of_ble_eq_true rfl, Nat.le_of_ble_eq_true rfl⟩ ⟨Nat.le_of_ble_eq_true rfl, Nat.le_of_ble_eq_true rfl⟩ (fun q h => hA q h) xz1 hl.1 rfl rfl (Nat.le_of_ble_eq_true rfl) dX5_scale_1 (fun u9 H locs qz1 hk1 hS => ?_)
  have hP := my_keep hP hk1
  have hf := hf _ qz1
  refine lv_iload_n hx hb dX5_scale_4 rfl (lv_at hl 3 rfl) ?_
  obtain ⟨z2, ez2, xz2, hf⟩ := xb_e hf
  refine my_callT (As := [.int a2]) (n := 1) (rest := []) ⟨hx, hb, hml, hown, hts⟩ ht hlk hXK hS (m_X5_checkSlot l hl0 H.size a2 _ ez2) gX5_scale_X5_checkSlot rfl (by decide +kernel) ⟨rfl, rfl⟩ ⟨Nat.le_of_ble_eq_true rfl, Nat.le_of_ble_eq_true rfl⟩ ⟨Nat.le_of_ble_eq_true rfl, Nat.le_of_ble_eq_true rfl⟩ ⟨Nat.le_of_ble_eq_true rfl, Nat.le_of_ble_eq_true rfl⟩ (fun q h => hA q h) xz2 hl.1 rfl rfl (Nat.le_of_ble_eq_true rfl) dX5_scale_5 (fun u9 H locs qz2 hk1 hS => ?_)
  have hP := my_keep hP hk1
  have hf := hf _ qz2
  refine lv_iload_n hx hb dX5_scale_8 rfl (lv_at hl 2 rfl) ?_
  refine lv_sipush (v := (-4200)) hx hb dX5_scale_9 (by decide) ?_
  refine lv_sipush (v := 4200) hx hb dX5_scale_12 (by decide) ?_
  obtain ⟨z3, ez3, xz3, hf⟩ := xb_e hf
  refine my_callT (As := [.int a1, .int (-4200), .int 4200]) (n := 3) (rest := []) ⟨hx, hb, hml, hown, hts⟩ ht hlk hXK hS (m_X5_checkRange l hl0 H.size a1 (-4200) 4200 _ ez3) gX5_scale_X5_checkRange rfl (by decide +kernel) ⟨rfl, rfl⟩ ⟨Nat.le_of_ble_eq_true rfl, Nat.le_of_ble_eq_true rfl⟩ ⟨Nat.le_of_ble_eq_true rfl, Nat.le_of_ble_eq_true rfl⟩ ⟨Nat.le_of_ble_eq_true rfl, Nat.le_of_ble_eq_true rfl⟩ (fun q h => hA q h) xz3 hl.1 rfl rfl (Nat.le_of_ble_eq_true rfl) dX5_scale_15 (fun u9 H locs qz3 hk1 hS => ?_)
  have hP := my_keep hP hk1
  have hf := hf _ qz3
  refine lv_aload_n hx hb dX5_scale_18 rfl (lv_at hl 0 rfl) ?_
  refine lv_iload_n hx hb dX5_scale_19 rfl (lv_at hl 3 rfl) ?_
  refine lv_aload_n hx hb dX5_scale_20 rfl (lv_at hl 0 rfl) ?_
  refine va_get (D := D) (ci := 4) (v := .ref h1) (C := RX5) (T := TX5) (N := 3) hx hb hts q2 hown hK hP 0 rfl rfl 0 (by decide) q1 (fun _ h9 => h9) rfl dX5_scale_21 ?_
  refine lv_iload_n hx hb dX5_scale_24 rfl (lv_at hl 1 rfl) ?_
  obtain ⟨g4, hf⟩ := og_e hf
  refine va_lald hx hb hK hP 1 2 rfl rfl g4 dX5_scale_25 ?_
  refine lv_iload_n hx hb dX5_scale_26 rfl (lv_at hl 2 rfl) ?_
  refine my_callPl (As := [.long (u.1 a0.toNatClampNeg), .int a1]) (n := 2) (rest := [.int a2, .ref h0]) ⟨hx, hb, hml, hown, hts⟩ (m_X0_scaled l (u.1 a0.toNatClampNeg) a1 _ rfl) gX5_scale_X0_scaled rfl ⟨rfl, rfl⟩ (by decide +kernel) ⟨Nat.le_of_ble_eq_true rfl, Nat.le_of_ble_eq_true rfl⟩ ⟨Nat.le_of_ble_eq_true rfl, Nat.le_of_ble_eq_true rfl⟩ hl.1 rfl rfl (Nat.le_of_ble_eq_true rfl) dX5_scale_27 ?_
  obtain ⟨z5, ez5, hf⟩ := ob_e hf
  have hS := my_weak hS hA
  refine my_callMl (As := [.int a2, .long (f_X0_scaled (u.1 a0.toNatClampNeg) a1)]) (n := 2) (rest := []) (wr := []) ⟨hx, hb, hml, hown, hts⟩ hK hP hD hS hA [0, 1, 2, 3, 4, 5, 6, 7] [] rfl rfl (by decide) (by decide) (by decide) (m_X5_become l D cC cI cJ h0 h1 h2 h3 h4 h5 h6 h7 u H.size a2 (f_X0_scaled (u.1 a0.toNatClampNeg) a1) _ ez5) gX5_scale_X5_become rfl ⟨rfl, rfl⟩ (ci := 4) rfl rfl (by decide +kernel) ⟨Nat.le_of_ble_eq_true rfl, Nat.le_of_ble_eq_true rfl⟩ ⟨Nat.le_of_ble_eq_true rfl, Nat.le_of_ble_eq_true rfl⟩ hl.1 rfl rfl (Nat.le_of_ble_eq_true rfl) dX5_scale_30 (fun r9 u9 H locs hw hP hD hS => ?_)
  obtain ⟨rfl, rfl⟩ := hw
  have hP : va_P D vwCl [(h0, .inr (4, [.ref h1, .ref h2, .ref h5])), (h1, .inl (cJ, 8, .inr (.inl z5.2.1))), (h2, .inr (3, [.ref h3, .ref h4, .int z5.2.2.1.2.2])), (h3, .inl (cC, 40, .inl z5.2.2.1.1)), (h4, .inl (cI, 40, .inl z5.2.2.1.2.1)), (h5, .inr (2, [.ref h6, .ref h7, .int z5.2.2.2.2.2.1, .int z5.2.2.2.2.2.2])), (h6, .inl (cI, 8, .inl z5.2.2.2.1)), (h7, .inl (cJ, 8, .inr (.inl z5.2.2.2.2.1)))] H := hP.sub [0, 1, 2, 3, 4, 5, 6, 7] rfl
  have hD : va_D A [(h0, .inr (4, [.ref h1, .ref h2, .ref h5])), (h1, .inl (cJ, 8, .inr (.inl z5.2.1))), (h2, .inr (3, [.ref h3, .ref h4, .int z5.2.2.1.2.2])), (h3, .inl (cC, 40, .inl z5.2.2.1.1)), (h4, .inl (cI, 40, .inl z5.2.2.1.2.1)), (h5, .inr (2, [.ref h6, .ref h7, .int z5.2.2.2.2.2.1, .int z5.2.2.2.2.2.2])), (h6, .inl (cI, 8, .inl z5.2.2.2.1)), (h7, .inl (cJ, 8, .inr (.inl z5.2.2.2.2.1)))] := hD.sub [0, 1, 2, 3, 4, 5, 6, 7] (by decide) rfl
  have hP9 : va_P D vwCl (wX cC cI cJ h0 h1 h2 h3 h4 h5 h6 h7 z5.2) _ := hP
  have hD9 : va_D A (wX cC cI cJ h0 h1 h2 h3 h4 h5 h6 h7 z5.2) := hD
  exact vx_ret (W.lret (v := z5.1) hx hb hr (fun t ht hW => ⟨⟨z5.1, z5.2, rfl, ⟨(z5.1, z5.2), rfl, rfl, (Option.some.inj hf).symm⟩, by rw [ht]; exact hP9, va_K.moved hW.alike hK, hD9⟩, hS.F ht⟩) hS.2.2 dX5_scale_33)

set_option maxHeartbeats 4000000 in
set_option maxRecDepth 100000 in
theorem m_X5_isKept (l : Launch) (hl0 : l.stackTraces = false) (D : va_G) (cC cI cJ : ClassId) (h0 h1 h2 h3 h4 h5 h6 h7 : Nat) (u : StX) (sz : Nat) (a0 : Int32) (a1 : Int32) (res : (String ⊕ Bool)) (hf : f_X5_isKept u a0 a1 = some res) : vx_Met l yX5_isKept wsX5_isKept rmX5_isKept (my_PcTR D vwCl (KT cC cI cJ) sz (wX cC cI cJ h0 h1 h2 h3 h4 h5 h6 h7 u) [.ref h0, .int a0, .int a1]) (va_Qi (fun r (_ : Unit) => (∃ z, r = b2i z ∧ res = .inr z)) (fun _ _ => True) (fun q : Nat => sz ≤ q)) (vx_X (fun _ : Unit => True) (fun E _ _ => res = .inl E) (fun q : Nat => sz ≤ q)) 2 12 (fun q : Nat => sz ≤ q) := by
  refine vx_ofW (cc := cX5_isKept) (maxL := 5) (ret := (some .boolean)) (by decide) rfl ?_
  intro p e s m args below meth c s₁ B hml ht hv
  obtain ⟨rfl, hsz, hP, hK, hXK⟩ := hv
  have hx := B.exec
  have hb := B.bytes
  have hr := B.returns
  have hts : ∀ w ∈ wsX5_isKept, w.before ([.ref h0, .int a0, .int a1] : List Value).toArray s = true := atoms_spec (ws := wsX5_isKept) B.pre
  have hown : s.vm.findClass RX5 = some m.cls := findClass_of_methodNamed B.named
  have hlk : meth.locks = false := B.notSynchronized
  subst hsz
  have hS : va_S (fun q : Nat => s.heap.size ≤ q) s.heap s.heap [] := va_S.rf
  have hP : va_P D vwCl [(h0, .inr (4, [.ref h1, .ref h2, .ref h5])), (h1, .inl (cJ, 8, .inr (.inl u.1))), (h2, .inr (3, [.ref h3, .ref h4, .int u.2.1.2.2])), (h3, .inl (cC, 40, .inl u.2.1.1)), (h4, .inl (cI, 40, .inl u.2.1.2.1)), (h5, .inr (2, [.ref h6, .ref h7, .int u.2.2.2.2.1, .int u.2.2.2.2.2])), (h6, .inl (cI, 8, .inl u.2.2.1)), (h7, .inl (cJ, 8, .inr (.inl u.2.2.2.1)))] s.heap := hP
  have q1 := hts (.fieldLink RX5 9 "Doubleline" "slots" "[J") (by decide +kernel)
  have q2 : ∀ w ∈ u_ws RX5 TX5 3, w ∈ wsX5_isKept := by decide +kernel
  have hl := lv_entry ([.ref h0, .int a0, .int a1]) (n := 5) (Nat.le_of_ble_eq_true rfl)
  rw [lg_entry_eq]
  generalize (lg_sl ([.ref h0, .int a0, .int a1]) ++ List.replicate (5 - (lg_sl ([.ref h0, .int a0, .int a1])).length) Slot.unset).toArray = ls at hl ⊢
  have hl : lv_has ls 5 [(0, .ref h0), (1, .int a0), (2, .int a1)] := hl
  unfold f_X5_isKept at hf
  refine lv_iload_n hx hb dX5_isKept_0 rfl (lv_at hl 1 rfl) ?_
  obtain ⟨z1, ez1, xz1, hf⟩ := xb_e hf
  refine my_callT (As := [.int a0]) (n := 1) (rest := []) ⟨hx, hb, hml, hown, hts⟩ ht hlk hXK hS (m_X5_checkSlot l hl0 s.heap.size a0 _ ez1) gX5_isKept_X5_checkSlot rfl (by decide +kernel) ⟨rfl, rfl⟩ ⟨Nat.le_of_ble_eq_true rfl, Nat.le_of_ble_eq_true rfl⟩ ⟨Nat.le_of_ble_eq_true rfl, Nat.le_of_ble_eq_true rfl⟩ ⟨Nat.le_of_ble_eq_true rfl, Nat.le_of_ble_eq_true rfl⟩ (fun q h => h) xz1 hl.1 rfl rfl (Nat.le_of_ble_eq_true rfl) dX5_isKept_1 (fun u9 H locs qz1 hk1 hS => ?_)
  have hP := my_keep hP hk1
  have hf := hf _ qz1
  refine lv_iload_n hx hb dX5_isKept_4 rfl (lv_at hl 2 rfl) ?_
  refine lv_sipush (v := (-4200)) hx hb dX5_isKept_5 (by decide) ?_
  refine lv_sipush (v := 4200) hx hb dX5_isKept_8 (by decide) ?_
  obtain ⟨z2, ez2, xz2, hf⟩ := xb_e hf
  refine my_callT (As := [.int a1, .int (-4200), .int 4200]) (n := 3) (rest := []) ⟨hx, hb, hml, hown, hts⟩ ht hlk hXK hS (m_X5_checkRange l hl0 H.size a1 (-4200) 4200 _ ez2) gX5_isKept_X5_checkRange rfl (by decide +kernel) ⟨rfl, rfl⟩ ⟨Nat.le_of_ble_eq_true rfl, Nat.le_of_ble_eq_true rfl⟩ ⟨Nat.le_of_ble_eq_true rfl, Nat.le_of_ble_eq_true rfl⟩ ⟨Nat.le_of_ble_eq_true rfl, Nat.le_of_ble_eq_true rfl⟩ (fun q h => h) xz2 hl.1 rfl rfl (Nat.le_of_ble_eq_true rfl) dX5_isKept_11 (fun u9 H locs qz2 hk1 hS => ?_)
  have hP := my_keep hP hk1
  have hf := hf _ qz2
  refine lv_aload_n hx hb dX5_isKept_14 rfl (lv_at hl 0 rfl) ?_
  refine va_get (D := D) (ci := 4) (v := .ref h1) (C := RX5) (T := TX5) (N := 3) hx hb hts q2 hown hK hP 0 rfl rfl 0 (by decide) q1 (fun _ h9 => h9) rfl dX5_isKept_15 ?_
  refine lv_iload_n hx hb dX5_isKept_18 rfl (lv_at hl 1 rfl) ?_
  obtain ⟨g3, hf⟩ := og_e hf
  refine va_lald hx hb hK hP 1 2 rfl rfl g3 dX5_isKept_19 ?_
  refine lv_lstore_n (lv' := [(3, .long (u.1 a0.toNatClampNeg)), (0, .ref h0), (1, .int a0), (2, .int a1)]) hx hb dX5_isKept_20 rfl hl (by decide) rfl (fun ls hl => ?_)
  refine lv_lload_n hx hb dX5_isKept_21 rfl (lv_at hl 0 rfl) ?_
  refine lv_iload_n hx hb dX5_isKept_22 rfl (lv_at hl 3 rfl) ?_
  refine my_callPl (As := [.long (u.1 a0.toNatClampNeg), .int a1]) (n := 2) (rest := []) ⟨hx, hb, hml, hown, hts⟩ (m_X0_scaled l (u.1 a0.toNatClampNeg) a1 _ rfl) gX5_isKept_X0_scaled rfl ⟨rfl, rfl⟩ (by decide +kernel) ⟨Nat.le_of_ble_eq_true rfl, Nat.le_of_ble_eq_true rfl⟩ ⟨Nat.le_of_ble_eq_true rfl, Nat.le_of_ble_eq_true rfl⟩ hl.1 rfl rfl (Nat.le_of_ble_eq_true rfl) dX5_isKept_23 ?_
  refine lv_iload_n hx hb dX5_isKept_26 rfl (lv_at hl 3 rfl) ?_
  refine lv_ineg hx hb dX5_isKept_27 ?_
  refine my_callPl (As := [.long (f_X0_scaled (u.1 a0.toNatClampNeg) a1), .int (-a1)]) (n := 2) (rest := []) ⟨hx, hb, hml, hown, hts⟩ (m_X0_scaled l (f_X0_scaled (u.1 a0.toNatClampNeg) a1) (-a1) _ rfl) gX5_isKept_X0_scaled rfl ⟨rfl, rfl⟩ (by decide +kernel) ⟨Nat.le_of_ble_eq_true rfl, Nat.le_of_ble_eq_true rfl⟩ ⟨Nat.le_of_ble_eq_true rfl, Nat.le_of_ble_eq_true rfl⟩ hl.1 rfl rfl (Nat.le_of_ble_eq_true rfl) dX5_isKept_28 ?_
  refine lv_lload_n hx hb dX5_isKept_31 rfl (lv_at hl 0 rfl) ?_
  refine my_lc_ne (tgt := 40) hx hb dX5_isKept_32 dX5_isKept_33 (by decide) (fun c4 => ?_) (fun c4 => ?_)
  · rw [if_neg c4] at hf
    refine lv_iconst (v := 0) hx hb dX5_isKept_40 (by decide) ?_
    exact vx_ret (W.zret (v := b2i false) (ty := .boolean) hx hb hr (b2i_nar _) (fun t ht hW => ⟨⟨b2i false, (), rfl, ⟨_, rfl, (Option.some.inj hf).symm⟩, trivial⟩, hS.F ht⟩) hS.2.2 dX5_isKept_41)
  · rw [if_pos c4] at hf
    refine lv_iconst (v := 1) hx hb dX5_isKept_36 (by decide) ?_
    refine lv_goto (tgt := 41) hx hb dX5_isKept_37 (by decide) ?_
    exact vx_ret (W.zret (v := b2i true) (ty := .boolean) hx hb hr (b2i_nar _) (fun t ht hW => ⟨⟨b2i true, (), rfl, ⟨_, rfl, (Option.some.inj hf).symm⟩, trivial⟩, hS.F ht⟩) hS.2.2 dX5_isKept_41)

set_option maxHeartbeats 4000000 in
set_option maxRecDepth 100000 in
theorem m_X5_isOne (l : Launch) (hl0 : l.stackTraces = false) (D : va_G) (cC cI cJ : ClassId) (h0 h1 h2 h3 h4 h5 h6 h7 : Nat) (u : StX) (sz : Nat) (a0 : Int32) (a1 : Int32) (a2 : Int32) (res : (String ⊕ Bool)) (hf : f_X5_isOne u a0 a1 a2 = some res) : vx_Met l yX5_isOne wsX5_isOne rmX5_isOne (my_PcTR D vwCl (KT cC cI cJ) sz (wX cC cI cJ h0 h1 h2 h3 h4 h5 h6 h7 u) [.ref h0, .int a0, .int a1, .int a2]) (va_Qi (fun r (_ : Unit) => (∃ z, r = b2i z ∧ res = .inr z)) (fun _ _ => True) (fun q : Nat => sz ≤ q)) (vx_X (fun _ : Unit => True) (fun E _ _ => res = .inl E) (fun q : Nat => sz ≤ q)) 3 18 (fun q : Nat => sz ≤ q) := by
  refine vx_ofW (cc := cX5_isOne) (maxL := 6) (ret := (some .boolean)) (by decide) rfl ?_
  intro p e s m args below meth c s₁ B hml ht hv
  obtain ⟨rfl, hsz, hP, hK, hXK⟩ := hv
  have hx := B.exec
  have hb := B.bytes
  have hr := B.returns
  have hts : ∀ w ∈ wsX5_isOne, w.before ([.ref h0, .int a0, .int a1, .int a2] : List Value).toArray s = true := atoms_spec (ws := wsX5_isOne) B.pre
  have hown : s.vm.findClass RX5 = some m.cls := findClass_of_methodNamed B.named
  have hlk : meth.locks = false := B.notSynchronized
  subst hsz
  have hS : va_S (fun q : Nat => s.heap.size ≤ q) s.heap s.heap [] := va_S.rf
  have hP : va_P D vwCl [(h0, .inr (4, [.ref h1, .ref h2, .ref h5])), (h1, .inl (cJ, 8, .inr (.inl u.1))), (h2, .inr (3, [.ref h3, .ref h4, .int u.2.1.2.2])), (h3, .inl (cC, 40, .inl u.2.1.1)), (h4, .inl (cI, 40, .inl u.2.1.2.1)), (h5, .inr (2, [.ref h6, .ref h7, .int u.2.2.2.2.1, .int u.2.2.2.2.2])), (h6, .inl (cI, 8, .inl u.2.2.1)), (h7, .inl (cJ, 8, .inr (.inl u.2.2.2.1)))] s.heap := hP
  have q1 := hts (.fieldLink RX5 9 "Doubleline" "slots" "[J") (by decide +kernel)
  have q2 : ∀ w ∈ u_ws RX5 TX5 3, w ∈ wsX5_isOne := by decide +kernel
  have hl := lv_entry ([.ref h0, .int a0, .int a1, .int a2]) (n := 6) (Nat.le_of_ble_eq_true rfl)
  rw [lg_entry_eq]
  generalize (lg_sl ([.ref h0, .int a0, .int a1, .int a2]) ++ List.replicate (6 - (lg_sl ([.ref h0, .int a0, .int a1, .int a2])).length) Slot.unset).toArray = ls at hl ⊢
  have hl : lv_has ls 6 [(0, .ref h0), (1, .int a0), (2, .int a1), (3, .int a2)] := hl
  unfold f_X5_isOne at hf
  refine lv_iload_n hx hb dX5_isOne_0 rfl (lv_at hl 1 rfl) ?_
  obtain ⟨z1, ez1, xz1, hf⟩ := xb_e hf
  refine my_callT (As := [.int a0]) (n := 1) (rest := []) ⟨hx, hb, hml, hown, hts⟩ ht hlk hXK hS (m_X5_checkSlot l hl0 s.heap.size a0 _ ez1) gX5_isOne_X5_checkSlot rfl (by decide +kernel) ⟨rfl, rfl⟩ ⟨Nat.le_of_ble_eq_true rfl, Nat.le_of_ble_eq_true rfl⟩ ⟨Nat.le_of_ble_eq_true rfl, Nat.le_of_ble_eq_true rfl⟩ ⟨Nat.le_of_ble_eq_true rfl, Nat.le_of_ble_eq_true rfl⟩ (fun q h => h) xz1 hl.1 rfl rfl (Nat.le_of_ble_eq_true rfl) dX5_isOne_1 (fun u9 H locs qz1 hk1 hS => ?_)
  have hP := my_keep hP hk1
  have hf := hf _ qz1
  refine lv_iload_n hx hb dX5_isOne_4 rfl (lv_at hl 2 rfl) ?_
  refine lv_sipush (v := (-2100)) hx hb dX5_isOne_5 (by decide) ?_
  refine lv_sipush (v := 2100) hx hb dX5_isOne_8 (by decide) ?_
  obtain ⟨z2, ez2, xz2, hf⟩ := xb_e hf
  refine my_callT (As := [.int a1, .int (-2100), .int 2100]) (n := 3) (rest := []) ⟨hx, hb, hml, hown, hts⟩ ht hlk hXK hS (m_X5_checkRange l hl0 H.size a1 (-2100) 2100 _ ez2) gX5_isOne_X5_checkRange rfl (by decide +kernel) ⟨rfl, rfl⟩ ⟨Nat.le_of_ble_eq_true rfl, Nat.le_of_ble_eq_true rfl⟩ ⟨Nat.le_of_ble_eq_true rfl, Nat.le_of_ble_eq_true rfl⟩ ⟨Nat.le_of_ble_eq_true rfl, Nat.le_of_ble_eq_true rfl⟩ (fun q h => h) xz2 hl.1 rfl rfl (Nat.le_of_ble_eq_true rfl) dX5_isOne_11 (fun u9 H locs qz2 hk1 hS => ?_)
  have hP := my_keep hP hk1
  have hf := hf _ qz2
  refine lv_iload_n hx hb dX5_isOne_14 rfl (lv_at hl 3 rfl) ?_
  refine lv_sipush (v := (-2100)) hx hb dX5_isOne_15 (by decide) ?_
  refine lv_sipush (v := 2100) hx hb dX5_isOne_18 (by decide) ?_
  obtain ⟨z3, ez3, xz3, hf⟩ := xb_e hf
  refine my_callT (As := [.int a2, .int (-2100), .int 2100]) (n := 3) (rest := []) ⟨hx, hb, hml, hown, hts⟩ ht hlk hXK hS (m_X5_checkRange l hl0 H.size a2 (-2100) 2100 _ ez3) gX5_isOne_X5_checkRange rfl (by decide +kernel) ⟨rfl, rfl⟩ ⟨Nat.le_of_ble_eq_true rfl, Nat.le_of_ble_eq_true rfl⟩ ⟨Nat.le_of_ble_eq_true rfl, Nat.le_of_ble_eq_true rfl⟩ ⟨Nat.le_of_ble_eq_true rfl, Nat.le_of_ble_eq_true rfl⟩ (fun q h => h) xz3 hl.1 rfl rfl (Nat.le_of_ble_eq_true rfl) dX5_isOne_21 (fun u9 H locs qz3 hk1 hS => ?_)
  have hP := my_keep hP hk1
  have hf := hf _ qz3
  refine lv_aload_n hx hb dX5_isOne_24 rfl (lv_at hl 0 rfl) ?_
  refine va_get (D := D) (ci := 4) (v := .ref h1) (C := RX5) (T := TX5) (N := 3) hx hb hts q2 hown hK hP 0 rfl rfl 0 (by decide) q1 (fun _ h9 => h9) rfl dX5_isOne_25 ?_
  refine lv_iload_n hx hb dX5_isOne_28 rfl (lv_at hl 1 rfl) ?_
  obtain ⟨g4, hf⟩ := og_e hf
  refine va_lald hx hb hK hP 1 2 rfl rfl g4 dX5_isOne_29 ?_
  refine lv_lstore (lv' := [(4, .long (u.1 a0.toNatClampNeg)), (0, .ref h0), (1, .int a0), (2, .int a1), (3, .int a2)]) hx hb dX5_isOne_30 hl (by decide) rfl (fun ls hl => ?_)
  refine lv_lload hx hb dX5_isOne_32 (lv_at hl 0 rfl) ?_
  refine lv_iload_n hx hb dX5_isOne_34 rfl (lv_at hl 3 rfl) ?_
  refine my_callPl (As := [.long (u.1 a0.toNatClampNeg), .int a1]) (n := 2) (rest := []) ⟨hx, hb, hml, hown, hts⟩ (m_X0_scaled l (u.1 a0.toNatClampNeg) a1 _ rfl) gX5_isOne_X0_scaled rfl ⟨rfl, rfl⟩ (by decide +kernel) ⟨Nat.le_of_ble_eq_true rfl, Nat.le_of_ble_eq_true rfl⟩ ⟨Nat.le_of_ble_eq_true rfl, Nat.le_of_ble_eq_true rfl⟩ hl.1 rfl rfl (Nat.le_of_ble_eq_true rfl) dX5_isOne_35 ?_
  refine lv_iload_n hx hb dX5_isOne_38 rfl (lv_at hl 4 rfl) ?_
  refine my_callPl (As := [.long (f_X0_scaled (u.1 a0.toNatClampNeg) a1), .int a2]) (n := 2) (rest := []) ⟨hx, hb, hml, hown, hts⟩ (m_X0_scaled l (f_X0_scaled (u.1 a0.toNatClampNeg) a1) a2 _ rfl) gX5_isOne_X0_scaled rfl ⟨rfl, rfl⟩ (by decide +kernel) ⟨Nat.le_of_ble_eq_true rfl, Nat.le_of_ble_eq_true rfl⟩ ⟨Nat.le_of_ble_eq_true rfl, Nat.le_of_ble_eq_true rfl⟩ hl.1 rfl rfl (Nat.le_of_ble_eq_true rfl) dX5_isOne_39 ?_
  refine lv_lload hx hb dX5_isOne_42 (lv_at hl 0 rfl) ?_
  refine lv_iload_n hx hb dX5_isOne_44 rfl (lv_at hl 3 rfl) ?_
  refine lv_iload_n hx hb dX5_isOne_45 rfl (lv_at hl 4 rfl) ?_
  refine lv_iadd hx hb dX5_isOne_46 ?_
  refine my_callPl (As := [.long (u.1 a0.toNatClampNeg), .int (a1 + a2)]) (n := 2) (rest := [.long (f_X0_scaled (f_X0_scaled (u.1 a0.toNatClampNeg) a1) a2)]) ⟨hx, hb, hml, hown, hts⟩ (m_X0_scaled l (u.1 a0.toNatClampNeg) (a1 + a2) _ rfl) gX5_isOne_X0_scaled rfl ⟨rfl, rfl⟩ (by decide +kernel) ⟨Nat.le_of_ble_eq_true rfl, Nat.le_of_ble_eq_true rfl⟩ ⟨Nat.le_of_ble_eq_true rfl, Nat.le_of_ble_eq_true rfl⟩ hl.1 rfl rfl (Nat.le_of_ble_eq_true rfl) dX5_isOne_47 ?_
  refine my_lc_ne (tgt := 58) hx hb dX5_isOne_50 dX5_isOne_51 (by decide) (fun c5 => ?_) (fun c5 => ?_)
  · rw [if_neg c5] at hf
    refine lv_iconst (v := 0) hx hb dX5_isOne_58 (by decide) ?_
    exact vx_ret (W.zret (v := b2i false) (ty := .boolean) hx hb hr (b2i_nar _) (fun t ht hW => ⟨⟨b2i false, (), rfl, ⟨_, rfl, (Option.some.inj hf).symm⟩, trivial⟩, hS.F ht⟩) hS.2.2 dX5_isOne_59)
  · rw [if_pos c5] at hf
    refine lv_iconst (v := 1) hx hb dX5_isOne_54 (by decide) ?_
    refine lv_goto (tgt := 59) hx hb dX5_isOne_55 (by decide) ?_
    exact vx_ret (W.zret (v := b2i true) (ty := .boolean) hx hb hr (b2i_nar _) (fun t ht hW => ⟨⟨b2i true, (), rfl, ⟨_, rfl, (Option.some.inj hf).symm⟩, trivial⟩, hS.F ht⟩) hS.2.2 dX5_isOne_59)

set_option maxHeartbeats 4000000 in
set_option maxRecDepth 100000 in
theorem m_X5_exponent (l : Launch) (hl0 : l.stackTraces = false) (D : va_G) (cC cI cJ : ClassId) (h0 h1 h2 h3 h4 h5 h6 h7 : Nat) (u : StX) (sz : Nat) (a0 : Int32) (res : (String ⊕ Int32)) (hf : f_X5_exponent u a0 = some res) : vx_Met l yX5_exponent wsX5_exponent rmX5_exponent (my_PcTR D vwCl (KT cC cI cJ) sz (wX cC cI cJ h0 h1 h2 h3 h4 h5 h6 h7 u) [.ref h0, .int a0]) (va_Qi (fun r (_ : Unit) => (∃ z, r = z ∧ res = .inr z)) (fun _ _ => True) (fun q : Nat => sz ≤ q)) (vx_X (fun _ : Unit => True) (fun E _ _ => res = .inl E) (fun q : Nat => sz ≤ q)) 1 6 (fun q : Nat => sz ≤ q) := by
  refine vx_ofW (cc := cX5_exponent) (maxL := 2) (ret := (some .int)) (by decide) rfl ?_
  intro p e s m args below meth c s₁ B hml ht hv
  obtain ⟨rfl, hsz, hP, hK, hXK⟩ := hv
  have hx := B.exec
  have hb := B.bytes
  have hr := B.returns
  have hts : ∀ w ∈ wsX5_exponent, w.before ([.ref h0, .int a0] : List Value).toArray s = true := atoms_spec (ws := wsX5_exponent) B.pre
  have hown : s.vm.findClass RX5 = some m.cls := findClass_of_methodNamed B.named
  have hlk : meth.locks = false := B.notSynchronized
  subst hsz
  have hS : va_S (fun q : Nat => s.heap.size ≤ q) s.heap s.heap [] := va_S.rf
  have hP : va_P D vwCl [(h0, .inr (4, [.ref h1, .ref h2, .ref h5])), (h1, .inl (cJ, 8, .inr (.inl u.1))), (h2, .inr (3, [.ref h3, .ref h4, .int u.2.1.2.2])), (h3, .inl (cC, 40, .inl u.2.1.1)), (h4, .inl (cI, 40, .inl u.2.1.2.1)), (h5, .inr (2, [.ref h6, .ref h7, .int u.2.2.2.2.1, .int u.2.2.2.2.2])), (h6, .inl (cI, 8, .inl u.2.2.1)), (h7, .inl (cJ, 8, .inr (.inl u.2.2.2.1)))] s.heap := hP
  have q1 := hts (.fieldLink RX5 9 "Doubleline" "slots" "[J") (by decide +kernel)
  have q2 : ∀ w ∈ u_ws RX5 TX5 3, w ∈ wsX5_exponent := by decide +kernel
  have hl := lv_entry ([.ref h0, .int a0]) (n := 2) (Nat.le_of_ble_eq_true rfl)
  rw [lg_entry_eq]
  generalize (lg_sl ([.ref h0, .int a0]) ++ List.replicate (2 - (lg_sl ([.ref h0, .int a0])).length) Slot.unset).toArray = ls at hl ⊢
  have hl : lv_has ls 2 [(0, .ref h0), (1, .int a0)] := hl
  unfold f_X5_exponent at hf
  refine lv_iload_n hx hb dX5_exponent_0 rfl (lv_at hl 1 rfl) ?_
  obtain ⟨z1, ez1, xz1, hf⟩ := xb_e hf
  refine my_callT (As := [.int a0]) (n := 1) (rest := []) ⟨hx, hb, hml, hown, hts⟩ ht hlk hXK hS (m_X5_checkSlot l hl0 s.heap.size a0 _ ez1) gX5_exponent_X5_checkSlot rfl (by decide +kernel) ⟨rfl, rfl⟩ ⟨Nat.le_of_ble_eq_true rfl, Nat.le_of_ble_eq_true rfl⟩ ⟨Nat.le_of_ble_eq_true rfl, Nat.le_of_ble_eq_true rfl⟩ ⟨Nat.le_of_ble_eq_true rfl, Nat.le_of_ble_eq_true rfl⟩ (fun q h => h) xz1 hl.1 rfl rfl (Nat.le_of_ble_eq_true rfl) dX5_exponent_1 (fun u9 H locs qz1 hk1 hS => ?_)
  have hP := my_keep hP hk1
  have hf := hf _ qz1
  refine lv_aload_n hx hb dX5_exponent_4 rfl (lv_at hl 0 rfl) ?_
  refine va_get (D := D) (ci := 4) (v := .ref h1) (C := RX5) (T := TX5) (N := 3) hx hb hts q2 hown hK hP 0 rfl rfl 0 (by decide) q1 (fun _ h9 => h9) rfl dX5_exponent_5 ?_
  refine lv_iload_n hx hb dX5_exponent_8 rfl (lv_at hl 1 rfl) ?_
  obtain ⟨g2, hf⟩ := og_e hf
  refine va_lald hx hb hK hP 1 2 rfl rfl g2 dX5_exponent_9 ?_
  refine my_callPi (As := [.long (u.1 a0.toNatClampNeg)]) (n := 1) (rest := []) ⟨hx, hb, hml, hown, hts⟩ (m_X0_exponentOf l (u.1 a0.toNatClampNeg) _ rfl) gX5_exponent_X0_exponentOf rfl ⟨rfl, rfl⟩ (by decide +kernel) ⟨Nat.le_of_ble_eq_true rfl, Nat.le_of_ble_eq_true rfl⟩ ⟨Nat.le_of_ble_eq_true rfl, Nat.le_of_ble_eq_true rfl⟩ hl.1 rfl rfl (Nat.le_of_ble_eq_true rfl) dX5_exponent_10 ?_
  exact vx_ret (W.iret (v := (f_X0_exponentOf (u.1 a0.toNatClampNeg))) hx hb hr (fun t ht hW => ⟨⟨(f_X0_exponentOf (u.1 a0.toNatClampNeg)), (), rfl, ⟨_, rfl, (Option.some.inj hf).symm⟩, trivial⟩, hS.F ht⟩) hS.2.2 dX5_exponent_13)

set_option maxHeartbeats 4000000 in
set_option maxRecDepth 100000 in
theorem m_X5_unit (l : Launch) (hl0 : l.stackTraces = false) (D : va_G) (cC cI cJ : ClassId) (h0 h1 h2 h3 h4 h5 h6 h7 : Nat) (u : StX) (sz : Nat) (a0 : Int32) (a1 : Int32) (res : (String ⊕ (Int64 × StX))) (hf : f_X5_unit u a0 a1 = some res) : vx_Met l yX5_unit wsX5_unit rmX5_unit (my_PcTM D vwCl (KT cC cI cJ) sz (wX cC cI cJ h0 h1 h2 h3 h4 h5 h6 h7 u) [.ref h0, .int a0, .int a1]) (va_Ql (fun r v => ∃ z, r = z.1 ∧ v = z.2 ∧ res = .inr z) (my_B D vwCl (KT cC cI cJ) (va_A (wX cC cI cJ h0 h1 h2 h3 h4 h5 h6 h7 u) sz) (fun v : StX => (wX cC cI cJ h0 h1 h2 h3 h4 h5 h6 h7 v))) (va_A (wX cC cI cJ h0 h1 h2 h3 h4 h5 h6 h7 u) sz)) (vx_X (fun _ : Unit => True) (fun E _ _ => res = .inl E) (fun q : Nat => sz ≤ q)) 2 12 (va_A (wX cC cI cJ h0 h1 h2 h3 h4 h5 h6 h7 u) sz) := by
  refine vx_ofW (cc := cX5_unit) (maxL := 3) (ret := (some .long)) (by decide) rfl ?_
  intro p e s m args below meth c s₁ B hml ht hv
  obtain ⟨rfl, hsz, hP, hK, hD0, hXK⟩ := hv
  have hx := B.exec
  have hb := B.bytes
  have hr := B.returns
  have hts : ∀ w ∈ wsX5_unit, w.before ([.ref h0, .int a0, .int a1] : List Value).toArray s = true := atoms_spec (ws := wsX5_unit) B.pre
  have hown : s.vm.findClass RX5 = some m.cls := findClass_of_methodNamed B.named
  have hlk : meth.locks = false := B.notSynchronized
  subst hsz
  have hD := hD0.self (sz := s.heap.size)
  generalize hAe : va_A (wX cC cI cJ h0 h1 h2 h3 h4 h5 h6 h7 u) s.heap.size = A at hD ⊢
  have hA : ∀ q : Nat, s.heap.size ≤ q → A q := fun q h => by rw [← hAe]; exact Or.inr h
  have hS : va_S (fun q : Nat => s.heap.size ≤ q) s.heap s.heap [] := va_S.rf
  have hP : va_P D vwCl [(h0, .inr (4, [.ref h1, .ref h2, .ref h5])), (h1, .inl (cJ, 8, .inr (.inl u.1))), (h2, .inr (3, [.ref h3, .ref h4, .int u.2.1.2.2])), (h3, .inl (cC, 40, .inl u.2.1.1)), (h4, .inl (cI, 40, .inl u.2.1.2.1)), (h5, .inr (2, [.ref h6, .ref h7, .int u.2.2.2.2.1, .int u.2.2.2.2.2])), (h6, .inl (cI, 8, .inl u.2.2.1)), (h7, .inl (cJ, 8, .inr (.inl u.2.2.2.1)))] s.heap := hP
  have hD : va_D A [(h0, .inr (4, [.ref h1, .ref h2, .ref h5])), (h1, .inl (cJ, 8, .inr (.inl u.1))), (h2, .inr (3, [.ref h3, .ref h4, .int u.2.1.2.2])), (h3, .inl (cC, 40, .inl u.2.1.1)), (h4, .inl (cI, 40, .inl u.2.1.2.1)), (h5, .inr (2, [.ref h6, .ref h7, .int u.2.2.2.2.1, .int u.2.2.2.2.2])), (h6, .inl (cI, 8, .inl u.2.2.1)), (h7, .inl (cJ, 8, .inr (.inl u.2.2.2.1)))] := hD
  have q1 := hts (.fieldLink RX5 9 "Doubleline" "slots" "[J") (by decide +kernel)
  have q2 : ∀ w ∈ u_ws RX5 TX5 3, w ∈ wsX5_unit := by decide +kernel
  have hl := lv_entry ([.ref h0, .int a0, .int a1]) (n := 3) (Nat.le_of_ble_eq_true rfl)
  rw [lg_entry_eq]
  generalize (lg_sl ([.ref h0, .int a0, .int a1]) ++ List.replicate (3 - (lg_sl ([.ref h0, .int a0, .int a1])).length) Slot.unset).toArray = ls at hl ⊢
  have hl : lv_has ls 3 [(0, .ref h0), (1, .int a0), (2, .int a1)] := hl
  unfold f_X5_unit at hf
  refine lv_iload_n hx hb dX5_unit_0 rfl (lv_at hl 1 rfl) ?_
  obtain ⟨z1, ez1, xz1, hf⟩ := xb_e hf
  refine my_callT (As := [.int a0]) (n := 1) (rest := []) ⟨hx, hb, hml, hown, hts⟩ ht hlk hXK hS (m_X5_checkSlot l hl0 s.heap.size a0 _ ez1) gX5_unit_X5_checkSlot rfl (by decide +kernel) ⟨rfl, rfl⟩ ⟨Nat.le_of_ble_eq_true rfl, Nat.le_of_ble_eq_true rfl⟩ ⟨Nat.le_of_ble_eq_true rfl, Nat.le_of_ble_eq_true rfl⟩ ⟨Nat.le_of_ble_eq_true rfl, Nat.le_of_ble_eq_true rfl⟩ (fun q h => hA q h) xz1 hl.1 rfl rfl (Nat.le_of_ble_eq_true rfl) dX5_unit_1 (fun u9 H locs qz1 hk1 hS => ?_)
  have hP := my_keep hP hk1
  have hf := hf _ qz1
  refine lv_iload_n hx hb dX5_unit_4 rfl (lv_at hl 2 rfl) ?_
  obtain ⟨z2, ez2, xz2, hf⟩ := xb_e hf
  refine my_callT (As := [.int a1]) (n := 1) (rest := []) ⟨hx, hb, hml, hown, hts⟩ ht hlk hXK hS (m_X5_checkSlot l hl0 H.size a1 _ ez2) gX5_unit_X5_checkSlot rfl (by decide +kernel) ⟨rfl, rfl⟩ ⟨Nat.le_of_ble_eq_true rfl, Nat.le_of_ble_eq_true rfl⟩ ⟨Nat.le_of_ble_eq_true rfl, Nat.le_of_ble_eq_true rfl⟩ ⟨Nat.le_of_ble_eq_true rfl, Nat.le_of_ble_eq_true rfl⟩ (fun q h => hA q h) xz2 hl.1 rfl rfl (Nat.le_of_ble_eq_true rfl) dX5_unit_5 (fun u9 H locs qz2 hk1 hS => ?_)
  have hP := my_keep hP hk1
  have hf := hf _ qz2
  refine lv_aload_n hx hb dX5_unit_8 rfl (lv_at hl 0 rfl) ?_
  refine lv_iload_n hx hb dX5_unit_9 rfl (lv_at hl 2 rfl) ?_
  refine lv_aload_n hx hb dX5_unit_10 rfl (lv_at hl 0 rfl) ?_
  refine va_get (D := D) (ci := 4) (v := .ref h1) (C := RX5) (T := TX5) (N := 3) hx hb hts q2 hown hK hP 0 rfl rfl 0 (by decide) q1 (fun _ h9 => h9) rfl dX5_unit_11 ?_
  refine lv_iload_n hx hb dX5_unit_14 rfl (lv_at hl 1 rfl) ?_
  obtain ⟨g3, hf⟩ := og_e hf
  refine va_lald hx hb hK hP 1 2 rfl rfl g3 dX5_unit_15 ?_
  refine my_callPl (As := [.long (u.1 a0.toNatClampNeg)]) (n := 1) (rest := [.int a1, .ref h0]) ⟨hx, hb, hml, hown, hts⟩ (m_X0_unitOf l (u.1 a0.toNatClampNeg) _ rfl) gX5_unit_X0_unitOf rfl ⟨rfl, rfl⟩ (by decide +kernel) ⟨Nat.le_of_ble_eq_true rfl, Nat.le_of_ble_eq_true rfl⟩ ⟨Nat.le_of_ble_eq_true rfl, Nat.le_of_ble_eq_true rfl⟩ hl.1 rfl rfl (Nat.le_of_ble_eq_true rfl) dX5_unit_16 ?_
  obtain ⟨z4, ez4, hf⟩ := ob_e hf
  have hS := my_weak hS hA
  refine my_callMl (As := [.int a1, .long (f_X0_unitOf (u.1 a0.toNatClampNeg))]) (n := 2) (rest := []) (wr := []) ⟨hx, hb, hml, hown, hts⟩ hK hP hD hS hA [0, 1, 2, 3, 4, 5, 6, 7] [] rfl rfl (by decide) (by decide) (by decide) (m_X5_become l D cC cI cJ h0 h1 h2 h3 h4 h5 h6 h7 u H.size a1 (f_X0_unitOf (u.1 a0.toNatClampNeg)) _ ez4) gX5_unit_X5_become rfl ⟨rfl, rfl⟩ (ci := 4) rfl rfl (by decide +kernel) ⟨Nat.le_of_ble_eq_true rfl, Nat.le_of_ble_eq_true rfl⟩ ⟨Nat.le_of_ble_eq_true rfl, Nat.le_of_ble_eq_true rfl⟩ hl.1 rfl rfl (Nat.le_of_ble_eq_true rfl) dX5_unit_19 (fun r9 u9 H locs hw hP hD hS => ?_)
  obtain ⟨rfl, rfl⟩ := hw
  have hP : va_P D vwCl [(h0, .inr (4, [.ref h1, .ref h2, .ref h5])), (h1, .inl (cJ, 8, .inr (.inl z4.2.1))), (h2, .inr (3, [.ref h3, .ref h4, .int z4.2.2.1.2.2])), (h3, .inl (cC, 40, .inl z4.2.2.1.1)), (h4, .inl (cI, 40, .inl z4.2.2.1.2.1)), (h5, .inr (2, [.ref h6, .ref h7, .int z4.2.2.2.2.2.1, .int z4.2.2.2.2.2.2])), (h6, .inl (cI, 8, .inl z4.2.2.2.1)), (h7, .inl (cJ, 8, .inr (.inl z4.2.2.2.2.1)))] H := hP.sub [0, 1, 2, 3, 4, 5, 6, 7] rfl
  have hD : va_D A [(h0, .inr (4, [.ref h1, .ref h2, .ref h5])), (h1, .inl (cJ, 8, .inr (.inl z4.2.1))), (h2, .inr (3, [.ref h3, .ref h4, .int z4.2.2.1.2.2])), (h3, .inl (cC, 40, .inl z4.2.2.1.1)), (h4, .inl (cI, 40, .inl z4.2.2.1.2.1)), (h5, .inr (2, [.ref h6, .ref h7, .int z4.2.2.2.2.2.1, .int z4.2.2.2.2.2.2])), (h6, .inl (cI, 8, .inl z4.2.2.2.1)), (h7, .inl (cJ, 8, .inr (.inl z4.2.2.2.2.1)))] := hD.sub [0, 1, 2, 3, 4, 5, 6, 7] (by decide) rfl
  have hP9 : va_P D vwCl (wX cC cI cJ h0 h1 h2 h3 h4 h5 h6 h7 z4.2) _ := hP
  have hD9 : va_D A (wX cC cI cJ h0 h1 h2 h3 h4 h5 h6 h7 z4.2) := hD
  exact vx_ret (W.lret (v := z4.1) hx hb hr (fun t ht hW => ⟨⟨z4.1, z4.2, rfl, ⟨(z4.1, z4.2), rfl, rfl, (Option.some.inj hf).symm⟩, by rw [ht]; exact hP9, va_K.moved hW.alike hK, hD9⟩, hS.F ht⟩) hS.2.2 dX5_unit_22)

set_option maxHeartbeats 4000000 in
set_option maxRecDepth 100000 in
theorem m_X5_lead (l : Launch) (hl0 : l.stackTraces = false) (D : va_G) (cC cI cJ : ClassId) (h0 h1 h2 h3 h4 h5 h6 h7 : Nat) (u : StX) (sz : Nat) (a0 : Int32) (res : (String ⊕ Int32)) (hf : f_X5_lead u a0 = some res) : vx_Met l yX5_lead wsX5_lead rmX5_lead (my_PcTR D vwCl (KT cC cI cJ) sz (wX cC cI cJ h0 h1 h2 h3 h4 h5 h6 h7 u) [.ref h0, .int a0]) (va_Qi (fun r (_ : Unit) => (∃ z, r = z ∧ res = .inr z)) (fun _ _ => True) (fun q : Nat => sz ≤ q)) (vx_X (fun _ : Unit => True) (fun E _ _ => res = .inl E) (fun q : Nat => sz ≤ q)) 2 12 (fun q : Nat => sz ≤ q) := by
  refine vx_ofW (cc := cX5_lead) (maxL := 2) (ret := (some .int)) (by decide) rfl ?_
  intro p e s m args below meth c s₁ B hml ht hv
  obtain ⟨rfl, hsz, hP, hK, hXK⟩ := hv
  have hx := B.exec
  have hb := B.bytes
  have hr := B.returns
  have hts : ∀ w ∈ wsX5_lead, w.before ([.ref h0, .int a0] : List Value).toArray s = true := atoms_spec (ws := wsX5_lead) B.pre
  have hown : s.vm.findClass RX5 = some m.cls := findClass_of_methodNamed B.named
  have hlk : meth.locks = false := B.notSynchronized
  subst hsz
  have hS : va_S (fun q : Nat => s.heap.size ≤ q) s.heap s.heap [] := va_S.rf
  have hP : va_P D vwCl [(h0, .inr (4, [.ref h1, .ref h2, .ref h5])), (h1, .inl (cJ, 8, .inr (.inl u.1))), (h2, .inr (3, [.ref h3, .ref h4, .int u.2.1.2.2])), (h3, .inl (cC, 40, .inl u.2.1.1)), (h4, .inl (cI, 40, .inl u.2.1.2.1)), (h5, .inr (2, [.ref h6, .ref h7, .int u.2.2.2.2.1, .int u.2.2.2.2.2])), (h6, .inl (cI, 8, .inl u.2.2.1)), (h7, .inl (cJ, 8, .inr (.inl u.2.2.2.1)))] s.heap := hP
  have q1 := hts (.fieldLink RX5 9 "Doubleline" "slots" "[J") (by decide +kernel)
  have q2 : ∀ w ∈ u_ws RX5 TX5 3, w ∈ wsX5_lead := by decide +kernel
  have hl := lv_entry ([.ref h0, .int a0]) (n := 2) (Nat.le_of_ble_eq_true rfl)
  rw [lg_entry_eq]
  generalize (lg_sl ([.ref h0, .int a0]) ++ List.replicate (2 - (lg_sl ([.ref h0, .int a0])).length) Slot.unset).toArray = ls at hl ⊢
  have hl : lv_has ls 2 [(0, .ref h0), (1, .int a0)] := hl
  unfold f_X5_lead at hf
  refine lv_iload_n hx hb dX5_lead_0 rfl (lv_at hl 1 rfl) ?_
  obtain ⟨z1, ez1, xz1, hf⟩ := xb_e hf
  refine my_callT (As := [.int a0]) (n := 1) (rest := []) ⟨hx, hb, hml, hown, hts⟩ ht hlk hXK hS (m_X5_checkSlot l hl0 s.heap.size a0 _ ez1) gX5_lead_X5_checkSlot rfl (by decide +kernel) ⟨rfl, rfl⟩ ⟨Nat.le_of_ble_eq_true rfl, Nat.le_of_ble_eq_true rfl⟩ ⟨Nat.le_of_ble_eq_true rfl, Nat.le_of_ble_eq_true rfl⟩ ⟨Nat.le_of_ble_eq_true rfl, Nat.le_of_ble_eq_true rfl⟩ (fun q h => h) xz1 hl.1 rfl rfl (Nat.le_of_ble_eq_true rfl) dX5_lead_1 (fun u9 H locs qz1 hk1 hS => ?_)
  have hP := my_keep hP hk1
  have hf := hf _ qz1
  refine lv_aload_n hx hb dX5_lead_4 rfl (lv_at hl 0 rfl) ?_
  refine va_get (D := D) (ci := 4) (v := .ref h1) (C := RX5) (T := TX5) (N := 3) hx hb hts q2 hown hK hP 0 rfl rfl 0 (by decide) q1 (fun _ h9 => h9) rfl dX5_lead_5 ?_
  refine lv_iload_n hx hb dX5_lead_8 rfl (lv_at hl 1 rfl) ?_
  obtain ⟨g2, hf⟩ := og_e hf
  refine va_lald hx hb hK hP 1 2 rfl rfl g2 dX5_lead_9 ?_
  obtain ⟨z3, ez3, xz3, hf⟩ := xb_e hf
  refine my_callT (As := [.long (u.1 a0.toNatClampNeg)]) (n := 1) (rest := []) ⟨hx, hb, hml, hown, hts⟩ ht hlk hXK hS (m_X5_checkHasPowers l hl0 H.size (u.1 a0.toNatClampNeg) _ ez3) gX5_lead_X5_checkHasPowers rfl (by decide +kernel) ⟨rfl, rfl⟩ ⟨Nat.le_of_ble_eq_true rfl, Nat.le_of_ble_eq_true rfl⟩ ⟨Nat.le_of_ble_eq_true rfl, Nat.le_of_ble_eq_true rfl⟩ ⟨Nat.le_of_ble_eq_true rfl, Nat.le_of_ble_eq_true rfl⟩ (fun q h => h) xz3 hl.1 rfl rfl (Nat.le_of_ble_eq_true rfl) dX5_lead_10 (fun u9 H locs qz3 hk1 hS => ?_)
  have hP := my_keep hP hk1
  have hf := hf _ qz3
  refine lv_aload_n hx hb dX5_lead_13 rfl (lv_at hl 0 rfl) ?_
  refine va_get (D := D) (ci := 4) (v := .ref h1) (C := RX5) (T := TX5) (N := 3) hx hb hts q2 hown hK hP 0 rfl rfl 0 (by decide) q1 (fun _ h9 => h9) rfl dX5_lead_14 ?_
  refine lv_iload_n hx hb dX5_lead_17 rfl (lv_at hl 1 rfl) ?_
  obtain ⟨g4, hf⟩ := og_e hf
  refine va_lald hx hb hK hP 1 2 rfl rfl g4 dX5_lead_18 ?_
  refine my_callPi (As := [.long (u.1 a0.toNatClampNeg)]) (n := 1) (rest := []) ⟨hx, hb, hml, hown, hts⟩ (m_X0_leadOf l (u.1 a0.toNatClampNeg) _ rfl) gX5_lead_X0_leadOf rfl ⟨rfl, rfl⟩ (by decide +kernel) ⟨Nat.le_of_ble_eq_true rfl, Nat.le_of_ble_eq_true rfl⟩ ⟨Nat.le_of_ble_eq_true rfl, Nat.le_of_ble_eq_true rfl⟩ hl.1 rfl rfl (Nat.le_of_ble_eq_true rfl) dX5_lead_19 ?_
  exact vx_ret (W.iret (v := (f_X0_leadOf (u.1 a0.toNatClampNeg))) hx hb hr (fun t ht hW => ⟨⟨(f_X0_leadOf (u.1 a0.toNatClampNeg)), (), rfl, ⟨_, rfl, (Option.some.inj hf).symm⟩, trivial⟩, hS.F ht⟩) hS.2.2 dX5_lead_22)

set_option maxHeartbeats 4000000 in
set_option maxRecDepth 100000 in
theorem m_X5_tail (l : Launch) (hl0 : l.stackTraces = false) (D : va_G) (cC cI cJ : ClassId) (h0 h1 h2 h3 h4 h5 h6 h7 : Nat) (u : StX) (sz : Nat) (a0 : Int32) (res : (String ⊕ Int32)) (hf : f_X5_tail u a0 = some res) : vx_Met l yX5_tail wsX5_tail rmX5_tail (my_PcTR D vwCl (KT cC cI cJ) sz (wX cC cI cJ h0 h1 h2 h3 h4 h5 h6 h7 u) [.ref h0, .int a0]) (va_Qi (fun r (_ : Unit) => (∃ z, r = z ∧ res = .inr z)) (fun _ _ => True) (fun q : Nat => sz ≤ q)) (vx_X (fun _ : Unit => True) (fun E _ _ => res = .inl E) (fun q : Nat => sz ≤ q)) 2 12 (fun q : Nat => sz ≤ q) := by
  refine vx_ofW (cc := cX5_tail) (maxL := 2) (ret := (some .int)) (by decide) rfl ?_
  intro p e s m args below meth c s₁ B hml ht hv
  obtain ⟨rfl, hsz, hP, hK, hXK⟩ := hv
  have hx := B.exec
  have hb := B.bytes
  have hr := B.returns
  have hts : ∀ w ∈ wsX5_tail, w.before ([.ref h0, .int a0] : List Value).toArray s = true := atoms_spec (ws := wsX5_tail) B.pre
  have hown : s.vm.findClass RX5 = some m.cls := findClass_of_methodNamed B.named
  have hlk : meth.locks = false := B.notSynchronized
  subst hsz
  have hS : va_S (fun q : Nat => s.heap.size ≤ q) s.heap s.heap [] := va_S.rf
  have hP : va_P D vwCl [(h0, .inr (4, [.ref h1, .ref h2, .ref h5])), (h1, .inl (cJ, 8, .inr (.inl u.1))), (h2, .inr (3, [.ref h3, .ref h4, .int u.2.1.2.2])), (h3, .inl (cC, 40, .inl u.2.1.1)), (h4, .inl (cI, 40, .inl u.2.1.2.1)), (h5, .inr (2, [.ref h6, .ref h7, .int u.2.2.2.2.1, .int u.2.2.2.2.2])), (h6, .inl (cI, 8, .inl u.2.2.1)), (h7, .inl (cJ, 8, .inr (.inl u.2.2.2.1)))] s.heap := hP
  have q1 := hts (.fieldLink RX5 9 "Doubleline" "slots" "[J") (by decide +kernel)
  have q2 : ∀ w ∈ u_ws RX5 TX5 3, w ∈ wsX5_tail := by decide +kernel
  have hl := lv_entry ([.ref h0, .int a0]) (n := 2) (Nat.le_of_ble_eq_true rfl)
  rw [lg_entry_eq]
  generalize (lg_sl ([.ref h0, .int a0]) ++ List.replicate (2 - (lg_sl ([.ref h0, .int a0])).length) Slot.unset).toArray = ls at hl ⊢
  have hl : lv_has ls 2 [(0, .ref h0), (1, .int a0)] := hl
  unfold f_X5_tail at hf
  refine lv_iload_n hx hb dX5_tail_0 rfl (lv_at hl 1 rfl) ?_
  obtain ⟨z1, ez1, xz1, hf⟩ := xb_e hf
  refine my_callT (As := [.int a0]) (n := 1) (rest := []) ⟨hx, hb, hml, hown, hts⟩ ht hlk hXK hS (m_X5_checkSlot l hl0 s.heap.size a0 _ ez1) gX5_tail_X5_checkSlot rfl (by decide +kernel) ⟨rfl, rfl⟩ ⟨Nat.le_of_ble_eq_true rfl, Nat.le_of_ble_eq_true rfl⟩ ⟨Nat.le_of_ble_eq_true rfl, Nat.le_of_ble_eq_true rfl⟩ ⟨Nat.le_of_ble_eq_true rfl, Nat.le_of_ble_eq_true rfl⟩ (fun q h => h) xz1 hl.1 rfl rfl (Nat.le_of_ble_eq_true rfl) dX5_tail_1 (fun u9 H locs qz1 hk1 hS => ?_)
  have hP := my_keep hP hk1
  have hf := hf _ qz1
  refine lv_aload_n hx hb dX5_tail_4 rfl (lv_at hl 0 rfl) ?_
  refine va_get (D := D) (ci := 4) (v := .ref h1) (C := RX5) (T := TX5) (N := 3) hx hb hts q2 hown hK hP 0 rfl rfl 0 (by decide) q1 (fun _ h9 => h9) rfl dX5_tail_5 ?_
  refine lv_iload_n hx hb dX5_tail_8 rfl (lv_at hl 1 rfl) ?_
  obtain ⟨g2, hf⟩ := og_e hf
  refine va_lald hx hb hK hP 1 2 rfl rfl g2 dX5_tail_9 ?_
  obtain ⟨z3, ez3, xz3, hf⟩ := xb_e hf
  refine my_callT (As := [.long (u.1 a0.toNatClampNeg)]) (n := 1) (rest := []) ⟨hx, hb, hml, hown, hts⟩ ht hlk hXK hS (m_X5_checkHasPowers l hl0 H.size (u.1 a0.toNatClampNeg) _ ez3) gX5_tail_X5_checkHasPowers rfl (by decide +kernel) ⟨rfl, rfl⟩ ⟨Nat.le_of_ble_eq_true rfl, Nat.le_of_ble_eq_true rfl⟩ ⟨Nat.le_of_ble_eq_true rfl, Nat.le_of_ble_eq_true rfl⟩ ⟨Nat.le_of_ble_eq_true rfl, Nat.le_of_ble_eq_true rfl⟩ (fun q h => h) xz3 hl.1 rfl rfl (Nat.le_of_ble_eq_true rfl) dX5_tail_10 (fun u9 H locs qz3 hk1 hS => ?_)
  have hP := my_keep hP hk1
  have hf := hf _ qz3
  refine lv_aload_n hx hb dX5_tail_13 rfl (lv_at hl 0 rfl) ?_
  refine va_get (D := D) (ci := 4) (v := .ref h1) (C := RX5) (T := TX5) (N := 3) hx hb hts q2 hown hK hP 0 rfl rfl 0 (by decide) q1 (fun _ h9 => h9) rfl dX5_tail_14 ?_
  refine lv_iload_n hx hb dX5_tail_17 rfl (lv_at hl 1 rfl) ?_
  obtain ⟨g4, hf⟩ := og_e hf
  refine va_lald hx hb hK hP 1 2 rfl rfl g4 dX5_tail_18 ?_
  refine my_callPi (As := [.long (u.1 a0.toNatClampNeg)]) (n := 1) (rest := []) ⟨hx, hb, hml, hown, hts⟩ (m_X0_tailOf l (u.1 a0.toNatClampNeg) _ rfl) gX5_tail_X0_tailOf rfl ⟨rfl, rfl⟩ (by decide +kernel) ⟨Nat.le_of_ble_eq_true rfl, Nat.le_of_ble_eq_true rfl⟩ ⟨Nat.le_of_ble_eq_true rfl, Nat.le_of_ble_eq_true rfl⟩ hl.1 rfl rfl (Nat.le_of_ble_eq_true rfl) dX5_tail_19 ?_
  exact vx_ret (W.iret (v := (f_X0_tailOf (u.1 a0.toNatClampNeg))) hx hb hr (fun t ht hW => ⟨⟨(f_X0_tailOf (u.1 a0.toNatClampNeg)), (), rfl, ⟨_, rfl, (Option.some.inj hf).symm⟩, trivial⟩, hS.F ht⟩) hS.2.2 dX5_tail_22)

set_option maxHeartbeats 4000000 in
set_option maxRecDepth 100000 in
theorem m_X5_power (l : Launch) (hl0 : l.stackTraces = false) (D : va_G) (cC cI cJ : ClassId) (h0 h1 h2 h3 h4 h5 h6 h7 : Nat) (u : StX) (sz : Nat) (a0 : Int32) (a1 : Int32) (res : (String ⊕ (Int64 × StX))) (hf : f_X5_power u a0 a1 = some res) : vx_Met l yX5_power wsX5_power rmX5_power (my_PcTM D vwCl (KT cC cI cJ) sz (wX cC cI cJ h0 h1 h2 h3 h4 h5 h6 h7 u) [.ref h0, .int a0, .int a1]) (va_Ql (fun r v => ∃ z, r = z.1 ∧ v = z.2 ∧ res = .inr z) (my_B D vwCl (KT cC cI cJ) (va_A (wX cC cI cJ h0 h1 h2 h3 h4 h5 h6 h7 u) sz) (fun v : StX => (wX cC cI cJ h0 h1 h2 h3 h4 h5 h6 h7 v))) (va_A (wX cC cI cJ h0 h1 h2 h3 h4 h5 h6 h7 u) sz)) (vx_X (fun _ : Unit => True) (fun E _ _ => res = .inl E) (fun q : Nat => sz ≤ q)) 3 18 (va_A (wX cC cI cJ h0 h1 h2 h3 h4 h5 h6 h7 u) sz) := by
  refine vx_ofW (cc := cX5_power) (maxL := 3) (ret := (some .long)) (by decide) rfl ?_
  intro p e s m args below meth c s₁ B hml ht hv
  obtain ⟨rfl, hsz, hP, hK, hD0, hXK⟩ := hv
  have hx := B.exec
  have hb := B.bytes
  have hr := B.returns
  have hts : ∀ w ∈ wsX5_power, w.before ([.ref h0, .int a0, .int a1] : List Value).toArray s = true := atoms_spec (ws := wsX5_power) B.pre
  have hown : s.vm.findClass RX5 = some m.cls := findClass_of_methodNamed B.named
  have hlk : meth.locks = false := B.notSynchronized
  subst hsz
  have hD := hD0.self (sz := s.heap.size)
  generalize hAe : va_A (wX cC cI cJ h0 h1 h2 h3 h4 h5 h6 h7 u) s.heap.size = A at hD ⊢
  have hA : ∀ q : Nat, s.heap.size ≤ q → A q := fun q h => by rw [← hAe]; exact Or.inr h
  have hS : va_S (fun q : Nat => s.heap.size ≤ q) s.heap s.heap [] := va_S.rf
  have hP : va_P D vwCl [(h0, .inr (4, [.ref h1, .ref h2, .ref h5])), (h1, .inl (cJ, 8, .inr (.inl u.1))), (h2, .inr (3, [.ref h3, .ref h4, .int u.2.1.2.2])), (h3, .inl (cC, 40, .inl u.2.1.1)), (h4, .inl (cI, 40, .inl u.2.1.2.1)), (h5, .inr (2, [.ref h6, .ref h7, .int u.2.2.2.2.1, .int u.2.2.2.2.2])), (h6, .inl (cI, 8, .inl u.2.2.1)), (h7, .inl (cJ, 8, .inr (.inl u.2.2.2.1)))] s.heap := hP
  have hD : va_D A [(h0, .inr (4, [.ref h1, .ref h2, .ref h5])), (h1, .inl (cJ, 8, .inr (.inl u.1))), (h2, .inr (3, [.ref h3, .ref h4, .int u.2.1.2.2])), (h3, .inl (cC, 40, .inl u.2.1.1)), (h4, .inl (cI, 40, .inl u.2.1.2.1)), (h5, .inr (2, [.ref h6, .ref h7, .int u.2.2.2.2.1, .int u.2.2.2.2.2])), (h6, .inl (cI, 8, .inl u.2.2.1)), (h7, .inl (cJ, 8, .inr (.inl u.2.2.2.1)))] := hD
  have q1 := hts (.fieldLink RX5 9 "Doubleline" "slots" "[J") (by decide +kernel)
  have q2 : ∀ w ∈ u_ws RX5 TX5 3, w ∈ wsX5_power := by decide +kernel
  have hl := lv_entry ([.ref h0, .int a0, .int a1]) (n := 3) (Nat.le_of_ble_eq_true rfl)
  rw [lg_entry_eq]
  generalize (lg_sl ([.ref h0, .int a0, .int a1]) ++ List.replicate (3 - (lg_sl ([.ref h0, .int a0, .int a1])).length) Slot.unset).toArray = ls at hl ⊢
  have hl : lv_has ls 3 [(0, .ref h0), (1, .int a0), (2, .int a1)] := hl
  unfold f_X5_power at hf
  refine lv_iload_n hx hb dX5_power_0 rfl (lv_at hl 1 rfl) ?_
  obtain ⟨z1, ez1, xz1, hf⟩ := xb_e hf
  refine my_callT (As := [.int a0]) (n := 1) (rest := []) ⟨hx, hb, hml, hown, hts⟩ ht hlk hXK hS (m_X5_checkSlot l hl0 s.heap.size a0 _ ez1) gX5_power_X5_checkSlot rfl (by decide +kernel) ⟨rfl, rfl⟩ ⟨Nat.le_of_ble_eq_true rfl, Nat.le_of_ble_eq_true rfl⟩ ⟨Nat.le_of_ble_eq_true rfl, Nat.le_of_ble_eq_true rfl⟩ ⟨Nat.le_of_ble_eq_true rfl, Nat.le_of_ble_eq_true rfl⟩ (fun q h => hA q h) xz1 hl.1 rfl rfl (Nat.le_of_ble_eq_true rfl) dX5_power_1 (fun u9 H locs qz1 hk1 hS => ?_)
  have hP := my_keep hP hk1
  have hf := hf _ qz1
  refine lv_iload_n hx hb dX5_power_4 rfl (lv_at hl 2 rfl) ?_
  obtain ⟨z2, ez2, xz2, hf⟩ := xb_e hf
  refine my_callT (As := [.int a1]) (n := 1) (rest := []) ⟨hx, hb, hml, hown, hts⟩ ht hlk hXK hS (m_X5_checkSlot l hl0 H.size a1 _ ez2) gX5_power_X5_checkSlot rfl (by decide +kernel) ⟨rfl, rfl⟩ ⟨Nat.le_of_ble_eq_true rfl, Nat.le_of_ble_eq_true rfl⟩ ⟨Nat.le_of_ble_eq_true rfl, Nat.le_of_ble_eq_true rfl⟩ ⟨Nat.le_of_ble_eq_true rfl, Nat.le_of_ble_eq_true rfl⟩ (fun q h => hA q h) xz2 hl.1 rfl rfl (Nat.le_of_ble_eq_true rfl) dX5_power_5 (fun u9 H locs qz2 hk1 hS => ?_)
  have hP := my_keep hP hk1
  have hf := hf _ qz2
  refine lv_aload_n hx hb dX5_power_8 rfl (lv_at hl 0 rfl) ?_
  refine va_get (D := D) (ci := 4) (v := .ref h1) (C := RX5) (T := TX5) (N := 3) hx hb hts q2 hown hK hP 0 rfl rfl 0 (by decide) q1 (fun _ h9 => h9) rfl dX5_power_9 ?_
  refine lv_iload_n hx hb dX5_power_12 rfl (lv_at hl 1 rfl) ?_
  obtain ⟨g3, hf⟩ := og_e hf
  refine va_lald hx hb hK hP 1 2 rfl rfl g3 dX5_power_13 ?_
  obtain ⟨z4, ez4, xz4, hf⟩ := xb_e hf
  refine my_callT (As := [.long (u.1 a0.toNatClampNeg)]) (n := 1) (rest := []) ⟨hx, hb, hml, hown, hts⟩ ht hlk hXK hS (m_X5_checkHasPowers l hl0 H.size (u.1 a0.toNatClampNeg) _ ez4) gX5_power_X5_checkHasPowers rfl (by decide +kernel) ⟨rfl, rfl⟩ ⟨Nat.le_of_ble_eq_true rfl, Nat.le_of_ble_eq_true rfl⟩ ⟨Nat.le_of_ble_eq_true rfl, Nat.le_of_ble_eq_true rfl⟩ ⟨Nat.le_of_ble_eq_true rfl, Nat.le_of_ble_eq_true rfl⟩ (fun q h => hA q h) xz4 hl.1 rfl rfl (Nat.le_of_ble_eq_true rfl) dX5_power_14 (fun u9 H locs qz4 hk1 hS => ?_)
  have hP := my_keep hP hk1
  have hf := hf _ qz4
  refine lv_aload_n hx hb dX5_power_17 rfl (lv_at hl 0 rfl) ?_
  refine lv_iload_n hx hb dX5_power_18 rfl (lv_at hl 2 rfl) ?_
  refine lv_aload_n hx hb dX5_power_19 rfl (lv_at hl 0 rfl) ?_
  refine va_get (D := D) (ci := 4) (v := .ref h1) (C := RX5) (T := TX5) (N := 3) hx hb hts q2 hown hK hP 0 rfl rfl 0 (by decide) q1 (fun _ h9 => h9) rfl dX5_power_20 ?_
  refine lv_iload_n hx hb dX5_power_23 rfl (lv_at hl 1 rfl) ?_
  obtain ⟨g5, hf⟩ := og_e hf
  refine va_lald hx hb hK hP 1 2 rfl rfl g5 dX5_power_24 ?_
  refine my_callPi (As := [.long (u.1 a0.toNatClampNeg)]) (n := 1) (rest := [.int a1, .ref h0]) ⟨hx, hb, hml, hown, hts⟩ (m_X0_leadOf l (u.1 a0.toNatClampNeg) _ rfl) gX5_power_X0_leadOf rfl ⟨rfl, rfl⟩ (by decide +kernel) ⟨Nat.le_of_ble_eq_true rfl, Nat.le_of_ble_eq_true rfl⟩ ⟨Nat.le_of_ble_eq_true rfl, Nat.le_of_ble_eq_true rfl⟩ hl.1 rfl rfl (Nat.le_of_ble_eq_true rfl) dX5_power_25 ?_
  refine my_callPl (As := [.int (f_X0_leadOf (u.1 a0.toNatClampNeg))]) (n := 1) (rest := [.int a1, .ref h0]) ⟨hx, hb, hml, hown, hts⟩ (m_X0_powerOfTwo l (f_X0_leadOf (u.1 a0.toNatClampNeg)) _ rfl) gX5_power_X0_powerOfTwo rfl ⟨rfl, rfl⟩ (by decide +kernel) ⟨Nat.le_of_ble_eq_true rfl, Nat.le_of_ble_eq_true rfl⟩ ⟨Nat.le_of_ble_eq_true rfl, Nat.le_of_ble_eq_true rfl⟩ hl.1 rfl rfl (Nat.le_of_ble_eq_true rfl) dX5_power_28 ?_
  obtain ⟨z6, ez6, hf⟩ := ob_e hf
  have hS := my_weak hS hA
  refine my_callMl (As := [.int a1, .long (f_X0_powerOfTwo (f_X0_leadOf (u.1 a0.toNatClampNeg)))]) (n := 2) (rest := []) (wr := []) ⟨hx, hb, hml, hown, hts⟩ hK hP hD hS hA [0, 1, 2, 3, 4, 5, 6, 7] [] rfl rfl (by decide) (by decide) (by decide) (m_X5_become l D cC cI cJ h0 h1 h2 h3 h4 h5 h6 h7 u H.size a1 (f_X0_powerOfTwo (f_X0_leadOf (u.1 a0.toNatClampNeg))) _ ez6) gX5_power_X5_become rfl ⟨rfl, rfl⟩ (ci := 4) rfl rfl (by decide +kernel) ⟨Nat.le_of_ble_eq_true rfl, Nat.le_of_ble_eq_true rfl⟩ ⟨Nat.le_of_ble_eq_true rfl, Nat.le_of_ble_eq_true rfl⟩ hl.1 rfl rfl (Nat.le_of_ble_eq_true rfl) dX5_power_31 (fun r9 u9 H locs hw hP hD hS => ?_)
  obtain ⟨rfl, rfl⟩ := hw
  have hP : va_P D vwCl [(h0, .inr (4, [.ref h1, .ref h2, .ref h5])), (h1, .inl (cJ, 8, .inr (.inl z6.2.1))), (h2, .inr (3, [.ref h3, .ref h4, .int z6.2.2.1.2.2])), (h3, .inl (cC, 40, .inl z6.2.2.1.1)), (h4, .inl (cI, 40, .inl z6.2.2.1.2.1)), (h5, .inr (2, [.ref h6, .ref h7, .int z6.2.2.2.2.2.1, .int z6.2.2.2.2.2.2])), (h6, .inl (cI, 8, .inl z6.2.2.2.1)), (h7, .inl (cJ, 8, .inr (.inl z6.2.2.2.2.1)))] H := hP.sub [0, 1, 2, 3, 4, 5, 6, 7] rfl
  have hD : va_D A [(h0, .inr (4, [.ref h1, .ref h2, .ref h5])), (h1, .inl (cJ, 8, .inr (.inl z6.2.1))), (h2, .inr (3, [.ref h3, .ref h4, .int z6.2.2.1.2.2])), (h3, .inl (cC, 40, .inl z6.2.2.1.1)), (h4, .inl (cI, 40, .inl z6.2.2.1.2.1)), (h5, .inr (2, [.ref h6, .ref h7, .int z6.2.2.2.2.2.1, .int z6.2.2.2.2.2.2])), (h6, .inl (cI, 8, .inl z6.2.2.2.1)), (h7, .inl (cJ, 8, .inr (.inl z6.2.2.2.2.1)))] := hD.sub [0, 1, 2, 3, 4, 5, 6, 7] (by decide) rfl
  have hP9 : va_P D vwCl (wX cC cI cJ h0 h1 h2 h3 h4 h5 h6 h7 z6.2) _ := hP
  have hD9 : va_D A (wX cC cI cJ h0 h1 h2 h3 h4 h5 h6 h7 z6.2) := hD
  exact vx_ret (W.lret (v := z6.1) hx hb hr (fun t ht hW => ⟨⟨z6.1, z6.2, rfl, ⟨(z6.1, z6.2), rfl, rfl, (Option.some.inj hf).symm⟩, by rw [ht]; exact hP9, va_K.moved hW.alike hK, hD9⟩, hS.F ht⟩) hS.2.2 dX5_power_34)

set_option maxHeartbeats 4000000 in
set_option maxRecDepth 100000 in
theorem m_X5_grains (l : Launch) (hl0 : l.stackTraces = false) (D : va_G) (cC cI cJ : ClassId) (h0 h1 h2 h3 h4 h5 h6 h7 : Nat) (u : StX) (sz : Nat) (a0 : Int32) (a1 : Int32) (res : (String ⊕ Int32)) (hf : f_X5_grains u a0 a1 = some res) : vx_Met l yX5_grains wsX5_grains rmX5_grains (my_PcTR D vwCl (KT cC cI cJ) sz (wX cC cI cJ h0 h1 h2 h3 h4 h5 h6 h7 u) [.ref h0, .int a0, .int a1]) (va_Qi (fun r (_ : Unit) => (∃ z, r = z ∧ res = .inr z)) (fun _ _ => True) (fun q : Nat => sz ≤ q)) (vx_X (fun _ : Unit => True) (fun E _ _ => res = .inl E) (fun q : Nat => sz ≤ q)) 3 18 (fun q : Nat => sz ≤ q) := by
  refine vx_ofW (cc := cX5_grains) (maxL := 3) (ret := (some .int)) (by decide) rfl ?_
  intro p e s m args below meth c s₁ B hml ht hv
  obtain ⟨rfl, hsz, hP, hK, hXK⟩ := hv
  have hx := B.exec
  have hb := B.bytes
  have hr := B.returns
  have hts : ∀ w ∈ wsX5_grains, w.before ([.ref h0, .int a0, .int a1] : List Value).toArray s = true := atoms_spec (ws := wsX5_grains) B.pre
  have hown : s.vm.findClass RX5 = some m.cls := findClass_of_methodNamed B.named
  have hlk : meth.locks = false := B.notSynchronized
  subst hsz
  have hS : va_S (fun q : Nat => s.heap.size ≤ q) s.heap s.heap [] := va_S.rf
  have hP : va_P D vwCl [(h0, .inr (4, [.ref h1, .ref h2, .ref h5])), (h1, .inl (cJ, 8, .inr (.inl u.1))), (h2, .inr (3, [.ref h3, .ref h4, .int u.2.1.2.2])), (h3, .inl (cC, 40, .inl u.2.1.1)), (h4, .inl (cI, 40, .inl u.2.1.2.1)), (h5, .inr (2, [.ref h6, .ref h7, .int u.2.2.2.2.1, .int u.2.2.2.2.2])), (h6, .inl (cI, 8, .inl u.2.2.1)), (h7, .inl (cJ, 8, .inr (.inl u.2.2.2.1)))] s.heap := hP
  have q1 := hts (.constant RX5 113 (1000000)) (by decide +kernel)
  have q2 := hts (.fieldLink RX5 9 "Doubleline" "slots" "[J") (by decide +kernel)
  have q3 : ∀ w ∈ u_ws RX5 TX5 3, w ∈ wsX5_grains := by decide +kernel
  have hl := lv_entry ([.ref h0, .int a0, .int a1]) (n := 3) (Nat.le_of_ble_eq_true rfl)
  rw [lg_entry_eq]
  generalize (lg_sl ([.ref h0, .int a0, .int a1]) ++ List.replicate (3 - (lg_sl ([.ref h0, .int a0, .int a1])).length) Slot.unset).toArray = ls at hl ⊢
  have hl : lv_has ls 3 [(0, .ref h0), (1, .int a0), (2, .int a1)] := hl
  unfold f_X5_grains at hf
  refine lv_iload_n hx hb dX5_grains_0 rfl (lv_at hl 1 rfl) ?_
  obtain ⟨z1, ez1, xz1, hf⟩ := xb_e hf
  refine my_callT (As := [.int a0]) (n := 1) (rest := []) ⟨hx, hb, hml, hown, hts⟩ ht hlk hXK hS (m_X5_checkSlot l hl0 s.heap.size a0 _ ez1) gX5_grains_X5_checkSlot rfl (by decide +kernel) ⟨rfl, rfl⟩ ⟨Nat.le_of_ble_eq_true rfl, Nat.le_of_ble_eq_true rfl⟩ ⟨Nat.le_of_ble_eq_true rfl, Nat.le_of_ble_eq_true rfl⟩ ⟨Nat.le_of_ble_eq_true rfl, Nat.le_of_ble_eq_true rfl⟩ (fun q h => h) xz1 hl.1 rfl rfl (Nat.le_of_ble_eq_true rfl) dX5_grains_1 (fun u9 H locs qz1 hk1 hS => ?_)
  have hP := my_keep hP hk1
  have hf := hf _ qz1
  refine lv_iload_n hx hb dX5_grains_4 rfl (lv_at hl 2 rfl) ?_
  refine lv_iconst (v := 1) hx hb dX5_grains_5 (by decide) ?_
  refine lv_ldc (v := 1000000) hx hb hown q1 dX5_grains_6 ?_
  obtain ⟨z2, ez2, xz2, hf⟩ := xb_e hf
  refine my_callT (As := [.int a1, .int 1, .int 1000000]) (n := 3) (rest := []) ⟨hx, hb, hml, hown, hts⟩ ht hlk hXK hS (m_X5_checkRange l hl0 H.size a1 1 1000000 _ ez2) gX5_grains_X5_checkRange rfl (by decide +kernel) ⟨rfl, rfl⟩ ⟨Nat.le_of_ble_eq_true rfl, Nat.le_of_ble_eq_true rfl⟩ ⟨Nat.le_of_ble_eq_true rfl, Nat.le_of_ble_eq_true rfl⟩ ⟨Nat.le_of_ble_eq_true rfl, Nat.le_of_ble_eq_true rfl⟩ (fun q h => h) xz2 hl.1 rfl rfl (Nat.le_of_ble_eq_true rfl) dX5_grains_8 (fun u9 H locs qz2 hk1 hS => ?_)
  have hP := my_keep hP hk1
  have hf := hf _ qz2
  refine lv_aload_n hx hb dX5_grains_11 rfl (lv_at hl 0 rfl) ?_
  refine va_get (D := D) (ci := 4) (v := .ref h1) (C := RX5) (T := TX5) (N := 3) hx hb hts q3 hown hK hP 0 rfl rfl 0 (by decide) q2 (fun _ h9 => h9) rfl dX5_grains_12 ?_
  refine lv_iload_n hx hb dX5_grains_15 rfl (lv_at hl 1 rfl) ?_
  obtain ⟨g3, hf⟩ := og_e hf
  refine va_lald hx hb hK hP 1 2 rfl rfl g3 dX5_grains_16 ?_
  obtain ⟨z4, ez4, xz4, hf⟩ := xb_e hf
  refine my_callT (As := [.long (u.1 a0.toNatClampNeg)]) (n := 1) (rest := []) ⟨hx, hb, hml, hown, hts⟩ ht hlk hXK hS (m_X5_checkHasEnd l hl0 H.size (u.1 a0.toNatClampNeg) _ ez4) gX5_grains_X5_checkHasEnd rfl (by decide +kernel) ⟨rfl, rfl⟩ ⟨Nat.le_of_ble_eq_true rfl, Nat.le_of_ble_eq_true rfl⟩ ⟨Nat.le_of_ble_eq_true rfl, Nat.le_of_ble_eq_true rfl⟩ ⟨Nat.le_of_ble_eq_true rfl, Nat.le_of_ble_eq_true rfl⟩ (fun q h => h) xz4 hl.1 rfl rfl (Nat.le_of_ble_eq_true rfl) dX5_grains_17 (fun u9 H locs qz4 hk1 hS => ?_)
  have hP := my_keep hP hk1
  have hf := hf _ qz4
  refine lv_aload_n hx hb dX5_grains_20 rfl (lv_at hl 0 rfl) ?_
  refine va_get (D := D) (ci := 4) (v := .ref h1) (C := RX5) (T := TX5) (N := 3) hx hb hts q3 hown hK hP 0 rfl rfl 0 (by decide) q2 (fun _ h9 => h9) rfl dX5_grains_21 ?_
  refine lv_iload_n hx hb dX5_grains_24 rfl (lv_at hl 1 rfl) ?_
  obtain ⟨g5, hf⟩ := og_e hf
  refine va_lald hx hb hK hP 1 2 rfl rfl g5 dX5_grains_25 ?_
  refine lv_iload_n hx hb dX5_grains_26 rfl (lv_at hl 2 rfl) ?_
  obtain ⟨r6, er6, hf⟩ := ob_e hf
  refine my_callPi (As := [.long (u.1 a0.toNatClampNeg), .int a1]) (n := 2) (rest := []) ⟨hx, hb, hml, hown, hts⟩ (m_X1_sizeRest l (u.1 a0.toNatClampNeg) a1 _ er6) gX5_grains_X1_sizeRest rfl ⟨rfl, rfl⟩ (by decide +kernel) ⟨Nat.le_of_ble_eq_true rfl, Nat.le_of_ble_eq_true rfl⟩ ⟨Nat.le_of_ble_eq_true rfl, Nat.le_of_ble_eq_true rfl⟩ hl.1 rfl rfl (Nat.le_of_ble_eq_true rfl) dX5_grains_27 ?_
  exact vx_ret (W.iret (v := r6) hx hb hr (fun t ht hW => ⟨⟨r6, (), rfl, ⟨_, rfl, (Option.some.inj hf).symm⟩, trivial⟩, hS.F ht⟩) hS.2.2 dX5_grains_30)

set_option maxHeartbeats 4000000 in
set_option maxRecDepth 100000 in
theorem m_X5_gap (l : Launch) (hl0 : l.stackTraces = false) (D : va_G) (cC cI cJ : ClassId) (h0 h1 h2 h3 h4 h5 h6 h7 : Nat) (u : StX) (sz : Nat) (a0 : Int32) (a1 : Int32) (a2 : Int32) (res : (String ⊕ Int32)) (hf : f_X5_gap u a0 a1 a2 = some res) : vx_Met l yX5_gap wsX5_gap rmX5_gap (my_PcTR D vwCl (KT cC cI cJ) sz (wX cC cI cJ h0 h1 h2 h3 h4 h5 h6 h7 u) [.ref h0, .int a0, .int a1, .int a2]) (va_Qi (fun r (_ : Unit) => (∃ z, r = z ∧ res = .inr z)) (fun _ _ => True) (fun q : Nat => sz ≤ q)) (vx_X (fun _ : Unit => True) (fun E _ _ => res = .inl E) (fun q : Nat => sz ≤ q)) 5 30 (fun q : Nat => sz ≤ q) := by
  refine vx_ofW (cc := cX5_gap) (maxL := 4) (ret := (some .int)) (by decide) rfl ?_
  intro p e s m args below meth c s₁ B hml ht hv
  obtain ⟨rfl, hsz, hP, hK, hXK⟩ := hv
  have hx := B.exec
  have hb := B.bytes
  have hr := B.returns
  have hts : ∀ w ∈ wsX5_gap, w.before ([.ref h0, .int a0, .int a1, .int a2] : List Value).toArray s = true := atoms_spec (ws := wsX5_gap) B.pre
  have hown : s.vm.findClass RX5 = some m.cls := findClass_of_methodNamed B.named
  have hlk : meth.locks = false := B.notSynchronized
  subst hsz
  have hS : va_S (fun q : Nat => s.heap.size ≤ q) s.heap s.heap [] := va_S.rf
  have hP : va_P D vwCl [(h0, .inr (4, [.ref h1, .ref h2, .ref h5])), (h1, .inl (cJ, 8, .inr (.inl u.1))), (h2, .inr (3, [.ref h3, .ref h4, .int u.2.1.2.2])), (h3, .inl (cC, 40, .inl u.2.1.1)), (h4, .inl (cI, 40, .inl u.2.1.2.1)), (h5, .inr (2, [.ref h6, .ref h7, .int u.2.2.2.2.1, .int u.2.2.2.2.2])), (h6, .inl (cI, 8, .inl u.2.2.1)), (h7, .inl (cJ, 8, .inr (.inl u.2.2.2.1)))] s.heap := hP
  have q1 := hts (.constant RX5 113 (1000000)) (by decide +kernel)
  have q2 := hts (.fieldLink RX5 9 "Doubleline" "slots" "[J") (by decide +kernel)
  have q3 : ∀ w ∈ u_ws RX5 TX5 3, w ∈ wsX5_gap := by decide +kernel
  have hl := lv_entry ([.ref h0, .int a0, .int a1, .int a2]) (n := 4) (Nat.le_of_ble_eq_true rfl)
  rw [lg_entry_eq]
  generalize (lg_sl ([.ref h0, .int a0, .int a1, .int a2]) ++ List.replicate (4 - (lg_sl ([.ref h0, .int a0, .int a1, .int a2])).length) Slot.unset).toArray = ls at hl ⊢
  have hl : lv_has ls 4 [(0, .ref h0), (1, .int a0), (2, .int a1), (3, .int a2)] := hl
  unfold f_X5_gap at hf
  refine lv_iload_n hx hb dX5_gap_0 rfl (lv_at hl 1 rfl) ?_
  obtain ⟨z1, ez1, xz1, hf⟩ := xb_e hf
  refine my_callT (As := [.int a0]) (n := 1) (rest := []) ⟨hx, hb, hml, hown, hts⟩ ht hlk hXK hS (m_X5_checkSlot l hl0 s.heap.size a0 _ ez1) gX5_gap_X5_checkSlot rfl (by decide +kernel) ⟨rfl, rfl⟩ ⟨Nat.le_of_ble_eq_true rfl, Nat.le_of_ble_eq_true rfl⟩ ⟨Nat.le_of_ble_eq_true rfl, Nat.le_of_ble_eq_true rfl⟩ ⟨Nat.le_of_ble_eq_true rfl, Nat.le_of_ble_eq_true rfl⟩ (fun q h => h) xz1 hl.1 rfl rfl (Nat.le_of_ble_eq_true rfl) dX5_gap_1 (fun u9 H locs qz1 hk1 hS => ?_)
  have hP := my_keep hP hk1
  have hf := hf _ qz1
  refine lv_iload_n hx hb dX5_gap_4 rfl (lv_at hl 2 rfl) ?_
  obtain ⟨z2, ez2, xz2, hf⟩ := xb_e hf
  refine my_callT (As := [.int a1]) (n := 1) (rest := []) ⟨hx, hb, hml, hown, hts⟩ ht hlk hXK hS (m_X5_checkSlot l hl0 H.size a1 _ ez2) gX5_gap_X5_checkSlot rfl (by decide +kernel) ⟨rfl, rfl⟩ ⟨Nat.le_of_ble_eq_true rfl, Nat.le_of_ble_eq_true rfl⟩ ⟨Nat.le_of_ble_eq_true rfl, Nat.le_of_ble_eq_true rfl⟩ ⟨Nat.le_of_ble_eq_true rfl, Nat.le_of_ble_eq_true rfl⟩ (fun q h => h) xz2 hl.1 rfl rfl (Nat.le_of_ble_eq_true rfl) dX5_gap_5 (fun u9 H locs qz2 hk1 hS => ?_)
  have hP := my_keep hP hk1
  have hf := hf _ qz2
  refine lv_iload_n hx hb dX5_gap_8 rfl (lv_at hl 3 rfl) ?_
  refine lv_iconst (v := 1) hx hb dX5_gap_9 (by decide) ?_
  refine lv_ldc (v := 1000000) hx hb hown q1 dX5_gap_10 ?_
  obtain ⟨z3, ez3, xz3, hf⟩ := xb_e hf
  refine my_callT (As := [.int a2, .int 1, .int 1000000]) (n := 3) (rest := []) ⟨hx, hb, hml, hown, hts⟩ ht hlk hXK hS (m_X5_checkRange l hl0 H.size a2 1 1000000 _ ez3) gX5_gap_X5_checkRange rfl (by decide +kernel) ⟨rfl, rfl⟩ ⟨Nat.le_of_ble_eq_true rfl, Nat.le_of_ble_eq_true rfl⟩ ⟨Nat.le_of_ble_eq_true rfl, Nat.le_of_ble_eq_true rfl⟩ ⟨Nat.le_of_ble_eq_true rfl, Nat.le_of_ble_eq_true rfl⟩ (fun q h => h) xz3 hl.1 rfl rfl (Nat.le_of_ble_eq_true rfl) dX5_gap_12 (fun u9 H locs qz3 hk1 hS => ?_)
  have hP := my_keep hP hk1
  have hf := hf _ qz3
  refine lv_aload_n hx hb dX5_gap_15 rfl (lv_at hl 0 rfl) ?_
  refine va_get (D := D) (ci := 4) (v := .ref h1) (C := RX5) (T := TX5) (N := 3) hx hb hts q3 hown hK hP 0 rfl rfl 0 (by decide) q2 (fun _ h9 => h9) rfl dX5_gap_16 ?_
  refine lv_iload_n hx hb dX5_gap_19 rfl (lv_at hl 1 rfl) ?_
  obtain ⟨g4, hf⟩ := og_e hf
  refine va_lald hx hb hK hP 1 2 rfl rfl g4 dX5_gap_20 ?_
  obtain ⟨z5, ez5, xz5, hf⟩ := xb_e hf
  refine my_callT (As := [.long (u.1 a0.toNatClampNeg)]) (n := 1) (rest := []) ⟨hx, hb, hml, hown, hts⟩ ht hlk hXK hS (m_X5_checkHasEnd l hl0 H.size (u.1 a0.toNatClampNeg) _ ez5) gX5_gap_X5_checkHasEnd rfl (by decide +kernel) ⟨rfl, rfl⟩ ⟨Nat.le_of_ble_eq_true rfl, Nat.le_of_ble_eq_true rfl⟩ ⟨Nat.le_of_ble_eq_true rfl, Nat.le_of_ble_eq_true rfl⟩ ⟨Nat.le_of_ble_eq_true rfl, Nat.le_of_ble_eq_true rfl⟩ (fun q h => h) xz5 hl.1 rfl rfl (Nat.le_of_ble_eq_true rfl) dX5_gap_21 (fun u9 H locs qz5 hk1 hS => ?_)
  have hP := my_keep hP hk1
  have hf := hf _ qz5
  refine lv_aload_n hx hb dX5_gap_24 rfl (lv_at hl 0 rfl) ?_
  refine va_get (D := D) (ci := 4) (v := .ref h1) (C := RX5) (T := TX5) (N := 3) hx hb hts q3 hown hK hP 0 rfl rfl 0 (by decide) q2 (fun _ h9 => h9) rfl dX5_gap_25 ?_
  refine lv_iload_n hx hb dX5_gap_28 rfl (lv_at hl 2 rfl) ?_
  obtain ⟨g6, hf⟩ := og_e hf
  refine va_lald hx hb hK hP 1 2 rfl rfl g6 dX5_gap_29 ?_
  obtain ⟨z7, ez7, xz7, hf⟩ := xb_e hf
  refine my_callT (As := [.long (u.1 a1.toNatClampNeg)]) (n := 1) (rest := []) ⟨hx, hb, hml, hown, hts⟩ ht hlk hXK hS (m_X5_checkHasEnd l hl0 H.size (u.1 a1.toNatClampNeg) _ ez7) gX5_gap_X5_checkHasEnd rfl (by decide +kernel) ⟨rfl, rfl⟩ ⟨Nat.le_of_ble_eq_true rfl, Nat.le_of_ble_eq_true rfl⟩ ⟨Nat.le_of_ble_eq_true rfl, Nat.le_of_ble_eq_true rfl⟩ ⟨Nat.le_of_ble_eq_true rfl, Nat.le_of_ble_eq_true rfl⟩ (fun q h => h) xz7 hl.1 rfl rfl (Nat.le_of_ble_eq_true rfl) dX5_gap_30 (fun u9 H locs qz7 hk1 hS => ?_)
  have hP := my_keep hP hk1
  have hf := hf _ qz7
  refine lv_aload_n hx hb dX5_gap_33 rfl (lv_at hl 0 rfl) ?_
  refine va_get (D := D) (ci := 4) (v := .ref h1) (C := RX5) (T := TX5) (N := 3) hx hb hts q3 hown hK hP 0 rfl rfl 0 (by decide) q2 (fun _ h9 => h9) rfl dX5_gap_34 ?_
  refine lv_iload_n hx hb dX5_gap_37 rfl (lv_at hl 1 rfl) ?_
  obtain ⟨g8, hf⟩ := og_e hf
  refine va_lald hx hb hK hP 1 2 rfl rfl g8 dX5_gap_38 ?_
  refine lv_aload_n hx hb dX5_gap_39 rfl (lv_at hl 0 rfl) ?_
  refine va_get (D := D) (ci := 4) (v := .ref h1) (C := RX5) (T := TX5) (N := 3) hx hb hts q3 hown hK hP 0 rfl rfl 0 (by decide) q2 (fun _ h9 => h9) rfl dX5_gap_40 ?_
  refine lv_iload_n hx hb dX5_gap_43 rfl (lv_at hl 2 rfl) ?_
  obtain ⟨g9, hf⟩ := og_e hf
  refine va_lald hx hb hK hP 1 2 rfl rfl g9 dX5_gap_44 ?_
  refine lv_iload_n hx hb dX5_gap_45 rfl (lv_at hl 3 rfl) ?_
  obtain ⟨r10, er10, hf⟩ := ob_e hf
  refine my_callPi (As := [.long (u.1 a0.toNatClampNeg), .long (u.1 a1.toNatClampNeg), .int a2]) (n := 3) (rest := []) ⟨hx, hb, hml, hown, hts⟩ (m_X1_gapRest l (u.1 a0.toNatClampNeg) (u.1 a1.toNatClampNeg) a2 _ er10) gX5_gap_X1_gapRest rfl ⟨rfl, rfl⟩ (by decide +kernel) ⟨Nat.le_of_ble_eq_true rfl, Nat.le_of_ble_eq_true rfl⟩ ⟨Nat.le_of_ble_eq_true rfl, Nat.le_of_ble_eq_true rfl⟩ hl.1 rfl rfl (Nat.le_of_ble_eq_true rfl) dX5_gap_46 ?_
  exact vx_ret (W.iret (v := r10) hx hb hr (fun t ht hW => ⟨⟨r10, (), rfl, ⟨_, rfl, (Option.some.inj hf).symm⟩, trivial⟩, hS.F ht⟩) hS.2.2 dX5_gap_49)

set_option maxHeartbeats 4000000 in
set_option maxRecDepth 100000 in
theorem m_X5_compareGaps (l : Launch) (hl0 : l.stackTraces = false) (D : va_G) (cC cI cJ : ClassId) (h0 h1 h2 h3 h4 h5 h6 h7 : Nat) (u : StX) (sz : Nat) (a0 : Int32) (a1 : Int32) (a2 : Int32) (a3 : Int32) (res : (String ⊕ Int32)) (hf : f_X5_compareGaps u a0 a1 a2 a3 = some res) : vx_Met l yX5_compareGaps wsX5_compareGaps rmX5_compareGaps (my_PcTR D vwCl (KT cC cI cJ) sz (wX cC cI cJ h0 h1 h2 h3 h4 h5 h6 h7 u) [.ref h0, .int a0, .int a1, .int a2, .int a3]) (va_Qi (fun r (_ : Unit) => (∃ z, r = z ∧ res = .inr z)) (fun _ _ => True) (fun q : Nat => sz ≤ q)) (vx_X (fun _ : Unit => True) (fun E _ _ => res = .inl E) (fun q : Nat => sz ≤ q)) 8 48 (fun q : Nat => sz ≤ q) := by
  refine vx_ofW (cc := cX5_compareGaps) (maxL := 5) (ret := (some .int)) (by decide) rfl ?_
  intro p e s m args below meth c s₁ B hml ht hv
  obtain ⟨rfl, hsz, hP, hK, hXK⟩ := hv
  have hx := B.exec
  have hb := B.bytes
  have hr := B.returns
  have hts : ∀ w ∈ wsX5_compareGaps, w.before ([.ref h0, .int a0, .int a1, .int a2, .int a3] : List Value).toArray s = true := atoms_spec (ws := wsX5_compareGaps) B.pre
  have hown : s.vm.findClass RX5 = some m.cls := findClass_of_methodNamed B.named
  have hlk : meth.locks = false := B.notSynchronized
  subst hsz
  have hS : va_S (fun q : Nat => s.heap.size ≤ q) s.heap s.heap [] := va_S.rf
  have hP : va_P D vwCl [(h0, .inr (4, [.ref h1, .ref h2, .ref h5])), (h1, .inl (cJ, 8, .inr (.inl u.1))), (h2, .inr (3, [.ref h3, .ref h4, .int u.2.1.2.2])), (h3, .inl (cC, 40, .inl u.2.1.1)), (h4, .inl (cI, 40, .inl u.2.1.2.1)), (h5, .inr (2, [.ref h6, .ref h7, .int u.2.2.2.2.1, .int u.2.2.2.2.2])), (h6, .inl (cI, 8, .inl u.2.2.1)), (h7, .inl (cJ, 8, .inr (.inl u.2.2.2.1)))] s.heap := hP
  have q1 := hts (.fieldLink RX5 9 "Doubleline" "slots" "[J") (by decide +kernel)
  have q2 : ∀ w ∈ u_ws RX5 TX5 3, w ∈ wsX5_compareGaps := by decide +kernel
  have hl := lv_entry ([.ref h0, .int a0, .int a1, .int a2, .int a3]) (n := 5) (Nat.le_of_ble_eq_true rfl)
  rw [lg_entry_eq]
  generalize (lg_sl ([.ref h0, .int a0, .int a1, .int a2, .int a3]) ++ List.replicate (5 - (lg_sl ([.ref h0, .int a0, .int a1, .int a2, .int a3])).length) Slot.unset).toArray = ls at hl ⊢
  have hl : lv_has ls 5 [(0, .ref h0), (1, .int a0), (2, .int a1), (3, .int a2), (4, .int a3)] := hl
  unfold f_X5_compareGaps at hf
  refine lv_iload_n hx hb dX5_compareGaps_0 rfl (lv_at hl 1 rfl) ?_
  obtain ⟨z1, ez1, xz1, hf⟩ := xb_e hf
  refine my_callT (As := [.int a0]) (n := 1) (rest := []) ⟨hx, hb, hml, hown, hts⟩ ht hlk hXK hS (m_X5_checkSlot l hl0 s.heap.size a0 _ ez1) gX5_compareGaps_X5_checkSlot rfl (by decide +kernel) ⟨rfl, rfl⟩ ⟨Nat.le_of_ble_eq_true rfl, Nat.le_of_ble_eq_true rfl⟩ ⟨Nat.le_of_ble_eq_true rfl, Nat.le_of_ble_eq_true rfl⟩ ⟨Nat.le_of_ble_eq_true rfl, Nat.le_of_ble_eq_true rfl⟩ (fun q h => h) xz1 hl.1 rfl rfl (Nat.le_of_ble_eq_true rfl) dX5_compareGaps_1 (fun u9 H locs qz1 hk1 hS => ?_)
  have hP := my_keep hP hk1
  have hf := hf _ qz1
  refine lv_iload_n hx hb dX5_compareGaps_4 rfl (lv_at hl 2 rfl) ?_
  obtain ⟨z2, ez2, xz2, hf⟩ := xb_e hf
  refine my_callT (As := [.int a1]) (n := 1) (rest := []) ⟨hx, hb, hml, hown, hts⟩ ht hlk hXK hS (m_X5_checkSlot l hl0 H.size a1 _ ez2) gX5_compareGaps_X5_checkSlot rfl (by decide +kernel) ⟨rfl, rfl⟩ ⟨Nat.le_of_ble_eq_true rfl, Nat.le_of_ble_eq_true rfl⟩ ⟨Nat.le_of_ble_eq_true rfl, Nat.le_of_ble_eq_true rfl⟩ ⟨Nat.le_of_ble_eq_true rfl, Nat.le_of_ble_eq_true rfl⟩ (fun q h => h) xz2 hl.1 rfl rfl (Nat.le_of_ble_eq_true rfl) dX5_compareGaps_5 (fun u9 H locs qz2 hk1 hS => ?_)
  have hP := my_keep hP hk1
  have hf := hf _ qz2
  refine lv_iload_n hx hb dX5_compareGaps_8 rfl (lv_at hl 3 rfl) ?_
  obtain ⟨z3, ez3, xz3, hf⟩ := xb_e hf
  refine my_callT (As := [.int a2]) (n := 1) (rest := []) ⟨hx, hb, hml, hown, hts⟩ ht hlk hXK hS (m_X5_checkSlot l hl0 H.size a2 _ ez3) gX5_compareGaps_X5_checkSlot rfl (by decide +kernel) ⟨rfl, rfl⟩ ⟨Nat.le_of_ble_eq_true rfl, Nat.le_of_ble_eq_true rfl⟩ ⟨Nat.le_of_ble_eq_true rfl, Nat.le_of_ble_eq_true rfl⟩ ⟨Nat.le_of_ble_eq_true rfl, Nat.le_of_ble_eq_true rfl⟩ (fun q h => h) xz3 hl.1 rfl rfl (Nat.le_of_ble_eq_true rfl) dX5_compareGaps_9 (fun u9 H locs qz3 hk1 hS => ?_)
  have hP := my_keep hP hk1
  have hf := hf _ qz3
  refine lv_iload hx hb dX5_compareGaps_12 (lv_at hl 4 rfl) ?_
  obtain ⟨z4, ez4, xz4, hf⟩ := xb_e hf
  refine my_callT (As := [.int a3]) (n := 1) (rest := []) ⟨hx, hb, hml, hown, hts⟩ ht hlk hXK hS (m_X5_checkSlot l hl0 H.size a3 _ ez4) gX5_compareGaps_X5_checkSlot rfl (by decide +kernel) ⟨rfl, rfl⟩ ⟨Nat.le_of_ble_eq_true rfl, Nat.le_of_ble_eq_true rfl⟩ ⟨Nat.le_of_ble_eq_true rfl, Nat.le_of_ble_eq_true rfl⟩ ⟨Nat.le_of_ble_eq_true rfl, Nat.le_of_ble_eq_true rfl⟩ (fun q h => h) xz4 hl.1 rfl rfl (Nat.le_of_ble_eq_true rfl) dX5_compareGaps_14 (fun u9 H locs qz4 hk1 hS => ?_)
  have hP := my_keep hP hk1
  have hf := hf _ qz4
  refine lv_aload_n hx hb dX5_compareGaps_17 rfl (lv_at hl 0 rfl) ?_
  refine va_get (D := D) (ci := 4) (v := .ref h1) (C := RX5) (T := TX5) (N := 3) hx hb hts q2 hown hK hP 0 rfl rfl 0 (by decide) q1 (fun _ h9 => h9) rfl dX5_compareGaps_18 ?_
  refine lv_iload_n hx hb dX5_compareGaps_21 rfl (lv_at hl 1 rfl) ?_
  obtain ⟨g5, hf⟩ := og_e hf
  refine va_lald hx hb hK hP 1 2 rfl rfl g5 dX5_compareGaps_22 ?_
  obtain ⟨z6, ez6, xz6, hf⟩ := xb_e hf
  refine my_callT (As := [.long (u.1 a0.toNatClampNeg)]) (n := 1) (rest := []) ⟨hx, hb, hml, hown, hts⟩ ht hlk hXK hS (m_X5_checkHasEnd l hl0 H.size (u.1 a0.toNatClampNeg) _ ez6) gX5_compareGaps_X5_checkHasEnd rfl (by decide +kernel) ⟨rfl, rfl⟩ ⟨Nat.le_of_ble_eq_true rfl, Nat.le_of_ble_eq_true rfl⟩ ⟨Nat.le_of_ble_eq_true rfl, Nat.le_of_ble_eq_true rfl⟩ ⟨Nat.le_of_ble_eq_true rfl, Nat.le_of_ble_eq_true rfl⟩ (fun q h => h) xz6 hl.1 rfl rfl (Nat.le_of_ble_eq_true rfl) dX5_compareGaps_23 (fun u9 H locs qz6 hk1 hS => ?_)
  have hP := my_keep hP hk1
  have hf := hf _ qz6
  refine lv_aload_n hx hb dX5_compareGaps_26 rfl (lv_at hl 0 rfl) ?_
  refine va_get (D := D) (ci := 4) (v := .ref h1) (C := RX5) (T := TX5) (N := 3) hx hb hts q2 hown hK hP 0 rfl rfl 0 (by decide) q1 (fun _ h9 => h9) rfl dX5_compareGaps_27 ?_
  refine lv_iload_n hx hb dX5_compareGaps_30 rfl (lv_at hl 2 rfl) ?_
  obtain ⟨g7, hf⟩ := og_e hf
  refine va_lald hx hb hK hP 1 2 rfl rfl g7 dX5_compareGaps_31 ?_
  obtain ⟨z8, ez8, xz8, hf⟩ := xb_e hf
  refine my_callT (As := [.long (u.1 a1.toNatClampNeg)]) (n := 1) (rest := []) ⟨hx, hb, hml, hown, hts⟩ ht hlk hXK hS (m_X5_checkHasEnd l hl0 H.size (u.1 a1.toNatClampNeg) _ ez8) gX5_compareGaps_X5_checkHasEnd rfl (by decide +kernel) ⟨rfl, rfl⟩ ⟨Nat.le_of_ble_eq_true rfl, Nat.le_of_ble_eq_true rfl⟩ ⟨Nat.le_of_ble_eq_true rfl, Nat.le_of_ble_eq_true rfl⟩ ⟨Nat.le_of_ble_eq_true rfl, Nat.le_of_ble_eq_true rfl⟩ (fun q h => h) xz8 hl.1 rfl rfl (Nat.le_of_ble_eq_true rfl) dX5_compareGaps_32 (fun u9 H locs qz8 hk1 hS => ?_)
  have hP := my_keep hP hk1
  have hf := hf _ qz8
  refine lv_aload_n hx hb dX5_compareGaps_35 rfl (lv_at hl 0 rfl) ?_
  refine va_get (D := D) (ci := 4) (v := .ref h1) (C := RX5) (T := TX5) (N := 3) hx hb hts q2 hown hK hP 0 rfl rfl 0 (by decide) q1 (fun _ h9 => h9) rfl dX5_compareGaps_36 ?_
  refine lv_iload_n hx hb dX5_compareGaps_39 rfl (lv_at hl 3 rfl) ?_
  obtain ⟨g9, hf⟩ := og_e hf
  refine va_lald hx hb hK hP 1 2 rfl rfl g9 dX5_compareGaps_40 ?_
  obtain ⟨z10, ez10, xz10, hf⟩ := xb_e hf
  refine my_callT (As := [.long (u.1 a2.toNatClampNeg)]) (n := 1) (rest := []) ⟨hx, hb, hml, hown, hts⟩ ht hlk hXK hS (m_X5_checkHasEnd l hl0 H.size (u.1 a2.toNatClampNeg) _ ez10) gX5_compareGaps_X5_checkHasEnd rfl (by decide +kernel) ⟨rfl, rfl⟩ ⟨Nat.le_of_ble_eq_true rfl, Nat.le_of_ble_eq_true rfl⟩ ⟨Nat.le_of_ble_eq_true rfl, Nat.le_of_ble_eq_true rfl⟩ ⟨Nat.le_of_ble_eq_true rfl, Nat.le_of_ble_eq_true rfl⟩ (fun q h => h) xz10 hl.1 rfl rfl (Nat.le_of_ble_eq_true rfl) dX5_compareGaps_41 (fun u9 H locs qz10 hk1 hS => ?_)
  have hP := my_keep hP hk1
  have hf := hf _ qz10
  refine lv_aload_n hx hb dX5_compareGaps_44 rfl (lv_at hl 0 rfl) ?_
  refine va_get (D := D) (ci := 4) (v := .ref h1) (C := RX5) (T := TX5) (N := 3) hx hb hts q2 hown hK hP 0 rfl rfl 0 (by decide) q1 (fun _ h9 => h9) rfl dX5_compareGaps_45 ?_
  refine lv_iload hx hb dX5_compareGaps_48 (lv_at hl 4 rfl) ?_
  obtain ⟨g11, hf⟩ := og_e hf
  refine va_lald hx hb hK hP 1 2 rfl rfl g11 dX5_compareGaps_50 ?_
  obtain ⟨z12, ez12, xz12, hf⟩ := xb_e hf
  refine my_callT (As := [.long (u.1 a3.toNatClampNeg)]) (n := 1) (rest := []) ⟨hx, hb, hml, hown, hts⟩ ht hlk hXK hS (m_X5_checkHasEnd l hl0 H.size (u.1 a3.toNatClampNeg) _ ez12) gX5_compareGaps_X5_checkHasEnd rfl (by decide +kernel) ⟨rfl, rfl⟩ ⟨Nat.le_of_ble_eq_true rfl, Nat.le_of_ble_eq_true rfl⟩ ⟨Nat.le_of_ble_eq_true rfl, Nat.le_of_ble_eq_true rfl⟩ ⟨Nat.le_of_ble_eq_true rfl, Nat.le_of_ble_eq_true rfl⟩ (fun q h => h) xz12 hl.1 rfl rfl (Nat.le_of_ble_eq_true rfl) dX5_compareGaps_51 (fun u9 H locs qz12 hk1 hS => ?_)
  have hP := my_keep hP hk1
  have hf := hf _ qz12
  refine lv_aload_n hx hb dX5_compareGaps_54 rfl (lv_at hl 0 rfl) ?_
  refine va_get (D := D) (ci := 4) (v := .ref h1) (C := RX5) (T := TX5) (N := 3) hx hb hts q2 hown hK hP 0 rfl rfl 0 (by decide) q1 (fun _ h9 => h9) rfl dX5_compareGaps_55 ?_
  refine lv_iload_n hx hb dX5_compareGaps_58 rfl (lv_at hl 1 rfl) ?_
  obtain ⟨g13, hf⟩ := og_e hf
  refine va_lald hx hb hK hP 1 2 rfl rfl g13 dX5_compareGaps_59 ?_
  refine lv_aload_n hx hb dX5_compareGaps_60 rfl (lv_at hl 0 rfl) ?_
  refine va_get (D := D) (ci := 4) (v := .ref h1) (C := RX5) (T := TX5) (N := 3) hx hb hts q2 hown hK hP 0 rfl rfl 0 (by decide) q1 (fun _ h9 => h9) rfl dX5_compareGaps_61 ?_
  refine lv_iload_n hx hb dX5_compareGaps_64 rfl (lv_at hl 2 rfl) ?_
  obtain ⟨g14, hf⟩ := og_e hf
  refine va_lald hx hb hK hP 1 2 rfl rfl g14 dX5_compareGaps_65 ?_
  refine lv_aload_n hx hb dX5_compareGaps_66 rfl (lv_at hl 0 rfl) ?_
  refine va_get (D := D) (ci := 4) (v := .ref h1) (C := RX5) (T := TX5) (N := 3) hx hb hts q2 hown hK hP 0 rfl rfl 0 (by decide) q1 (fun _ h9 => h9) rfl dX5_compareGaps_67 ?_
  refine lv_iload_n hx hb dX5_compareGaps_70 rfl (lv_at hl 3 rfl) ?_
  obtain ⟨g15, hf⟩ := og_e hf
  refine va_lald hx hb hK hP 1 2 rfl rfl g15 dX5_compareGaps_71 ?_
  refine lv_aload_n hx hb dX5_compareGaps_72 rfl (lv_at hl 0 rfl) ?_
  refine va_get (D := D) (ci := 4) (v := .ref h1) (C := RX5) (T := TX5) (N := 3) hx hb hts q2 hown hK hP 0 rfl rfl 0 (by decide) q1 (fun _ h9 => h9) rfl dX5_compareGaps_73 ?_
  refine lv_iload hx hb dX5_compareGaps_76 (lv_at hl 4 rfl) ?_
  obtain ⟨g16, hf⟩ := og_e hf
  refine va_lald hx hb hK hP 1 2 rfl rfl g16 dX5_compareGaps_78 ?_
  obtain ⟨r17, er17, hf⟩ := ob_e hf
  refine my_callPi (As := [.long (u.1 a0.toNatClampNeg), .long (u.1 a1.toNatClampNeg), .long (u.1 a2.toNatClampNeg), .long (u.1 a3.toNatClampNeg)]) (n := 4) (rest := []) ⟨hx, hb, hml, hown, hts⟩ (m_X1_orderOfGaps l (u.1 a0.toNatClampNeg) (u.1 a1.toNatClampNeg) (u.1 a2.toNatClampNeg) (u.1 a3.toNatClampNeg) _ er17) gX5_compareGaps_X1_orderOfGaps rfl ⟨rfl, rfl⟩ (by decide +kernel) ⟨Nat.le_of_ble_eq_true rfl, Nat.le_of_ble_eq_true rfl⟩ ⟨Nat.le_of_ble_eq_true rfl, Nat.le_of_ble_eq_true rfl⟩ hl.1 rfl rfl (Nat.le_of_ble_eq_true rfl) dX5_compareGaps_79 ?_
  exact vx_ret (W.iret (v := r17) hx hb hr (fun t ht hW => ⟨⟨r17, (), rfl, ⟨_, rfl, (Option.some.inj hf).symm⟩, trivial⟩, hS.F ht⟩) hS.2.2 dX5_compareGaps_82)

set_option maxHeartbeats 4000000 in
set_option maxRecDepth 100000 in
theorem m_X5_say (l : Launch) (hl0 : l.stackTraces = false) (D : va_G) (cC cI cJ : ClassId) (h0 h1 h2 h3 h4 h5 h6 h7 : Nat) (u : StX) (sz : Nat) (a0 : Int32) (a1 : Int32) (res : (String ⊕ (Int32 × StX))) (hf : f_X5_say u a0 a1 = some res) : vx_Met l yX5_say wsX5_say rmX5_say (my_PcTM D vwCl (KT cC cI cJ) sz (wX cC cI cJ h0 h1 h2 h3 h4 h5 h6 h7 u) [.ref h0, .int a0, .int a1]) (va_Qi (fun r v => ∃ z, r = z.1 ∧ v = z.2 ∧ res = .inr z) (my_B D vwCl (KT cC cI cJ) (va_A (wX cC cI cJ h0 h1 h2 h3 h4 h5 h6 h7 u) sz) (fun v : StX => (wX cC cI cJ h0 h1 h2 h3 h4 h5 h6 h7 v))) (va_A (wX cC cI cJ h0 h1 h2 h3 h4 h5 h6 h7 u) sz)) (vx_X (fun _ : Unit => True) (fun E _ _ => res = .inl E) (fun q : Nat => sz ≤ q)) 1 6 (va_A (wX cC cI cJ h0 h1 h2 h3 h4 h5 h6 h7 u) sz) := by
  refine vx_ofW (cc := cX5_say) (maxL := 3) (ret := (some .int)) (by decide) rfl ?_
  intro p e s m args below meth c s₁ B hml ht hv
  obtain ⟨rfl, hsz, hP, hK, hD0, hXK⟩ := hv
  have hx := B.exec
  have hb := B.bytes
  have hr := B.returns
  have hts : ∀ w ∈ wsX5_say, w.before ([.ref h0, .int a0, .int a1] : List Value).toArray s = true := atoms_spec (ws := wsX5_say) B.pre
  have hown : s.vm.findClass RX5 = some m.cls := findClass_of_methodNamed B.named
  have hlk : meth.locks = false := B.notSynchronized
  subst hsz
  have hD := hD0.self (sz := s.heap.size)
  generalize hAe : va_A (wX cC cI cJ h0 h1 h2 h3 h4 h5 h6 h7 u) s.heap.size = A at hD ⊢
  have hA : ∀ q : Nat, s.heap.size ≤ q → A q := fun q h => by rw [← hAe]; exact Or.inr h
  have hS : va_S (fun q : Nat => s.heap.size ≤ q) s.heap s.heap [] := va_S.rf
  have hP : va_P D vwCl [(h0, .inr (4, [.ref h1, .ref h2, .ref h5])), (h1, .inl (cJ, 8, .inr (.inl u.1))), (h2, .inr (3, [.ref h3, .ref h4, .int u.2.1.2.2])), (h3, .inl (cC, 40, .inl u.2.1.1)), (h4, .inl (cI, 40, .inl u.2.1.2.1)), (h5, .inr (2, [.ref h6, .ref h7, .int u.2.2.2.2.1, .int u.2.2.2.2.2])), (h6, .inl (cI, 8, .inl u.2.2.1)), (h7, .inl (cJ, 8, .inr (.inl u.2.2.2.1)))] s.heap := hP
  have hD : va_D A [(h0, .inr (4, [.ref h1, .ref h2, .ref h5])), (h1, .inl (cJ, 8, .inr (.inl u.1))), (h2, .inr (3, [.ref h3, .ref h4, .int u.2.1.2.2])), (h3, .inl (cC, 40, .inl u.2.1.1)), (h4, .inl (cI, 40, .inl u.2.1.2.1)), (h5, .inr (2, [.ref h6, .ref h7, .int u.2.2.2.2.1, .int u.2.2.2.2.2])), (h6, .inl (cI, 8, .inl u.2.2.1)), (h7, .inl (cJ, 8, .inr (.inl u.2.2.2.1)))] := hD
  have q1 := hts (.fieldLink RX5 16 "Doubleline" "row" "LDoubleline$Row;") (by decide +kernel)
  have q2 : ∀ w ∈ u_ws RX5 TX5 3, w ∈ wsX5_say := by decide +kernel
  have q3 := hts (.classLink RX5 146 "java/lang/IllegalStateException") (by decide +kernel)
  have q4 := hts (.initialized "java/lang/IllegalStateException") (by decide +kernel)
  have q5 : ∀ w ∈ (vx_atS RX5 150 "java/lang/IllegalStateException" ["java/lang/RuntimeException", "java/lang/Exception"]).filter goodWord, w.before ([.ref h0, .int a0, .int a1] : List Value).toArray s = true := fun w h => hts w (List.mem_cons_of_mem _ (List.mem_append_left _ (List.mem_append_right _ h)))
  have q6 := hts (.classLink RX5 135 "java/lang/IllegalArgumentException") (by decide +kernel)
  have q7 := hts (.initialized "java/lang/IllegalArgumentException") (by decide +kernel)
  have q8 : ∀ w ∈ (vx_atS RX5 139 "java/lang/IllegalArgumentException" ["java/lang/RuntimeException", "java/lang/Exception"]).filter goodWord, w.before ([.ref h0, .int a0, .int a1] : List Value).toArray s = true := fun w h => hts w (List.mem_cons_of_mem _ (List.mem_append_left _ (List.mem_append_left _ (List.mem_append_right _ h))))
  have hl := lv_entry ([.ref h0, .int a0, .int a1]) (n := 3) (Nat.le_of_ble_eq_true rfl)
  rw [lg_entry_eq]
  generalize (lg_sl ([.ref h0, .int a0, .int a1]) ++ List.replicate (3 - (lg_sl ([.ref h0, .int a0, .int a1])).length) Slot.unset).toArray = ls at hl ⊢
  have hl : lv_has ls 3 [(0, .ref h0), (1, .int a0), (2, .int a1)] := hl
  unfold f_X5_say at hf
  refine lv_iload_n hx hb dX5_say_0 rfl (lv_at hl 1 rfl) ?_
  refine lv_iload_n hx hb dX5_say_1 rfl (lv_at hl 2 rfl) ?_
  refine my_callPi (As := [.int a0, .int a1]) (n := 2) (rest := []) ⟨hx, hb, hml, hown, hts⟩ (m_X3_isWord l a0 a1 _ rfl) gX5_say_X3_isWord rfl ⟨rfl, rfl⟩ (by decide +kernel) ⟨Nat.le_of_ble_eq_true rfl, Nat.le_of_ble_eq_true rfl⟩ ⟨Nat.le_of_ble_eq_true rfl, Nat.le_of_ble_eq_true rfl⟩ hl.1 rfl rfl (Nat.le_of_ble_eq_true rfl) dX5_say_2 ?_
  refine my_bz_ne (x := (f_X3_isWord a0 a1)) (tgt := 18) hx hb dX5_say_5 (by decide) (fun c1 => ?_) (fun c1 => ?_)
  · rw [if_neg c1] at hf
    refine lv_aload_n hx hb dX5_say_18 rfl (lv_at hl 0 rfl) ?_
    refine va_get (D := D) (ci := 4) (v := .ref h2) (C := RX5) (T := TX5) (N := 3) hx hb hts q2 hown hK hP 0 rfl rfl 1 (by decide) q1 (fun _ h9 => h9) rfl dX5_say_19 ?_
    refine my_callRi (As := []) (n := 0) (rest := []) ⟨hx, hb, hml, hown, hts⟩ hK (hP.sub (ws' := (wR cC cI h2 h3 h4 u.2.1)) [2, 3, 4] rfl) (m_X3_isFull l D cC cI cJ h2 h3 h4 u.2.1 _ rfl) gX5_say_X3_isFull rfl ⟨rfl, rfl⟩ (ci := 3) rfl rfl (by decide +kernel) ⟨Nat.le_of_ble_eq_true rfl, Nat.le_of_ble_eq_true rfl⟩ ⟨Nat.le_of_ble_eq_true rfl, Nat.le_of_ble_eq_true rfl⟩ hl.1 rfl rfl (Nat.le_of_ble_eq_true rfl) dX5_say_22 ?_
    refine my_bz_eq (x := (f_X3_isFull u.2.1)) (tgt := 38) hx hb dX5_say_25 (by decide) (fun c2 => ?_) (fun c2 => ?_)
    · rw [if_pos c2] at hf
      refine lv_aload_n hx hb dX5_say_38 rfl (lv_at hl 0 rfl) ?_
      refine va_get (D := D) (ci := 4) (v := .ref h2) (C := RX5) (T := TX5) (N := 3) hx hb hts q2 hown hK hP 0 rfl rfl 1 (by decide) q1 (fun _ h9 => h9) rfl dX5_say_39 ?_
      refine lv_iload_n hx hb dX5_say_42 rfl (lv_at hl 1 rfl) ?_
      refine lv_iload_n hx hb dX5_say_43 rfl (lv_at hl 2 rfl) ?_
      obtain ⟨z3, ez3, hf⟩ := ob_e hf
      have hS := my_weak hS hA
      refine my_callMv (As := [.int a0, .int a1]) (n := 2) (rest := []) (wr := [(h0, .inr (4, [.ref h1, .ref h2, .ref h5])), (h1, .inl (cJ, 8, .inr (.inl u.1))), (h5, .inr (2, [.ref h6, .ref h7, .int u.2.2.2.2.1, .int u.2.2.2.2.2])), (h6, .inl (cI, 8, .inl u.2.2.1)), (h7, .inl (cJ, 8, .inr (.inl u.2.2.2.1)))]) ⟨hx, hb, hml, hown, hts⟩ hK hP hD hS hA [2, 3, 4] [0, 1, 5, 6, 7] rfl rfl (by decide) (by decide) (by decide) (m_X3_add l D cC cI cJ h2 h3 h4 u.2.1 s.heap.size a0 a1 _ ez3) gX5_say_X3_add rfl ⟨rfl, rfl⟩ (ci := 3) rfl rfl (by decide +kernel) ⟨Nat.le_of_ble_eq_true rfl, Nat.le_of_ble_eq_true rfl⟩ ⟨Nat.le_of_ble_eq_true rfl, Nat.le_of_ble_eq_true rfl⟩ hl.1 rfl rfl (Nat.le_of_ble_eq_true rfl) dX5_say_44 (fun u9 H locs hw hP hD hS => ?_)
      obtain rfl := hw.symm
      have hP : va_P D vwCl [(h0, .inr (4, [.ref h1, .ref h2, .ref h5])), (h1, .inl (cJ, 8, .inr (.inl u.1))), (h2, .inr (3, [.ref h3, .ref h4, .int z3.2.2])), (h3, .inl (cC, 40, .inl z3.1)), (h4, .inl (cI, 40, .inl z3.2.1)), (h5, .inr (2, [.ref h6, .ref h7, .int u.2.2.2.2.1, .int u.2.2.2.2.2])), (h6, .inl (cI, 8, .inl u.2.2.1)), (h7, .inl (cJ, 8, .inr (.inl u.2.2.2.1)))] H := hP.sub [0, 1, 5, 6, 7, 2, 3, 4] rfl
      have hD : va_D A [(h0, .inr (4, [.ref h1, .ref h2, .ref h5])), (h1, .inl (cJ, 8, .inr (.inl u.1))), (h2, .inr (3, [.ref h3, .ref h4, .int z3.2.2])), (h3, .inl (cC, 40, .inl z3.1)), (h4, .inl (cI, 40, .inl z3.2.1)), (h5, .inr (2, [.ref h6, .ref h7, .int u.2.2.2.2.1, .int u.2.2.2.2.2])), (h6, .inl (cI, 8, .inl u.2.2.1)), (h7, .inl (cJ, 8, .inr (.inl u.2.2.2.1)))] := hD.sub [0, 1, 5, 6, 7, 2, 3, 4] (by decide) rfl
      refine lv_aload_n hx hb dX5_say_47 rfl (lv_at hl 0 rfl) ?_
      refine va_get (D := D) (ci := 4) (v := .ref h2) (C := RX5) (T := TX5) (N := 3) hx hb hts q2 hown hK hP 0 rfl rfl 1 (by decide) q1 (fun _ h9 => h9) rfl dX5_say_48 ?_
      refine my_callRi (As := []) (n := 0) (rest := []) ⟨hx, hb, hml, hown, hts⟩ hK (hP.sub (ws' := (wR cC cI h2 h3 h4 z3)) [2, 3, 4] rfl) (m_X3_size l D cC cI cJ h2 h3 h4 z3 _ rfl) gX5_say_X3_size rfl ⟨rfl, rfl⟩ (ci := 3) rfl rfl (by decide +kernel) ⟨Nat.le_of_ble_eq_true rfl, Nat.le_of_ble_eq_true rfl⟩ ⟨Nat.le_of_ble_eq_true rfl, Nat.le_of_ble_eq_true rfl⟩ hl.1 rfl rfl (Nat.le_of_ble_eq_true rfl) dX5_say_51 ?_
      refine W.widen (k := 1) (n := 6) (Nat.le_of_ble_eq_true rfl) (Nat.le_of_ble_eq_true rfl) ?_
      have hP9 : va_P D vwCl (wX cC cI cJ h0 h1 h2 h3 h4 h5 h6 h7 (u.1, (z3, u.2.2))) _ := hP
      have hD9 : va_D A (wX cC cI cJ h0 h1 h2 h3 h4 h5 h6 h7 (u.1, (z3, u.2.2))) := hD
      exact vx_ret (W.iret (v := (f_X3_size z3)) hx hb hr (fun t ht hW => ⟨⟨(f_X3_size z3), (u.1, (z3, u.2.2)), rfl, ⟨((f_X3_size z3), (u.1, (z3, u.2.2))), rfl, rfl, (Option.some.inj hf).symm⟩, by rw [ht]; exact hP9, va_K.moved hW.alike hK, hD9⟩, hS.F ht⟩) hS.2.2 dX5_say_54)
    · rw [if_neg c2] at hf
      exact my_throwG (ik := 146) (is := 148) (ic := 150) (cls := "java/lang/IllegalStateException") (text := "the row is full") hx hb hl0 hown q3 q4 q5 hXK rfl (by decide) (by decide) (by decide +kernel) (by decide +kernel) hS (hl.1.trans hml.symm) dX5_say_28 dX5_say_31 dX5_say_32 dX5_say_34 dX5_say_37 ht ⟨Nat.le_of_ble_eq_true rfl, Nat.le_of_ble_eq_true rfl, Nat.le_of_ble_eq_true rfl, Nat.le_of_ble_eq_true rfl⟩ hlk (Option.some.inj hf).symm (fun q h => hA q h) (Nat.le_of_ble_eq_true rfl) (Nat.le_of_ble_eq_true rfl)
  · rw [if_pos c1] at hf
    exact my_throwG (ik := 135) (is := 137) (ic := 139) (cls := "java/lang/IllegalArgumentException") (text := "no such word") hx hb hl0 hown q6 q7 q8 hXK rfl (by decide) (by decide) (by decide +kernel) (by decide +kernel) hS (hl.1.trans hml.symm) dX5_say_8 dX5_say_11 dX5_say_12 dX5_say_14 dX5_say_17 ht ⟨Nat.le_of_ble_eq_true rfl, Nat.le_of_ble_eq_true rfl, Nat.le_of_ble_eq_true rfl, Nat.le_of_ble_eq_true rfl⟩ hlk (Option.some.inj hf).symm (fun q h => hA q h) (Nat.le_of_ble_eq_true rfl) (Nat.le_of_ble_eq_true rfl)

set_option maxHeartbeats 4000000 in
set_option maxRecDepth 100000 in
theorem m_X5_play (l : Launch) (hl0 : l.stackTraces = false) (D : va_G) (cC cI cJ : ClassId) (h0 h1 h2 h3 h4 h5 h6 h7 : Nat) (u : StX) (sz : Nat) (a0 : Int32) (a1 : Int32) (res : (String ⊕ (Int64 × StX))) (hf : f_X5_play u a0 a1 = some res) : vx_Met l yX5_play wsX5_play rmX5_play (my_PcTM D vwCl (KT cC cI cJ) sz (wX cC cI cJ h0 h1 h2 h3 h4 h5 h6 h7 u) [.ref h0, .int a0, .int a1]) (va_Ql (fun r v => ∃ z, r = z.1 ∧ v = z.2 ∧ res = .inr z) (my_B D vwCl (KT cC cI cJ) (va_A (wX cC cI cJ h0 h1 h2 h3 h4 h5 h6 h7 u) sz) (fun v : StX => (wX cC cI cJ h0 h1 h2 h3 h4 h5 h6 h7 v))) (va_A (wX cC cI cJ h0 h1 h2 h3 h4 h5 h6 h7 u) sz)) (vx_X (fun _ : Unit => True) (fun E _ _ => res = .inl E) (fun q : Nat => sz ≤ q)) 2 12 (va_A (wX cC cI cJ h0 h1 h2 h3 h4 h5 h6 h7 u) sz) := by
  refine vx_ofW (cc := cX5_play) (maxL := 3) (ret := (some .long)) (by decide) rfl ?_
  intro p e s m args below meth c s₁ B hml ht hv
  obtain ⟨rfl, hsz, hP, hK, hD0, hXK⟩ := hv
  have hx := B.exec
  have hb := B.bytes
  have hr := B.returns
  have hts : ∀ w ∈ wsX5_play, w.before ([.ref h0, .int a0, .int a1] : List Value).toArray s = true := atoms_spec (ws := wsX5_play) B.pre
  have hown : s.vm.findClass RX5 = some m.cls := findClass_of_methodNamed B.named
  have hlk : meth.locks = false := B.notSynchronized
  subst hsz
  have hD := hD0.self (sz := s.heap.size)
  generalize hAe : va_A (wX cC cI cJ h0 h1 h2 h3 h4 h5 h6 h7 u) s.heap.size = A at hD ⊢
  have hA : ∀ q : Nat, s.heap.size ≤ q → A q := fun q h => by rw [← hAe]; exact Or.inr h
  have hS : va_S (fun q : Nat => s.heap.size ≤ q) s.heap s.heap [] := va_S.rf
  have hP : va_P D vwCl [(h0, .inr (4, [.ref h1, .ref h2, .ref h5])), (h1, .inl (cJ, 8, .inr (.inl u.1))), (h2, .inr (3, [.ref h3, .ref h4, .int u.2.1.2.2])), (h3, .inl (cC, 40, .inl u.2.1.1)), (h4, .inl (cI, 40, .inl u.2.1.2.1)), (h5, .inr (2, [.ref h6, .ref h7, .int u.2.2.2.2.1, .int u.2.2.2.2.2])), (h6, .inl (cI, 8, .inl u.2.2.1)), (h7, .inl (cJ, 8, .inr (.inl u.2.2.2.1)))] s.heap := hP
  have hD : va_D A [(h0, .inr (4, [.ref h1, .ref h2, .ref h5])), (h1, .inl (cJ, 8, .inr (.inl u.1))), (h2, .inr (3, [.ref h3, .ref h4, .int u.2.1.2.2])), (h3, .inl (cC, 40, .inl u.2.1.1)), (h4, .inl (cI, 40, .inl u.2.1.2.1)), (h5, .inr (2, [.ref h6, .ref h7, .int u.2.2.2.2.1, .int u.2.2.2.2.2])), (h6, .inl (cI, 8, .inl u.2.2.1)), (h7, .inl (cJ, 8, .inr (.inl u.2.2.2.1)))] := hD
  have q1 := hts (.fieldLink RX5 16 "Doubleline" "row" "LDoubleline$Row;") (by decide +kernel)
  have q2 : ∀ w ∈ u_ws RX5 TX5 3, w ∈ wsX5_play := by decide +kernel
  have q3 := hts (.fieldLink RX5 9 "Doubleline" "slots" "[J") (by decide +kernel)
  have hl := lv_entry ([.ref h0, .int a0, .int a1]) (n := 3) (Nat.le_of_ble_eq_true rfl)
  rw [lg_entry_eq]
  generalize (lg_sl ([.ref h0, .int a0, .int a1]) ++ List.replicate (3 - (lg_sl ([.ref h0, .int a0, .int a1])).length) Slot.unset).toArray = ls at hl ⊢
  have hl : lv_has ls 3 [(0, .ref h0), (1, .int a0), (2, .int a1)] := hl
  unfold f_X5_play at hf
  refine lv_iload_n hx hb dX5_play_0 rfl (lv_at hl 1 rfl) ?_
  obtain ⟨z1, ez1, xz1, hf⟩ := xb_e hf
  refine my_callT (As := [.int a0]) (n := 1) (rest := []) ⟨hx, hb, hml, hown, hts⟩ ht hlk hXK hS (m_X5_checkSlot l hl0 s.heap.size a0 _ ez1) gX5_play_X5_checkSlot rfl (by decide +kernel) ⟨rfl, rfl⟩ ⟨Nat.le_of_ble_eq_true rfl, Nat.le_of_ble_eq_true rfl⟩ ⟨Nat.le_of_ble_eq_true rfl, Nat.le_of_ble_eq_true rfl⟩ ⟨Nat.le_of_ble_eq_true rfl, Nat.le_of_ble_eq_true rfl⟩ (fun q h => hA q h) xz1 hl.1 rfl rfl (Nat.le_of_ble_eq_true rfl) dX5_play_1 (fun u9 H locs qz1 hk1 hS => ?_)
  have hP := my_keep hP hk1
  have hf := hf _ qz1
  refine lv_iload_n hx hb dX5_play_4 rfl (lv_at hl 2 rfl) ?_
  obtain ⟨z2, ez2, xz2, hf⟩ := xb_e hf
  refine my_callT (As := [.int a1]) (n := 1) (rest := []) ⟨hx, hb, hml, hown, hts⟩ ht hlk hXK hS (m_X5_checkSlot l hl0 H.size a1 _ ez2) gX5_play_X5_checkSlot rfl (by decide +kernel) ⟨rfl, rfl⟩ ⟨Nat.le_of_ble_eq_true rfl, Nat.le_of_ble_eq_true rfl⟩ ⟨Nat.le_of_ble_eq_true rfl, Nat.le_of_ble_eq_true rfl⟩ ⟨Nat.le_of_ble_eq_true rfl, Nat.le_of_ble_eq_true rfl⟩ (fun q h => hA q h) xz2 hl.1 rfl rfl (Nat.le_of_ble_eq_true rfl) dX5_play_5 (fun u9 H locs qz2 hk1 hS => ?_)
  have hP := my_keep hP hk1
  have hf := hf _ qz2
  refine lv_aload_n hx hb dX5_play_8 rfl (lv_at hl 0 rfl) ?_
  refine lv_iload_n hx hb dX5_play_9 rfl (lv_at hl 2 rfl) ?_
  refine lv_aload_n hx hb dX5_play_10 rfl (lv_at hl 0 rfl) ?_
  refine va_get (D := D) (ci := 4) (v := .ref h2) (C := RX5) (T := TX5) (N := 3) hx hb hts q2 hown hK hP 0 rfl rfl 1 (by decide) q1 (fun _ h9 => h9) rfl dX5_play_11 ?_
  refine lv_aload_n hx hb dX5_play_14 rfl (lv_at hl 0 rfl) ?_
  refine va_get (D := D) (ci := 4) (v := .ref h1) (C := RX5) (T := TX5) (N := 3) hx hb hts q2 hown hK hP 0 rfl rfl 0 (by decide) q3 (fun _ h9 => h9) rfl dX5_play_15 ?_
  refine lv_iload_n hx hb dX5_play_18 rfl (lv_at hl 1 rfl) ?_
  obtain ⟨g3, hf⟩ := og_e hf
  refine va_lald hx hb hK hP 1 2 rfl rfl g3 dX5_play_19 ?_
  obtain ⟨r4, er4, hf⟩ := ob_e hf
  refine my_callRl (As := [.long (u.1 a0.toNatClampNeg)]) (n := 1) (rest := [.int a1, .ref h0]) ⟨hx, hb, hml, hown, hts⟩ hK (hP.sub (ws' := (wR cC cI h2 h3 h4 u.2.1)) [2, 3, 4] rfl) (m_X3_playedOn l D cC cI cJ h2 h3 h4 u.2.1 (u.1 a0.toNatClampNeg) _ er4) gX5_play_X3_playedOn rfl ⟨rfl, rfl⟩ (ci := 3) rfl rfl (by decide +kernel) ⟨Nat.le_of_ble_eq_true rfl, Nat.le_of_ble_eq_true rfl⟩ ⟨Nat.le_of_ble_eq_true rfl, Nat.le_of_ble_eq_true rfl⟩ hl.1 rfl rfl (Nat.le_of_ble_eq_true rfl) dX5_play_20 ?_
  obtain ⟨z5, ez5, hf⟩ := ob_e hf
  have hS := my_weak hS hA
  refine my_callMl (As := [.int a1, .long r4]) (n := 2) (rest := []) (wr := []) ⟨hx, hb, hml, hown, hts⟩ hK hP hD hS hA [0, 1, 2, 3, 4, 5, 6, 7] [] rfl rfl (by decide) (by decide) (by decide) (m_X5_become l D cC cI cJ h0 h1 h2 h3 h4 h5 h6 h7 u H.size a1 r4 _ ez5) gX5_play_X5_become rfl ⟨rfl, rfl⟩ (ci := 4) rfl rfl (by decide +kernel) ⟨Nat.le_of_ble_eq_true rfl, Nat.le_of_ble_eq_true rfl⟩ ⟨Nat.le_of_ble_eq_true rfl, Nat.le_of_ble_eq_true rfl⟩ hl.1 rfl rfl (Nat.le_of_ble_eq_true rfl) dX5_play_23 (fun r9 u9 H locs hw hP hD hS => ?_)
  obtain ⟨rfl, rfl⟩ := hw
  have hP : va_P D vwCl [(h0, .inr (4, [.ref h1, .ref h2, .ref h5])), (h1, .inl (cJ, 8, .inr (.inl z5.2.1))), (h2, .inr (3, [.ref h3, .ref h4, .int z5.2.2.1.2.2])), (h3, .inl (cC, 40, .inl z5.2.2.1.1)), (h4, .inl (cI, 40, .inl z5.2.2.1.2.1)), (h5, .inr (2, [.ref h6, .ref h7, .int z5.2.2.2.2.2.1, .int z5.2.2.2.2.2.2])), (h6, .inl (cI, 8, .inl z5.2.2.2.1)), (h7, .inl (cJ, 8, .inr (.inl z5.2.2.2.2.1)))] H := hP.sub [0, 1, 2, 3, 4, 5, 6, 7] rfl
  have hD : va_D A [(h0, .inr (4, [.ref h1, .ref h2, .ref h5])), (h1, .inl (cJ, 8, .inr (.inl z5.2.1))), (h2, .inr (3, [.ref h3, .ref h4, .int z5.2.2.1.2.2])), (h3, .inl (cC, 40, .inl z5.2.2.1.1)), (h4, .inl (cI, 40, .inl z5.2.2.1.2.1)), (h5, .inr (2, [.ref h6, .ref h7, .int z5.2.2.2.2.2.1, .int z5.2.2.2.2.2.2])), (h6, .inl (cI, 8, .inl z5.2.2.2.1)), (h7, .inl (cJ, 8, .inr (.inl z5.2.2.2.2.1)))] := hD.sub [0, 1, 2, 3, 4, 5, 6, 7] (by decide) rfl
  have hP9 : va_P D vwCl (wX cC cI cJ h0 h1 h2 h3 h4 h5 h6 h7 z5.2) _ := hP
  have hD9 : va_D A (wX cC cI cJ h0 h1 h2 h3 h4 h5 h6 h7 z5.2) := hD
  exact vx_ret (W.lret (v := z5.1) hx hb hr (fun t ht hW => ⟨⟨z5.1, z5.2, rfl, ⟨(z5.1, z5.2), rfl, rfl, (Option.some.inj hf).symm⟩, by rw [ht]; exact hP9, va_K.moved hW.alike hK, hD9⟩, hS.F ht⟩) hS.2.2 dX5_play_26)

set_option maxHeartbeats 4000000 in
set_option maxRecDepth 100000 in
theorem m_X5_playBack (l : Launch) (hl0 : l.stackTraces = false) (D : va_G) (cC cI cJ : ClassId) (h0 h1 h2 h3 h4 h5 h6 h7 : Nat) (u : StX) (sz : Nat) (a0 : Int32) (a1 : Int32) (res : (String ⊕ (Int64 × StX))) (hf : f_X5_playBack u a0 a1 = some res) : vx_Met l yX5_playBack wsX5_playBack rmX5_playBack (my_PcTM D vwCl (KT cC cI cJ) sz (wX cC cI cJ h0 h1 h2 h3 h4 h5 h6 h7 u) [.ref h0, .int a0, .int a1]) (va_Ql (fun r v => ∃ z, r = z.1 ∧ v = z.2 ∧ res = .inr z) (my_B D vwCl (KT cC cI cJ) (va_A (wX cC cI cJ h0 h1 h2 h3 h4 h5 h6 h7 u) sz) (fun v : StX => (wX cC cI cJ h0 h1 h2 h3 h4 h5 h6 h7 v))) (va_A (wX cC cI cJ h0 h1 h2 h3 h4 h5 h6 h7 u) sz)) (vx_X (fun _ : Unit => True) (fun E _ _ => res = .inl E) (fun q : Nat => sz ≤ q)) 2 12 (va_A (wX cC cI cJ h0 h1 h2 h3 h4 h5 h6 h7 u) sz) := by
  refine vx_ofW (cc := cX5_playBack) (maxL := 3) (ret := (some .long)) (by decide) rfl ?_
  intro p e s m args below meth c s₁ B hml ht hv
  obtain ⟨rfl, hsz, hP, hK, hD0, hXK⟩ := hv
  have hx := B.exec
  have hb := B.bytes
  have hr := B.returns
  have hts : ∀ w ∈ wsX5_playBack, w.before ([.ref h0, .int a0, .int a1] : List Value).toArray s = true := atoms_spec (ws := wsX5_playBack) B.pre
  have hown : s.vm.findClass RX5 = some m.cls := findClass_of_methodNamed B.named
  have hlk : meth.locks = false := B.notSynchronized
  subst hsz
  have hD := hD0.self (sz := s.heap.size)
  generalize hAe : va_A (wX cC cI cJ h0 h1 h2 h3 h4 h5 h6 h7 u) s.heap.size = A at hD ⊢
  have hA : ∀ q : Nat, s.heap.size ≤ q → A q := fun q h => by rw [← hAe]; exact Or.inr h
  have hS : va_S (fun q : Nat => s.heap.size ≤ q) s.heap s.heap [] := va_S.rf
  have hP : va_P D vwCl [(h0, .inr (4, [.ref h1, .ref h2, .ref h5])), (h1, .inl (cJ, 8, .inr (.inl u.1))), (h2, .inr (3, [.ref h3, .ref h4, .int u.2.1.2.2])), (h3, .inl (cC, 40, .inl u.2.1.1)), (h4, .inl (cI, 40, .inl u.2.1.2.1)), (h5, .inr (2, [.ref h6, .ref h7, .int u.2.2.2.2.1, .int u.2.2.2.2.2])), (h6, .inl (cI, 8, .inl u.2.2.1)), (h7, .inl (cJ, 8, .inr (.inl u.2.2.2.1)))] s.heap := hP
  have hD : va_D A [(h0, .inr (4, [.ref h1, .ref h2, .ref h5])), (h1, .inl (cJ, 8, .inr (.inl u.1))), (h2, .inr (3, [.ref h3, .ref h4, .int u.2.1.2.2])), (h3, .inl (cC, 40, .inl u.2.1.1)), (h4, .inl (cI, 40, .inl u.2.1.2.1)), (h5, .inr (2, [.ref h6, .ref h7, .int u.2.2.2.2.1, .int u.2.2.2.2.2])), (h6, .inl (cI, 8, .inl u.2.2.1)), (h7, .inl (cJ, 8, .inr (.inl u.2.2.2.1)))] := hD
  have q1 := hts (.fieldLink RX5 16 "Doubleline" "row" "LDoubleline$Row;") (by decide +kernel)
  have q2 : ∀ w ∈ u_ws RX5 TX5 3, w ∈ wsX5_playBack := by decide +kernel
  have q3 := hts (.fieldLink RX5 9 "Doubleline" "slots" "[J") (by decide +kernel)
  have hl := lv_entry ([.ref h0, .int a0, .int a1]) (n := 3) (Nat.le_of_ble_eq_true rfl)
  rw [lg_entry_eq]
  generalize (lg_sl ([.ref h0, .int a0, .int a1]) ++ List.replicate (3 - (lg_sl ([.ref h0, .int a0, .int a1])).length) Slot.unset).toArray = ls at hl ⊢
  have hl : lv_has ls 3 [(0, .ref h0), (1, .int a0), (2, .int a1)] := hl
  unfold f_X5_playBack at hf
  refine lv_iload_n hx hb dX5_playBack_0 rfl (lv_at hl 1 rfl) ?_
  obtain ⟨z1, ez1, xz1, hf⟩ := xb_e hf
  refine my_callT (As := [.int a0]) (n := 1) (rest := []) ⟨hx, hb, hml, hown, hts⟩ ht hlk hXK hS (m_X5_checkSlot l hl0 s.heap.size a0 _ ez1) gX5_playBack_X5_checkSlot rfl (by decide +kernel) ⟨rfl, rfl⟩ ⟨Nat.le_of_ble_eq_true rfl, Nat.le_of_ble_eq_true rfl⟩ ⟨Nat.le_of_ble_eq_true rfl, Nat.le_of_ble_eq_true rfl⟩ ⟨Nat.le_of_ble_eq_true rfl, Nat.le_of_ble_eq_true rfl⟩ (fun q h => hA q h) xz1 hl.1 rfl rfl (Nat.le_of_ble_eq_true rfl) dX5_playBack_1 (fun u9 H locs qz1 hk1 hS => ?_)
  have hP := my_keep hP hk1
  have hf := hf _ qz1
  refine lv_iload_n hx hb dX5_playBack_4 rfl (lv_at hl 2 rfl) ?_
  obtain ⟨z2, ez2, xz2, hf⟩ := xb_e hf
  refine my_callT (As := [.int a1]) (n := 1) (rest := []) ⟨hx, hb, hml, hown, hts⟩ ht hlk hXK hS (m_X5_checkSlot l hl0 H.size a1 _ ez2) gX5_playBack_X5_checkSlot rfl (by decide +kernel) ⟨rfl, rfl⟩ ⟨Nat.le_of_ble_eq_true rfl, Nat.le_of_ble_eq_true rfl⟩ ⟨Nat.le_of_ble_eq_true rfl, Nat.le_of_ble_eq_true rfl⟩ ⟨Nat.le_of_ble_eq_true rfl, Nat.le_of_ble_eq_true rfl⟩ (fun q h => hA q h) xz2 hl.1 rfl rfl (Nat.le_of_ble_eq_true rfl) dX5_playBack_5 (fun u9 H locs qz2 hk1 hS => ?_)
  have hP := my_keep hP hk1
  have hf := hf _ qz2
  refine lv_aload_n hx hb dX5_playBack_8 rfl (lv_at hl 0 rfl) ?_
  refine lv_iload_n hx hb dX5_playBack_9 rfl (lv_at hl 2 rfl) ?_
  refine lv_aload_n hx hb dX5_playBack_10 rfl (lv_at hl 0 rfl) ?_
  refine va_get (D := D) (ci := 4) (v := .ref h2) (C := RX5) (T := TX5) (N := 3) hx hb hts q2 hown hK hP 0 rfl rfl 1 (by decide) q1 (fun _ h9 => h9) rfl dX5_playBack_11 ?_
  refine lv_aload_n hx hb dX5_playBack_14 rfl (lv_at hl 0 rfl) ?_
  refine va_get (D := D) (ci := 4) (v := .ref h1) (C := RX5) (T := TX5) (N := 3) hx hb hts q2 hown hK hP 0 rfl rfl 0 (by decide) q3 (fun _ h9 => h9) rfl dX5_playBack_15 ?_
  refine lv_iload_n hx hb dX5_playBack_18 rfl (lv_at hl 1 rfl) ?_
  obtain ⟨g3, hf⟩ := og_e hf
  refine va_lald hx hb hK hP 1 2 rfl rfl g3 dX5_playBack_19 ?_
  obtain ⟨r4, er4, hf⟩ := ob_e hf
  refine my_callRl (As := [.long (u.1 a0.toNatClampNeg)]) (n := 1) (rest := [.int a1, .ref h0]) ⟨hx, hb, hml, hown, hts⟩ hK (hP.sub (ws' := (wR cC cI h2 h3 h4 u.2.1)) [2, 3, 4] rfl) (m_X3_playedBackOn l D cC cI cJ h2 h3 h4 u.2.1 (u.1 a0.toNatClampNeg) _ er4) gX5_playBack_X3_playedBackOn rfl ⟨rfl, rfl⟩ (ci := 3) rfl rfl (by decide +kernel) ⟨Nat.le_of_ble_eq_true rfl, Nat.le_of_ble_eq_true rfl⟩ ⟨Nat.le_of_ble_eq_true rfl, Nat.le_of_ble_eq_true rfl⟩ hl.1 rfl rfl (Nat.le_of_ble_eq_true rfl) dX5_playBack_20 ?_
  obtain ⟨z5, ez5, hf⟩ := ob_e hf
  have hS := my_weak hS hA
  refine my_callMl (As := [.int a1, .long r4]) (n := 2) (rest := []) (wr := []) ⟨hx, hb, hml, hown, hts⟩ hK hP hD hS hA [0, 1, 2, 3, 4, 5, 6, 7] [] rfl rfl (by decide) (by decide) (by decide) (m_X5_become l D cC cI cJ h0 h1 h2 h3 h4 h5 h6 h7 u H.size a1 r4 _ ez5) gX5_playBack_X5_become rfl ⟨rfl, rfl⟩ (ci := 4) rfl rfl (by decide +kernel) ⟨Nat.le_of_ble_eq_true rfl, Nat.le_of_ble_eq_true rfl⟩ ⟨Nat.le_of_ble_eq_true rfl, Nat.le_of_ble_eq_true rfl⟩ hl.1 rfl rfl (Nat.le_of_ble_eq_true rfl) dX5_playBack_23 (fun r9 u9 H locs hw hP hD hS => ?_)
  obtain ⟨rfl, rfl⟩ := hw
  have hP : va_P D vwCl [(h0, .inr (4, [.ref h1, .ref h2, .ref h5])), (h1, .inl (cJ, 8, .inr (.inl z5.2.1))), (h2, .inr (3, [.ref h3, .ref h4, .int z5.2.2.1.2.2])), (h3, .inl (cC, 40, .inl z5.2.2.1.1)), (h4, .inl (cI, 40, .inl z5.2.2.1.2.1)), (h5, .inr (2, [.ref h6, .ref h7, .int z5.2.2.2.2.2.1, .int z5.2.2.2.2.2.2])), (h6, .inl (cI, 8, .inl z5.2.2.2.1)), (h7, .inl (cJ, 8, .inr (.inl z5.2.2.2.2.1)))] H := hP.sub [0, 1, 2, 3, 4, 5, 6, 7] rfl
  have hD : va_D A [(h0, .inr (4, [.ref h1, .ref h2, .ref h5])), (h1, .inl (cJ, 8, .inr (.inl z5.2.1))), (h2, .inr (3, [.ref h3, .ref h4, .int z5.2.2.1.2.2])), (h3, .inl (cC, 40, .inl z5.2.2.1.1)), (h4, .inl (cI, 40, .inl z5.2.2.1.2.1)), (h5, .inr (2, [.ref h6, .ref h7, .int z5.2.2.2.2.2.1, .int z5.2.2.2.2.2.2])), (h6, .inl (cI, 8, .inl z5.2.2.2.1)), (h7, .inl (cJ, 8, .inr (.inl z5.2.2.2.2.1)))] := hD.sub [0, 1, 2, 3, 4, 5, 6, 7] (by decide) rfl
  have hP9 : va_P D vwCl (wX cC cI cJ h0 h1 h2 h3 h4 h5 h6 h7 z5.2) _ := hP
  have hD9 : va_D A (wX cC cI cJ h0 h1 h2 h3 h4 h5 h6 h7 z5.2) := hD
  exact vx_ret (W.lret (v := z5.1) hx hb hr (fun t ht hW => ⟨⟨z5.1, z5.2, rfl, ⟨(z5.1, z5.2), rfl, rfl, (Option.some.inj hf).symm⟩, by rw [ht]; exact hP9, va_K.moved hW.alike hK, hD9⟩, hS.F ht⟩) hS.2.2 dX5_playBack_26)

set_option maxHeartbeats 4000000 in
set_option maxRecDepth 100000 in
theorem m_X5_isHome (l : Launch) (hl0 : l.stackTraces = false) (D : va_G) (cC cI cJ : ClassId) (h0 h1 h2 h3 h4 h5 h6 h7 : Nat) (u : StX) (sz : Nat) (a0 : Int32) (res : (String ⊕ Bool)) (hf : f_X5_isHome u a0 = some res) : vx_Met l yX5_isHome wsX5_isHome rmX5_isHome (my_PcTR D vwCl (KT cC cI cJ) sz (wX cC cI cJ h0 h1 h2 h3 h4 h5 h6 h7 u) [.ref h0, .int a0]) (va_Qi (fun r (_ : Unit) => (∃ z, r = b2i z ∧ res = .inr z)) (fun _ _ => True) (fun q : Nat => sz ≤ q)) (vx_X (fun _ : Unit => True) (fun E _ _ => res = .inl E) (fun q : Nat => sz ≤ q)) 1 6 (fun q : Nat => sz ≤ q) := by
  refine vx_ofW (cc := cX5_isHome) (maxL := 2) (ret := (some .boolean)) (by decide) rfl ?_
  intro p e s m args below meth c s₁ B hml ht hv
  obtain ⟨rfl, hsz, hP, hK, hXK⟩ := hv
  have hx := B.exec
  have hb := B.bytes
  have hr := B.returns
  have hts : ∀ w ∈ wsX5_isHome, w.before ([.ref h0, .int a0] : List Value).toArray s = true := atoms_spec (ws := wsX5_isHome) B.pre
  have hown : s.vm.findClass RX5 = some m.cls := findClass_of_methodNamed B.named
  have hlk : meth.locks = false := B.notSynchronized
  subst hsz
  have hS : va_S (fun q : Nat => s.heap.size ≤ q) s.heap s.heap [] := va_S.rf
  have hP : va_P D vwCl [(h0, .inr (4, [.ref h1, .ref h2, .ref h5])), (h1, .inl (cJ, 8, .inr (.inl u.1))), (h2, .inr (3, [.ref h3, .ref h4, .int u.2.1.2.2])), (h3, .inl (cC, 40, .inl u.2.1.1)), (h4, .inl (cI, 40, .inl u.2.1.2.1)), (h5, .inr (2, [.ref h6, .ref h7, .int u.2.2.2.2.1, .int u.2.2.2.2.2])), (h6, .inl (cI, 8, .inl u.2.2.1)), (h7, .inl (cJ, 8, .inr (.inl u.2.2.2.1)))] s.heap := hP
  have q1 := hts (.fieldLink RX5 16 "Doubleline" "row" "LDoubleline$Row;") (by decide +kernel)
  have q2 : ∀ w ∈ u_ws RX5 TX5 3, w ∈ wsX5_isHome := by decide +kernel
  have q3 := hts (.fieldLink RX5 9 "Doubleline" "slots" "[J") (by decide +kernel)
  have hl := lv_entry ([.ref h0, .int a0]) (n := 2) (Nat.le_of_ble_eq_true rfl)
  rw [lg_entry_eq]
  generalize (lg_sl ([.ref h0, .int a0]) ++ List.replicate (2 - (lg_sl ([.ref h0, .int a0])).length) Slot.unset).toArray = ls at hl ⊢
  have hl : lv_has ls 2 [(0, .ref h0), (1, .int a0)] := hl
  unfold f_X5_isHome at hf
  refine lv_iload_n hx hb dX5_isHome_0 rfl (lv_at hl 1 rfl) ?_
  obtain ⟨z1, ez1, xz1, hf⟩ := xb_e hf
  refine my_callT (As := [.int a0]) (n := 1) (rest := []) ⟨hx, hb, hml, hown, hts⟩ ht hlk hXK hS (m_X5_checkSlot l hl0 s.heap.size a0 _ ez1) gX5_isHome_X5_checkSlot rfl (by decide +kernel) ⟨rfl, rfl⟩ ⟨Nat.le_of_ble_eq_true rfl, Nat.le_of_ble_eq_true rfl⟩ ⟨Nat.le_of_ble_eq_true rfl, Nat.le_of_ble_eq_true rfl⟩ ⟨Nat.le_of_ble_eq_true rfl, Nat.le_of_ble_eq_true rfl⟩ (fun q h => h) xz1 hl.1 rfl rfl (Nat.le_of_ble_eq_true rfl) dX5_isHome_1 (fun u9 H locs qz1 hk1 hS => ?_)
  have hP := my_keep hP hk1
  have hf := hf _ qz1
  refine lv_aload_n hx hb dX5_isHome_4 rfl (lv_at hl 0 rfl) ?_
  refine va_get (D := D) (ci := 4) (v := .ref h2) (C := RX5) (T := TX5) (N := 3) hx hb hts q2 hown hK hP 0 rfl rfl 1 (by decide) q1 (fun _ h9 => h9) rfl dX5_isHome_5 ?_
  refine lv_aload_n hx hb dX5_isHome_8 rfl (lv_at hl 0 rfl) ?_
  refine va_get (D := D) (ci := 4) (v := .ref h1) (C := RX5) (T := TX5) (N := 3) hx hb hts q2 hown hK hP 0 rfl rfl 0 (by decide) q3 (fun _ h9 => h9) rfl dX5_isHome_9 ?_
  refine lv_iload_n hx hb dX5_isHome_12 rfl (lv_at hl 1 rfl) ?_
  obtain ⟨g2, hf⟩ := og_e hf
  refine va_lald hx hb hK hP 1 2 rfl rfl g2 dX5_isHome_13 ?_
  obtain ⟨r3, er3, hf⟩ := ob_e hf
  refine my_callRi (As := [.long (u.1 a0.toNatClampNeg)]) (n := 1) (rest := []) ⟨hx, hb, hml, hown, hts⟩ hK (hP.sub (ws' := (wR cC cI h2 h3 h4 u.2.1)) [2, 3, 4] rfl) (m_X3_leadsHome l D cC cI cJ h2 h3 h4 u.2.1 (u.1 a0.toNatClampNeg) _ er3) gX5_isHome_X3_leadsHome rfl ⟨rfl, rfl⟩ (ci := 3) rfl rfl (by decide +kernel) ⟨Nat.le_of_ble_eq_true rfl, Nat.le_of_ble_eq_true rfl⟩ ⟨Nat.le_of_ble_eq_true rfl, Nat.le_of_ble_eq_true rfl⟩ hl.1 rfl rfl (Nat.le_of_ble_eq_true rfl) dX5_isHome_14 ?_
  exact vx_ret (W.zret (v := b2i r3) (ty := .boolean) hx hb hr (b2i_nar _) (fun t ht hW => ⟨⟨b2i r3, (), rfl, ⟨_, rfl, (Option.some.inj hf).symm⟩, trivial⟩, hS.F ht⟩) hS.2.2 dX5_isHome_17)

set_option maxHeartbeats 4000000 in
set_option maxRecDepth 100000 in
theorem m_X5_losses (l : Launch) (hl0 : l.stackTraces = false) (D : va_G) (cC cI cJ : ClassId) (h0 h1 h2 h3 h4 h5 h6 h7 : Nat) (u : StX) (sz : Nat) (a0 : Int32) (res : (String ⊕ Int32)) (hf : f_X5_losses u a0 = some res) : vx_Met l yX5_losses wsX5_losses rmX5_losses (my_PcTR D vwCl (KT cC cI cJ) sz (wX cC cI cJ h0 h1 h2 h3 h4 h5 h6 h7 u) [.ref h0, .int a0]) (va_Qi (fun r (_ : Unit) => (∃ z, r = z ∧ res = .inr z)) (fun _ _ => True) (fun q : Nat => sz ≤ q)) (vx_X (fun _ : Unit => True) (fun E _ _ => res = .inl E) (fun q : Nat => sz ≤ q)) 1 6 (fun q : Nat => sz ≤ q) := by
  refine vx_ofW (cc := cX5_losses) (maxL := 2) (ret := (some .int)) (by decide) rfl ?_
  intro p e s m args below meth c s₁ B hml ht hv
  obtain ⟨rfl, hsz, hP, hK, hXK⟩ := hv
  have hx := B.exec
  have hb := B.bytes
  have hr := B.returns
  have hts : ∀ w ∈ wsX5_losses, w.before ([.ref h0, .int a0] : List Value).toArray s = true := atoms_spec (ws := wsX5_losses) B.pre
  have hown : s.vm.findClass RX5 = some m.cls := findClass_of_methodNamed B.named
  have hlk : meth.locks = false := B.notSynchronized
  subst hsz
  have hS : va_S (fun q : Nat => s.heap.size ≤ q) s.heap s.heap [] := va_S.rf
  have hP : va_P D vwCl [(h0, .inr (4, [.ref h1, .ref h2, .ref h5])), (h1, .inl (cJ, 8, .inr (.inl u.1))), (h2, .inr (3, [.ref h3, .ref h4, .int u.2.1.2.2])), (h3, .inl (cC, 40, .inl u.2.1.1)), (h4, .inl (cI, 40, .inl u.2.1.2.1)), (h5, .inr (2, [.ref h6, .ref h7, .int u.2.2.2.2.1, .int u.2.2.2.2.2])), (h6, .inl (cI, 8, .inl u.2.2.1)), (h7, .inl (cJ, 8, .inr (.inl u.2.2.2.1)))] s.heap := hP
  have q1 := hts (.fieldLink RX5 16 "Doubleline" "row" "LDoubleline$Row;") (by decide +kernel)
  have q2 : ∀ w ∈ u_ws RX5 TX5 3, w ∈ wsX5_losses := by decide +kernel
  have q3 := hts (.fieldLink RX5 9 "Doubleline" "slots" "[J") (by decide +kernel)
  have hl := lv_entry ([.ref h0, .int a0]) (n := 2) (Nat.le_of_ble_eq_true rfl)
  rw [lg_entry_eq]
  generalize (lg_sl ([.ref h0, .int a0]) ++ List.replicate (2 - (lg_sl ([.ref h0, .int a0])).length) Slot.unset).toArray = ls at hl ⊢
  have hl : lv_has ls 2 [(0, .ref h0), (1, .int a0)] := hl
  unfold f_X5_losses at hf
  refine lv_iload_n hx hb dX5_losses_0 rfl (lv_at hl 1 rfl) ?_
  obtain ⟨z1, ez1, xz1, hf⟩ := xb_e hf
  refine my_callT (As := [.int a0]) (n := 1) (rest := []) ⟨hx, hb, hml, hown, hts⟩ ht hlk hXK hS (m_X5_checkSlot l hl0 s.heap.size a0 _ ez1) gX5_losses_X5_checkSlot rfl (by decide +kernel) ⟨rfl, rfl⟩ ⟨Nat.le_of_ble_eq_true rfl, Nat.le_of_ble_eq_true rfl⟩ ⟨Nat.le_of_ble_eq_true rfl, Nat.le_of_ble_eq_true rfl⟩ ⟨Nat.le_of_ble_eq_true rfl, Nat.le_of_ble_eq_true rfl⟩ (fun q h => h) xz1 hl.1 rfl rfl (Nat.le_of_ble_eq_true rfl) dX5_losses_1 (fun u9 H locs qz1 hk1 hS => ?_)
  have hP := my_keep hP hk1
  have hf := hf _ qz1
  refine lv_aload_n hx hb dX5_losses_4 rfl (lv_at hl 0 rfl) ?_
  refine va_get (D := D) (ci := 4) (v := .ref h2) (C := RX5) (T := TX5) (N := 3) hx hb hts q2 hown hK hP 0 rfl rfl 1 (by decide) q1 (fun _ h9 => h9) rfl dX5_losses_5 ?_
  refine lv_aload_n hx hb dX5_losses_8 rfl (lv_at hl 0 rfl) ?_
  refine va_get (D := D) (ci := 4) (v := .ref h1) (C := RX5) (T := TX5) (N := 3) hx hb hts q2 hown hK hP 0 rfl rfl 0 (by decide) q3 (fun _ h9 => h9) rfl dX5_losses_9 ?_
  refine lv_iload_n hx hb dX5_losses_12 rfl (lv_at hl 1 rfl) ?_
  obtain ⟨g2, hf⟩ := og_e hf
  refine va_lald hx hb hK hP 1 2 rfl rfl g2 dX5_losses_13 ?_
  obtain ⟨r3, er3, hf⟩ := ob_e hf
  refine my_callRi (As := [.long (u.1 a0.toNatClampNeg)]) (n := 1) (rest := []) ⟨hx, hb, hml, hown, hts⟩ hK (hP.sub (ws' := (wR cC cI h2 h3 h4 u.2.1)) [2, 3, 4] rfl) (m_X3_lossesFrom l D cC cI cJ h2 h3 h4 u.2.1 (u.1 a0.toNatClampNeg) _ er3) gX5_losses_X3_lossesFrom rfl ⟨rfl, rfl⟩ (ci := 3) rfl rfl (by decide +kernel) ⟨Nat.le_of_ble_eq_true rfl, Nat.le_of_ble_eq_true rfl⟩ ⟨Nat.le_of_ble_eq_true rfl, Nat.le_of_ble_eq_true rfl⟩ hl.1 rfl rfl (Nat.le_of_ble_eq_true rfl) dX5_losses_14 ?_
  exact vx_ret (W.iret (v := r3) hx hb hr (fun t ht hW => ⟨⟨r3, (), rfl, ⟨_, rfl, (Option.some.inj hf).symm⟩, trivial⟩, hS.F ht⟩) hS.2.2 dX5_losses_17)

set_option maxHeartbeats 4000000 in
set_option maxRecDepth 100000 in
theorem m_X5_undo (l : Launch) (hl0 : l.stackTraces = false) (D : va_G) (cC cI cJ : ClassId) (h0 h1 h2 h3 h4 h5 h6 h7 : Nat) (u : StX) (sz : Nat)  (res : (String ⊕ (Int32 × StX))) (hf : f_X5_undo u = some res) : vx_Met l yX5_undo wsX5_undo rmX5_undo (my_PcTM D vwCl (KT cC cI cJ) sz (wX cC cI cJ h0 h1 h2 h3 h4 h5 h6 h7 u) [.ref h0]) (va_Qi (fun r v => ∃ z, r = z.1 ∧ v = z.2 ∧ res = .inr z) (my_B D vwCl (KT cC cI cJ) (va_A (wX cC cI cJ h0 h1 h2 h3 h4 h5 h6 h7 u) sz) (fun v : StX => (wX cC cI cJ h0 h1 h2 h3 h4 h5 h6 h7 v))) (va_A (wX cC cI cJ h0 h1 h2 h3 h4 h5 h6 h7 u) sz)) (vx_X (fun _ : Unit => True) (fun E _ _ => res = .inl E) (fun q : Nat => sz ≤ q)) 1 6 (va_A (wX cC cI cJ h0 h1 h2 h3 h4 h5 h6 h7 u) sz) := by
  refine vx_ofW (cc := cX5_undo) (maxL := 2) (ret := (some .int)) (by decide) rfl ?_
  intro p e s m args below meth c s₁ B hml ht hv
  obtain ⟨rfl, hsz, hP, hK, hD0, hXK⟩ := hv
  have hx := B.exec
  have hb := B.bytes
  have hr := B.returns
  have hts : ∀ w ∈ wsX5_undo, w.before ([.ref h0] : List Value).toArray s = true := atoms_spec (ws := wsX5_undo) B.pre
  have hown : s.vm.findClass RX5 = some m.cls := findClass_of_methodNamed B.named
  have hlk : meth.locks = false := B.notSynchronized
  subst hsz
  have hD := hD0.self (sz := s.heap.size)
  generalize hAe : va_A (wX cC cI cJ h0 h1 h2 h3 h4 h5 h6 h7 u) s.heap.size = A at hD ⊢
  have hA : ∀ q : Nat, s.heap.size ≤ q → A q := fun q h => by rw [← hAe]; exact Or.inr h
  have hS : va_S (fun q : Nat => s.heap.size ≤ q) s.heap s.heap [] := va_S.rf
  have hP : va_P D vwCl [(h0, .inr (4, [.ref h1, .ref h2, .ref h5])), (h1, .inl (cJ, 8, .inr (.inl u.1))), (h2, .inr (3, [.ref h3, .ref h4, .int u.2.1.2.2])), (h3, .inl (cC, 40, .inl u.2.1.1)), (h4, .inl (cI, 40, .inl u.2.1.2.1)), (h5, .inr (2, [.ref h6, .ref h7, .int u.2.2.2.2.1, .int u.2.2.2.2.2])), (h6, .inl (cI, 8, .inl u.2.2.1)), (h7, .inl (cJ, 8, .inr (.inl u.2.2.2.1)))] s.heap := hP
  have hD : va_D A [(h0, .inr (4, [.ref h1, .ref h2, .ref h5])), (h1, .inl (cJ, 8, .inr (.inl u.1))), (h2, .inr (3, [.ref h3, .ref h4, .int u.2.1.2.2])), (h3, .inl (cC, 40, .inl u.2.1.1)), (h4, .inl (cI, 40, .inl u.2.1.2.1)), (h5, .inr (2, [.ref h6, .ref h7, .int u.2.2.2.2.1, .int u.2.2.2.2.2])), (h6, .inl (cI, 8, .inl u.2.2.1)), (h7, .inl (cJ, 8, .inr (.inl u.2.2.2.1)))] := hD
  have q1 := hts (.fieldLink RX5 23 "Doubleline" "past" "LDoubleline$Past;") (by decide +kernel)
  have q2 : ∀ w ∈ u_ws RX5 TX5 3, w ∈ wsX5_undo := by decide +kernel
  have q3 := hts (.fieldLink RX5 9 "Doubleline" "slots" "[J") (by decide +kernel)
  have q4 := hts (.classLink RX5 177 "java/util/NoSuchElementException") (by decide +kernel)
  have q5 := hts (.initialized "java/util/NoSuchElementException") (by decide +kernel)
  have q6 : ∀ w ∈ my_atN.filter goodWord, w.before ([.ref h0] : List Value).toArray s = true := fun w h => hts w (List.mem_cons_of_mem _ (List.mem_append_left _ (List.mem_append_right _ h)))
  have hl := lv_entry ([.ref h0]) (n := 2) (Nat.le_of_ble_eq_true rfl)
  rw [lg_entry_eq]
  generalize (lg_sl ([.ref h0]) ++ List.replicate (2 - (lg_sl ([.ref h0])).length) Slot.unset).toArray = ls at hl ⊢
  have hl : lv_has ls 2 [(0, .ref h0)] := hl
  unfold f_X5_undo at hf
  refine lv_aload_n hx hb dX5_undo_0 rfl (lv_at hl 0 rfl) ?_
  refine va_get (D := D) (ci := 4) (v := .ref h5) (C := RX5) (T := TX5) (N := 3) hx hb hts q2 hown hK hP 0 rfl rfl 2 (by decide) q1 (fun _ h9 => h9) rfl dX5_undo_1 ?_
  refine my_callRi (As := []) (n := 0) (rest := []) ⟨hx, hb, hml, hown, hts⟩ hK (hP.sub (ws' := (wP cI cJ h5 h6 h7 u.2.2)) [5, 6, 7] rfl) (m_X2_isEmpty l D cC cI cJ h5 h6 h7 u.2.2 _ rfl) gX5_undo_X2_isEmpty rfl ⟨rfl, rfl⟩ (ci := 2) rfl rfl (by decide +kernel) ⟨Nat.le_of_ble_eq_true rfl, Nat.le_of_ble_eq_true rfl⟩ ⟨Nat.le_of_ble_eq_true rfl, Nat.le_of_ble_eq_true rfl⟩ hl.1 rfl rfl (Nat.le_of_ble_eq_true rfl) dX5_undo_4 ?_
  refine my_bz_eq (x := (f_X2_isEmpty u.2.2)) (tgt := 20) hx hb dX5_undo_7 (by decide) (fun c1 => ?_) (fun c1 => ?_)
  · rw [if_pos c1] at hf
    refine lv_aload_n hx hb dX5_undo_20 rfl (lv_at hl 0 rfl) ?_
    refine va_get (D := D) (ci := 4) (v := .ref h5) (C := RX5) (T := TX5) (N := 3) hx hb hts q2 hown hK hP 0 rfl rfl 2 (by decide) q1 (fun _ h9 => h9) rfl dX5_undo_21 ?_
    obtain ⟨r2, er2, hf⟩ := ob_e hf
    refine my_callRi (As := []) (n := 0) (rest := []) ⟨hx, hb, hml, hown, hts⟩ hK (hP.sub (ws' := (wP cI cJ h5 h6 h7 u.2.2)) [5, 6, 7] rfl) (m_X2_latestSlot l D cC cI cJ h5 h6 h7 u.2.2 _ er2) gX5_undo_X2_latestSlot rfl ⟨rfl, rfl⟩ (ci := 2) rfl rfl (by decide +kernel) ⟨Nat.le_of_ble_eq_true rfl, Nat.le_of_ble_eq_true rfl⟩ ⟨Nat.le_of_ble_eq_true rfl, Nat.le_of_ble_eq_true rfl⟩ hl.1 rfl rfl (Nat.le_of_ble_eq_true rfl) dX5_undo_24 ?_
    refine lv_istore_n (lv' := [(1, .int r2), (0, .ref h0)]) hx hb dX5_undo_27 rfl hl (by decide) rfl (fun ls hl => ?_)
    refine lv_aload_n hx hb dX5_undo_28 rfl (lv_at hl 1 rfl) ?_
    refine va_get (D := D) (ci := 4) (v := .ref h1) (C := RX5) (T := TX5) (N := 3) hx hb hts q2 hown hK hP 0 rfl rfl 0 (by decide) q3 (fun _ h9 => h9) rfl dX5_undo_29 ?_
    refine lv_iload_n hx hb dX5_undo_32 rfl (lv_at hl 0 rfl) ?_
    refine lv_aload_n hx hb dX5_undo_33 rfl (lv_at hl 1 rfl) ?_
    refine va_get (D := D) (ci := 4) (v := .ref h5) (C := RX5) (T := TX5) (N := 3) hx hb hts q2 hown hK hP 0 rfl rfl 2 (by decide) q1 (fun _ h9 => h9) rfl dX5_undo_34 ?_
    obtain ⟨r3, er3, hf⟩ := ob_e hf
    refine my_callRl (As := []) (n := 0) (rest := [.int r2, .ref h1]) ⟨hx, hb, hml, hown, hts⟩ hK (hP.sub (ws' := (wP cI cJ h5 h6 h7 u.2.2)) [5, 6, 7] rfl) (m_X2_latestNumber l D cC cI cJ h5 h6 h7 u.2.2 _ er3) gX5_undo_X2_latestNumber rfl ⟨rfl, rfl⟩ (ci := 2) rfl rfl (by decide +kernel) ⟨Nat.le_of_ble_eq_true rfl, Nat.le_of_ble_eq_true rfl⟩ ⟨Nat.le_of_ble_eq_true rfl, Nat.le_of_ble_eq_true rfl⟩ hl.1 rfl rfl (Nat.le_of_ble_eq_true rfl) dX5_undo_37 ?_
    obtain ⟨g4, hf⟩ := og_e hf
    have hS := my_weak hS hA
    refine va_last hx hb hK hP hD hS 1 2 rfl rfl g4 dX5_undo_40 (fun H locs hP hD hS => ?_)
    have hP : va_P D vwCl [(h0, .inr (4, [.ref h1, .ref h2, .ref h5])), (h1, .inl (cJ, 8, .inr (.inl (vp_updL u.1 r2.toNatClampNeg r3)))), (h2, .inr (3, [.ref h3, .ref h4, .int u.2.1.2.2])), (h3, .inl (cC, 40, .inl u.2.1.1)), (h4, .inl (cI, 40, .inl u.2.1.2.1)), (h5, .inr (2, [.ref h6, .ref h7, .int u.2.2.2.2.1, .int u.2.2.2.2.2])), (h6, .inl (cI, 8, .inl u.2.2.1)), (h7, .inl (cJ, 8, .inr (.inl u.2.2.2.1)))] H := hP
    have hD : va_D A [(h0, .inr (4, [.ref h1, .ref h2, .ref h5])), (h1, .inl (cJ, 8, .inr (.inl (vp_updL u.1 r2.toNatClampNeg r3)))), (h2, .inr (3, [.ref h3, .ref h4, .int u.2.1.2.2])), (h3, .inl (cC, 40, .inl u.2.1.1)), (h4, .inl (cI, 40, .inl u.2.1.2.1)), (h5, .inr (2, [.ref h6, .ref h7, .int u.2.2.2.2.1, .int u.2.2.2.2.2])), (h6, .inl (cI, 8, .inl u.2.2.1)), (h7, .inl (cJ, 8, .inr (.inl u.2.2.2.1)))] := hD
    refine lv_aload_n hx hb dX5_undo_41 rfl (lv_at hl 1 rfl) ?_
    refine va_get (D := D) (ci := 4) (v := .ref h5) (C := RX5) (T := TX5) (N := 3) hx hb hts q2 hown hK hP 0 rfl rfl 2 (by decide) q1 (fun _ h9 => h9) rfl dX5_undo_42 ?_
    obtain ⟨z5, ez5, hf⟩ := ob_e hf
    refine my_callMv (As := []) (n := 0) (rest := []) (wr := [(h0, .inr (4, [.ref h1, .ref h2, .ref h5])), (h1, .inl (cJ, 8, .inr (.inl (vp_updL u.1 r2.toNatClampNeg r3)))), (h2, .inr (3, [.ref h3, .ref h4, .int u.2.1.2.2])), (h3, .inl (cC, 40, .inl u.2.1.1)), (h4, .inl (cI, 40, .inl u.2.1.2.1))]) ⟨hx, hb, hml, hown, hts⟩ hK hP hD hS hA [5, 6, 7] [0, 1, 2, 3, 4] rfl rfl (by decide) (by decide) (by decide) (m_X2_forgetLatest l D cC cI cJ h5 h6 h7 u.2.2 H.size _ ez5) gX5_undo_X2_forgetLatest rfl ⟨rfl, rfl⟩ (ci := 2) rfl rfl (by decide +kernel) ⟨Nat.le_of_ble_eq_true rfl, Nat.le_of_ble_eq_true rfl⟩ ⟨Nat.le_of_ble_eq_true rfl, Nat.le_of_ble_eq_true rfl⟩ hl.1 rfl rfl (Nat.le_of_ble_eq_true rfl) dX5_undo_45 (fun u9 H locs hw hP hD hS => ?_)
    obtain rfl := hw.symm
    have hP : va_P D vwCl [(h0, .inr (4, [.ref h1, .ref h2, .ref h5])), (h1, .inl (cJ, 8, .inr (.inl (vp_updL u.1 r2.toNatClampNeg r3)))), (h2, .inr (3, [.ref h3, .ref h4, .int u.2.1.2.2])), (h3, .inl (cC, 40, .inl u.2.1.1)), (h4, .inl (cI, 40, .inl u.2.1.2.1)), (h5, .inr (2, [.ref h6, .ref h7, .int z5.2.2.1, .int z5.2.2.2])), (h6, .inl (cI, 8, .inl z5.1)), (h7, .inl (cJ, 8, .inr (.inl z5.2.1)))] H := hP.sub [0, 1, 2, 3, 4, 5, 6, 7] rfl
    have hD : va_D A [(h0, .inr (4, [.ref h1, .ref h2, .ref h5])), (h1, .inl (cJ, 8, .inr (.inl (vp_updL u.1 r2.toNatClampNeg r3)))), (h2, .inr (3, [.ref h3, .ref h4, .int u.2.1.2.2])), (h3, .inl (cC, 40, .inl u.2.1.1)), (h4, .inl (cI, 40, .inl u.2.1.2.1)), (h5, .inr (2, [.ref h6, .ref h7, .int z5.2.2.1, .int z5.2.2.2])), (h6, .inl (cI, 8, .inl z5.1)), (h7, .inl (cJ, 8, .inr (.inl z5.2.1)))] := hD.sub [0, 1, 2, 3, 4, 5, 6, 7] (by decide) rfl
    refine lv_iload_n hx hb dX5_undo_48 rfl (lv_at hl 0 rfl) ?_
    refine W.widen (k := 1) (n := 6) (Nat.le_of_ble_eq_true rfl) (Nat.le_of_ble_eq_true rfl) ?_
    have hP9 : va_P D vwCl (wX cC cI cJ h0 h1 h2 h3 h4 h5 h6 h7 ((vp_updL u.1 r2.toNatClampNeg r3), (u.2.1, z5))) _ := hP
    have hD9 : va_D A (wX cC cI cJ h0 h1 h2 h3 h4 h5 h6 h7 ((vp_updL u.1 r2.toNatClampNeg r3), (u.2.1, z5))) := hD
    exact vx_ret (W.iret (v := r2) hx hb hr (fun t ht hW => ⟨⟨r2, ((vp_updL u.1 r2.toNatClampNeg r3), (u.2.1, z5)), rfl, ⟨(r2, ((vp_updL u.1 r2.toNatClampNeg r3), (u.2.1, z5))), rfl, rfl, (Option.some.inj hf).symm⟩, by rw [ht]; exact hP9, va_K.moved hW.alike hK, hD9⟩, hS.F ht⟩) hS.2.2 dX5_undo_49)
  · rw [if_neg c1] at hf
    exact my_throwN (is := 179) (text := "nothing is kept") hx hb hl0 hown q4 q5 q6 hXK (by decide) hS (hl.1.trans hml.symm) dX5_undo_10 dX5_undo_13 dX5_undo_14 dX5_undo_16 dX5_undo_19 ht ⟨Nat.le_of_ble_eq_true rfl, Nat.le_of_ble_eq_true rfl, Nat.le_of_ble_eq_true rfl, Nat.le_of_ble_eq_true rfl⟩ hlk (Option.some.inj hf).symm (fun q h => hA q h) (Nat.le_of_ble_eq_true rfl) (Nat.le_of_ble_eq_true rfl)
