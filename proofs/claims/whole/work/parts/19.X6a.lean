set_option maxHeartbeats 4000000 in
set_option maxRecDepth 100000 in
theorem m_X6_thrown (l : Launch) (D : va_G) (cC cI cJ : ClassId) (h0 h1 h2 h3 h4 h5 : Nat) (u : StM) (res : Int32) (hf : f_X6_thrown u = res) : Met l yX6_thrown wsX6_thrown rmX6_thrown (my_PcR D vwCl (KT cC cI cJ) (wM cC cI cJ h0 h1 h2 h3 h4 h5 u) [.ref h0]) (vp_Si (fun z => z = res)) 0 0 (fun _ => False) := by
  refine Met.ofW (cc := cX6_thrown) (maxL := 1) (ret := (some .int)) (by decide) rfl ?_
  intro p e s m args below meth c s₁ B hml hv
  obtain ⟨rfl, hP, hK⟩ := hv
  have hx := B.exec
  have hb := B.bytes
  have hr := B.returns
  have hts : ∀ w ∈ wsX6_thrown, w.before ([.ref h0] : List Value).toArray s = true := atoms_spec (ws := wsX6_thrown) B.pre
  have hown : s.vm.findClass RX6 = some m.cls := findClass_of_methodNamed B.named
  have hlk : meth.locks = false := B.notSynchronized
  have hP : va_P D vwCl [(h0, .inr (5, [.ref h1, .ref h2, .ref h3, .int u.2.2.2.1, .ref h4, .ref h5, .int u.2.2.2.2.2.2.1, .int u.2.2.2.2.2.2.2])), (h1, .inl (cJ, 8, .inr (.inl u.1))), (h2, .inl (cI, 8, .inl u.2.1)), (h3, .inl (cJ, 8, .inr (.inl u.2.2.1))), (h4, .inl (cC, 40, .inl u.2.2.2.2.1)), (h5, .inl (cI, 40, .inl u.2.2.2.2.2.1))] s.heap := hP
  have q1 := hts (.fieldLink RX6 27 "DoublelineModel" "thrown" "I") (by decide +kernel)
  have q2 : ∀ w ∈ u_ws RX6 TX6 8, w ∈ wsX6_thrown := by decide +kernel
  have hl := lv_entry ([.ref h0]) (n := 1) (Nat.le_of_ble_eq_true rfl)
  rw [lg_entry_eq]
  generalize (lg_sl ([.ref h0]) ++ List.replicate (1 - (lg_sl ([.ref h0])).length) Slot.unset).toArray = ls at hl ⊢
  have hl : lv_has ls 1 [(0, .ref h0)] := hl
  unfold f_X6_thrown at hf
  refine lv_aload_n hx hb dX6_thrown_0 rfl (lv_at hl 0 rfl) ?_
  refine va_get (D := D) (ci := 5) (v := .int u.2.2.2.2.2.2.2) (C := RX6) (T := TX6) (N := 8) hx hb hts q2 hown hK hP 0 rfl rfl 7 (by decide) q1 (fun _ h9 => h9) rfl dX6_thrown_1 ?_
  exact W.iret (v := u.2.2.2.2.2.2.2) hx hb hr (fun t ht hW => ⟨_, rfl, hf, ht⟩) (fun q hq => absurd hq List.not_mem_nil) dX6_thrown_4

set_option maxHeartbeats 4000000 in
set_option maxRecDepth 100000 in
theorem m_X6_no (l : Launch) (D : va_G) (cC cI cJ : ClassId) (h0 h1 h2 h3 h4 h5 : Nat) (u : StM) (sz : Nat) (a0 : Bool) (a1 : Int32) (res : Bool × StM) (hf : f_X6_no u a0 a1 = some res) : Met l yX6_no wsX6_no rmX6_no (my_PcM D vwCl (KT cC cI cJ) sz (wM cC cI cJ h0 h1 h2 h3 h4 h5 u) [.ref h0, .int (b2i a0), .int a1]) (va_Qi (fun r v => r = b2i res.1 ∧ v = res.2) (my_B D vwCl (KT cC cI cJ) (va_A (wM cC cI cJ h0 h1 h2 h3 h4 h5 u) sz) (fun v : StM => (wM cC cI cJ h0 h1 h2 h3 h4 h5 v))) (va_A (wM cC cI cJ h0 h1 h2 h3 h4 h5 u) sz)) 0 0 (va_A (wM cC cI cJ h0 h1 h2 h3 h4 h5 u) sz) := by
  refine Met.ofW (cc := cX6_no) (maxL := 3) (ret := (some .boolean)) (by decide) rfl ?_
  intro p e s m args below meth c s₁ B hml hv
  obtain ⟨rfl, hsz, hP, hK, hD0⟩ := hv
  have hx := B.exec
  have hb := B.bytes
  have hr := B.returns
  have hts : ∀ w ∈ wsX6_no, w.before ([.ref h0, .int (b2i a0), .int a1] : List Value).toArray s = true := atoms_spec (ws := wsX6_no) B.pre
  have hown : s.vm.findClass RX6 = some m.cls := findClass_of_methodNamed B.named
  have hlk : meth.locks = false := B.notSynchronized
  subst hsz
  have hD := hD0.self (sz := s.heap.size)
  generalize hAe : va_A (wM cC cI cJ h0 h1 h2 h3 h4 h5 u) s.heap.size = A at hD ⊢
  have hA : ∀ q : Nat, s.heap.size ≤ q → A q := fun q h => by rw [← hAe]; exact Or.inr h
  have hS : va_S A s.heap s.heap [] := va_S.rf
  have hP : va_P D vwCl [(h0, .inr (5, [.ref h1, .ref h2, .ref h3, .int u.2.2.2.1, .ref h4, .ref h5, .int u.2.2.2.2.2.2.1, .int u.2.2.2.2.2.2.2])), (h1, .inl (cJ, 8, .inr (.inl u.1))), (h2, .inl (cI, 8, .inl u.2.1)), (h3, .inl (cJ, 8, .inr (.inl u.2.2.1))), (h4, .inl (cC, 40, .inl u.2.2.2.2.1)), (h5, .inl (cI, 40, .inl u.2.2.2.2.2.1))] s.heap := hP
  have hD : va_D A [(h0, .inr (5, [.ref h1, .ref h2, .ref h3, .int u.2.2.2.1, .ref h4, .ref h5, .int u.2.2.2.2.2.2.1, .int u.2.2.2.2.2.2.2])), (h1, .inl (cJ, 8, .inr (.inl u.1))), (h2, .inl (cI, 8, .inl u.2.1)), (h3, .inl (cJ, 8, .inr (.inl u.2.2.1))), (h4, .inl (cC, 40, .inl u.2.2.2.2.1)), (h5, .inl (cI, 40, .inl u.2.2.2.2.2.1))] := hD
  have q1 := hts (.fieldLink RX6 27 "DoublelineModel" "thrown" "I") (by decide +kernel)
  have q2 : ∀ w ∈ u_ws RX6 TX6 8, w ∈ wsX6_no := by decide +kernel
  have hl := lv_entry ([.ref h0, .int (b2i a0), .int a1]) (n := 3) (Nat.le_of_ble_eq_true rfl)
  rw [lg_entry_eq]
  generalize (lg_sl ([.ref h0, .int (b2i a0), .int a1]) ++ List.replicate (3 - (lg_sl ([.ref h0, .int (b2i a0), .int a1])).length) Slot.unset).toArray = ls at hl ⊢
  have hl : lv_has ls 3 [(0, .ref h0), (1, .int (b2i a0)), (2, .int a1)] := hl
  unfold f_X6_no at hf
  refine lv_aload_n hx hb dX6_no_0 rfl (lv_at hl 0 rfl) ?_
  refine lv_iload_n hx hb dX6_no_1 rfl (lv_at hl 1 rfl) ?_
  refine my_bz_eq (x := a0) (tgt := 9) hx hb dX6_no_2 (by decide) (fun c1 => ?_) (fun c1 => ?_)
  · rw [if_pos c1] at hf
    refine lv_iload_n hx hb dX6_no_9 rfl (lv_at hl 2 rfl) ?_
    refine va_put (D := D) (ci := 5) (v := .int a1) (ty := .int) (C := RX6) (T := TX6) (N := 8) hx hb hts q2 tyX6 tyX6_ok nmX6 hown hK hP hD hS 0 rfl rfl 7 (by decide) q1 (fun _ h9 => h9) rfl (by decide +kernel) rfl rfl (Nat.le_of_ble_eq_true rfl) dX6_no_10 (fun H locs hP hD hS => ?_)
    have hP : va_P D vwCl [(h0, .inr (5, [.ref h1, .ref h2, .ref h3, .int u.2.2.2.1, .ref h4, .ref h5, .int u.2.2.2.2.2.2.1, .int a1])), (h1, .inl (cJ, 8, .inr (.inl u.1))), (h2, .inl (cI, 8, .inl u.2.1)), (h3, .inl (cJ, 8, .inr (.inl u.2.2.1))), (h4, .inl (cC, 40, .inl u.2.2.2.2.1)), (h5, .inl (cI, 40, .inl u.2.2.2.2.2.1))] H := hP
    have hD : va_D A [(h0, .inr (5, [.ref h1, .ref h2, .ref h3, .int u.2.2.2.1, .ref h4, .ref h5, .int u.2.2.2.2.2.2.1, .int a1])), (h1, .inl (cJ, 8, .inr (.inl u.1))), (h2, .inl (cI, 8, .inl u.2.1)), (h3, .inl (cJ, 8, .inr (.inl u.2.2.1))), (h4, .inl (cC, 40, .inl u.2.2.2.2.1)), (h5, .inl (cI, 40, .inl u.2.2.2.2.2.1))] := hD
    refine lv_iload_n hx hb dX6_no_13 rfl (lv_at hl 1 rfl) ?_
    refine my_bz_ne (x := a0) (tgt := 21) hx hb dX6_no_14 (by decide) (fun c2 => ?_) (fun c2 => ?_)
    · rw [if_neg c2] at hf
      refine lv_iconst (v := 0) hx hb dX6_no_21 (by decide) ?_
      have hP9 : va_P D vwCl (wM cC cI cJ h0 h1 h2 h3 h4 h5 (u.1, (u.2.1, (u.2.2.1, (u.2.2.2.1, (u.2.2.2.2.1, (u.2.2.2.2.2.1, (u.2.2.2.2.2.2.1, a1)))))))) _ := hP
      have hD9 : va_D A (wM cC cI cJ h0 h1 h2 h3 h4 h5 (u.1, (u.2.1, (u.2.2.1, (u.2.2.2.1, (u.2.2.2.2.1, (u.2.2.2.2.2.1, (u.2.2.2.2.2.2.1, a1)))))))) := hD
      have hf := Option.some.inj hf
      have hf1 := congrArg (fun z => b2i z.1) hf
      have hf2 := congrArg Prod.snd hf
      exact W.zret (v := b2i false) (ty := .boolean) hx hb hr (b2i_nar _) (fun t ht hW => ⟨⟨b2i false, (u.1, (u.2.1, (u.2.2.1, (u.2.2.2.1, (u.2.2.2.2.1, (u.2.2.2.2.2.1, (u.2.2.2.2.2.2.1, a1))))))), rfl, ⟨hf1, hf2⟩, by rw [ht]; exact hP9, va_K.moved hW.alike hK, hD9⟩, hS.F ht⟩) hS.2.2 dX6_no_22
    · rw [if_pos c2] at hf
      refine lv_iconst (v := 1) hx hb dX6_no_17 (by decide) ?_
      refine lv_goto (tgt := 22) hx hb dX6_no_18 (by decide) ?_
      have hP9 : va_P D vwCl (wM cC cI cJ h0 h1 h2 h3 h4 h5 (u.1, (u.2.1, (u.2.2.1, (u.2.2.2.1, (u.2.2.2.2.1, (u.2.2.2.2.2.1, (u.2.2.2.2.2.2.1, a1)))))))) _ := hP
      have hD9 : va_D A (wM cC cI cJ h0 h1 h2 h3 h4 h5 (u.1, (u.2.1, (u.2.2.1, (u.2.2.2.1, (u.2.2.2.2.1, (u.2.2.2.2.2.1, (u.2.2.2.2.2.2.1, a1)))))))) := hD
      have hf := Option.some.inj hf
      have hf1 := congrArg (fun z => b2i z.1) hf
      have hf2 := congrArg Prod.snd hf
      exact W.zret (v := b2i true) (ty := .boolean) hx hb hr (b2i_nar _) (fun t ht hW => ⟨⟨b2i true, (u.1, (u.2.1, (u.2.2.1, (u.2.2.2.1, (u.2.2.2.2.1, (u.2.2.2.2.2.1, (u.2.2.2.2.2.2.1, a1))))))), rfl, ⟨hf1, hf2⟩, by rw [ht]; exact hP9, va_K.moved hW.alike hK, hD9⟩, hS.F ht⟩) hS.2.2 dX6_no_22
  · rw [if_neg c1] at hf
    refine lv_iconst (v := 0) hx hb dX6_no_5 (by decide) ?_
    refine lv_goto (tgt := 10) hx hb dX6_no_6 (by decide) ?_
    refine va_put (D := D) (ci := 5) (v := .int 0) (ty := .int) (C := RX6) (T := TX6) (N := 8) hx hb hts q2 tyX6 tyX6_ok nmX6 hown hK hP hD hS 0 rfl rfl 7 (by decide) q1 (fun _ h9 => h9) rfl (by decide +kernel) rfl rfl (Nat.le_of_ble_eq_true rfl) dX6_no_10 (fun H locs hP hD hS => ?_)
    have hP : va_P D vwCl [(h0, .inr (5, [.ref h1, .ref h2, .ref h3, .int u.2.2.2.1, .ref h4, .ref h5, .int u.2.2.2.2.2.2.1, .int 0])), (h1, .inl (cJ, 8, .inr (.inl u.1))), (h2, .inl (cI, 8, .inl u.2.1)), (h3, .inl (cJ, 8, .inr (.inl u.2.2.1))), (h4, .inl (cC, 40, .inl u.2.2.2.2.1)), (h5, .inl (cI, 40, .inl u.2.2.2.2.2.1))] H := hP
    have hD : va_D A [(h0, .inr (5, [.ref h1, .ref h2, .ref h3, .int u.2.2.2.1, .ref h4, .ref h5, .int u.2.2.2.2.2.2.1, .int 0])), (h1, .inl (cJ, 8, .inr (.inl u.1))), (h2, .inl (cI, 8, .inl u.2.1)), (h3, .inl (cJ, 8, .inr (.inl u.2.2.1))), (h4, .inl (cC, 40, .inl u.2.2.2.2.1)), (h5, .inl (cI, 40, .inl u.2.2.2.2.2.1))] := hD
    refine lv_iload_n hx hb dX6_no_13 rfl (lv_at hl 1 rfl) ?_
    refine my_bz_ne (x := a0) (tgt := 21) hx hb dX6_no_14 (by decide) (fun c3 => ?_) (fun c3 => ?_)
    · rw [if_neg c3] at hf
      refine lv_iconst (v := 0) hx hb dX6_no_21 (by decide) ?_
      have hP9 : va_P D vwCl (wM cC cI cJ h0 h1 h2 h3 h4 h5 (u.1, (u.2.1, (u.2.2.1, (u.2.2.2.1, (u.2.2.2.2.1, (u.2.2.2.2.2.1, (u.2.2.2.2.2.2.1, 0)))))))) _ := hP
      have hD9 : va_D A (wM cC cI cJ h0 h1 h2 h3 h4 h5 (u.1, (u.2.1, (u.2.2.1, (u.2.2.2.1, (u.2.2.2.2.1, (u.2.2.2.2.2.1, (u.2.2.2.2.2.2.1, 0)))))))) := hD
      have hf := Option.some.inj hf
      have hf1 := congrArg (fun z => b2i z.1) hf
      have hf2 := congrArg Prod.snd hf
      exact W.zret (v := b2i false) (ty := .boolean) hx hb hr (b2i_nar _) (fun t ht hW => ⟨⟨b2i false, (u.1, (u.2.1, (u.2.2.1, (u.2.2.2.1, (u.2.2.2.2.1, (u.2.2.2.2.2.1, (u.2.2.2.2.2.2.1, 0))))))), rfl, ⟨hf1, hf2⟩, by rw [ht]; exact hP9, va_K.moved hW.alike hK, hD9⟩, hS.F ht⟩) hS.2.2 dX6_no_22
    · rw [if_pos c3] at hf
      refine lv_iconst (v := 1) hx hb dX6_no_17 (by decide) ?_
      refine lv_goto (tgt := 22) hx hb dX6_no_18 (by decide) ?_
      have hP9 : va_P D vwCl (wM cC cI cJ h0 h1 h2 h3 h4 h5 (u.1, (u.2.1, (u.2.2.1, (u.2.2.2.1, (u.2.2.2.2.1, (u.2.2.2.2.2.1, (u.2.2.2.2.2.2.1, 0)))))))) _ := hP
      have hD9 : va_D A (wM cC cI cJ h0 h1 h2 h3 h4 h5 (u.1, (u.2.1, (u.2.2.1, (u.2.2.2.1, (u.2.2.2.2.1, (u.2.2.2.2.2.1, (u.2.2.2.2.2.2.1, 0)))))))) := hD
      have hf := Option.some.inj hf
      have hf1 := congrArg (fun z => b2i z.1) hf
      have hf2 := congrArg Prod.snd hf
      exact W.zret (v := b2i true) (ty := .boolean) hx hb hr (b2i_nar _) (fun t ht hW => ⟨⟨b2i true, (u.1, (u.2.1, (u.2.2.1, (u.2.2.2.1, (u.2.2.2.2.1, (u.2.2.2.2.2.1, (u.2.2.2.2.2.2.1, 0))))))), rfl, ⟨hf1, hf2⟩, by rw [ht]; exact hP9, va_K.moved hW.alike hK, hD9⟩, hS.F ht⟩) hS.2.2 dX6_no_22

set_option maxHeartbeats 4000000 in
set_option maxRecDepth 100000 in
theorem m_X6_lacks (l : Launch) (D : va_G) (cC cI cJ : ClassId) (h0 h1 h2 h3 h4 h5 : Nat) (u : StM) (sz : Nat) (a0 : Int32) (res : Bool × StM) (hf : f_X6_lacks u a0 = some res) : Met l yX6_lacks wsX6_lacks rmX6_lacks (my_PcM D vwCl (KT cC cI cJ) sz (wM cC cI cJ h0 h1 h2 h3 h4 h5 u) [.ref h0, .int a0]) (va_Qi (fun r v => r = b2i res.1 ∧ v = res.2) (my_B D vwCl (KT cC cI cJ) (va_A (wM cC cI cJ h0 h1 h2 h3 h4 h5 u) sz) (fun v : StM => (wM cC cI cJ h0 h1 h2 h3 h4 h5 v))) (va_A (wM cC cI cJ h0 h1 h2 h3 h4 h5 u) sz)) 0 0 (va_A (wM cC cI cJ h0 h1 h2 h3 h4 h5 u) sz) := by
  refine Met.ofW (cc := cX6_lacks) (maxL := 2) (ret := (some .boolean)) (by decide) rfl ?_
  intro p e s m args below meth c s₁ B hml hv
  obtain ⟨rfl, hsz, hP, hK, hD0⟩ := hv
  have hx := B.exec
  have hb := B.bytes
  have hr := B.returns
  have hts : ∀ w ∈ wsX6_lacks, w.before ([.ref h0, .int a0] : List Value).toArray s = true := atoms_spec (ws := wsX6_lacks) B.pre
  have hown : s.vm.findClass RX6 = some m.cls := findClass_of_methodNamed B.named
  have hlk : meth.locks = false := B.notSynchronized
  subst hsz
  have hD := hD0.self (sz := s.heap.size)
  generalize hAe : va_A (wM cC cI cJ h0 h1 h2 h3 h4 h5 u) s.heap.size = A at hD ⊢
  have hA : ∀ q : Nat, s.heap.size ≤ q → A q := fun q h => by rw [← hAe]; exact Or.inr h
  have hS : va_S A s.heap s.heap [] := va_S.rf
  have hP : va_P D vwCl [(h0, .inr (5, [.ref h1, .ref h2, .ref h3, .int u.2.2.2.1, .ref h4, .ref h5, .int u.2.2.2.2.2.2.1, .int u.2.2.2.2.2.2.2])), (h1, .inl (cJ, 8, .inr (.inl u.1))), (h2, .inl (cI, 8, .inl u.2.1)), (h3, .inl (cJ, 8, .inr (.inl u.2.2.1))), (h4, .inl (cC, 40, .inl u.2.2.2.2.1)), (h5, .inl (cI, 40, .inl u.2.2.2.2.2.1))] s.heap := hP
  have hD : va_D A [(h0, .inr (5, [.ref h1, .ref h2, .ref h3, .int u.2.2.2.1, .ref h4, .ref h5, .int u.2.2.2.2.2.2.1, .int u.2.2.2.2.2.2.2])), (h1, .inl (cJ, 8, .inr (.inl u.1))), (h2, .inl (cI, 8, .inl u.2.1)), (h3, .inl (cJ, 8, .inr (.inl u.2.2.1))), (h4, .inl (cC, 40, .inl u.2.2.2.2.1)), (h5, .inl (cI, 40, .inl u.2.2.2.2.2.1))] := hD
  have hl := lv_entry ([.ref h0, .int a0]) (n := 2) (Nat.le_of_ble_eq_true rfl)
  rw [lg_entry_eq]
  generalize (lg_sl ([.ref h0, .int a0]) ++ List.replicate (2 - (lg_sl ([.ref h0, .int a0])).length) Slot.unset).toArray = ls at hl ⊢
  have hl : lv_has ls 2 [(0, .ref h0), (1, .int a0)] := hl
  unfold f_X6_lacks at hf
  refine lv_aload_n hx hb dX6_lacks_0 rfl (lv_at hl 0 rfl) ?_
  refine lv_iload_n hx hb dX6_lacks_1 rfl (lv_at hl 1 rfl) ?_
  refine my_callPi (As := [.int a0]) (n := 1) (rest := [.ref h0]) ⟨hx, hb, hml, hown, hts⟩ (m_X6_isSlot l a0 _ rfl) gX6_lacks_X6_isSlot rfl ⟨rfl, rfl⟩ (by decide +kernel) ⟨Nat.le_of_ble_eq_true rfl, Nat.le_of_ble_eq_true rfl⟩ ⟨Nat.le_of_ble_eq_true rfl, Nat.le_of_ble_eq_true rfl⟩ hl.1 rfl rfl (Nat.le_of_ble_eq_true rfl) dX6_lacks_2 ?_
  refine lv_iconst (v := 1) hx hb dX6_lacks_5 (by decide) ?_
  refine my_callMi (As := [.int (b2i (f_X6_isSlot a0)), .int 1]) (n := 2) (rest := []) (wr := []) ⟨hx, hb, hml, hown, hts⟩ hK hP hD hS hA [0, 1, 2, 3, 4, 5] [] rfl rfl (by decide) (by decide) (by decide) (m_X6_no l D cC cI cJ h0 h1 h2 h3 h4 h5 u s.heap.size (f_X6_isSlot a0) 1 _ (no_b u (f_X6_isSlot a0) 1)) gX6_lacks_X6_no rfl ⟨rfl, rfl⟩ (ci := 5) rfl rfl (by decide +kernel) ⟨Nat.le_of_ble_eq_true rfl, Nat.le_of_ble_eq_true rfl⟩ ⟨Nat.le_of_ble_eq_true rfl, Nat.le_of_ble_eq_true rfl⟩ hl.1 rfl rfl (Nat.le_of_ble_eq_true rfl) dX6_lacks_6 (fun r9 u9 H locs hw hP hD hS => ?_)
  obtain ⟨rfl, rfl⟩ := hw
  have hP : va_P D vwCl [(h0, .inr (5, [.ref h1, .ref h2, .ref h3, .int u.2.2.2.1, .ref h4, .ref h5, .int u.2.2.2.2.2.2.1, .int (if (f_X6_isSlot a0) = true then 0 else 1)])), (h1, .inl (cJ, 8, .inr (.inl u.1))), (h2, .inl (cI, 8, .inl u.2.1)), (h3, .inl (cJ, 8, .inr (.inl u.2.2.1))), (h4, .inl (cC, 40, .inl u.2.2.2.2.1)), (h5, .inl (cI, 40, .inl u.2.2.2.2.2.1))] H := hP.sub [0, 1, 2, 3, 4, 5] rfl
  have hD : va_D A [(h0, .inr (5, [.ref h1, .ref h2, .ref h3, .int u.2.2.2.1, .ref h4, .ref h5, .int u.2.2.2.2.2.2.1, .int (if (f_X6_isSlot a0) = true then 0 else 1)])), (h1, .inl (cJ, 8, .inr (.inl u.1))), (h2, .inl (cI, 8, .inl u.2.1)), (h3, .inl (cJ, 8, .inr (.inl u.2.2.1))), (h4, .inl (cC, 40, .inl u.2.2.2.2.1)), (h5, .inl (cI, 40, .inl u.2.2.2.2.2.1))] := hD.sub [0, 1, 2, 3, 4, 5] (by decide) rfl
  have hP9 : va_P D vwCl (wM cC cI cJ h0 h1 h2 h3 h4 h5 (u.1, (u.2.1, (u.2.2.1, (u.2.2.2.1, (u.2.2.2.2.1, (u.2.2.2.2.2.1, (u.2.2.2.2.2.2.1, (if (f_X6_isSlot a0) = true then 0 else 1))))))))) _ := hP
  have hD9 : va_D A (wM cC cI cJ h0 h1 h2 h3 h4 h5 (u.1, (u.2.1, (u.2.2.1, (u.2.2.2.1, (u.2.2.2.2.1, (u.2.2.2.2.2.1, (u.2.2.2.2.2.2.1, (if (f_X6_isSlot a0) = true then 0 else 1))))))))) := hD
  have hf := Option.some.inj hf
  have hf1 := congrArg (fun z => b2i z.1) hf
  have hf2 := congrArg Prod.snd hf
  exact W.zret (v := b2i (!(f_X6_isSlot a0))) (ty := .boolean) hx hb hr (b2i_nar _) (fun t ht hW => ⟨⟨b2i (!(f_X6_isSlot a0)), (u.1, (u.2.1, (u.2.2.1, (u.2.2.2.1, (u.2.2.2.2.1, (u.2.2.2.2.2.1, (u.2.2.2.2.2.2.1, (if (f_X6_isSlot a0) = true then 0 else 1)))))))), rfl, ⟨hf1, hf2⟩, by rw [ht]; exact hP9, va_K.moved hW.alike hK, hD9⟩, hS.F ht⟩) hS.2.2 dX6_lacks_9

set_option maxHeartbeats 4000000 in
set_option maxRecDepth 100000 in
theorem m_X6_lacks_ (l : Launch) (D : va_G) (cC cI cJ : ClassId) (h0 h1 h2 h3 h4 h5 : Nat) (u : StM) (sz : Nat) (a0 : Int32) (a1 : Int32) (res : Bool × StM) (hf : f_X6_lacks_ u a0 a1 = some res) : Met l yX6_lacks_ wsX6_lacks_ rmX6_lacks_ (my_PcM D vwCl (KT cC cI cJ) sz (wM cC cI cJ h0 h1 h2 h3 h4 h5 u) [.ref h0, .int a0, .int a1]) (va_Qi (fun r v => r = b2i res.1 ∧ v = res.2) (my_B D vwCl (KT cC cI cJ) (va_A (wM cC cI cJ h0 h1 h2 h3 h4 h5 u) sz) (fun v : StM => (wM cC cI cJ h0 h1 h2 h3 h4 h5 v))) (va_A (wM cC cI cJ h0 h1 h2 h3 h4 h5 u) sz)) 0 0 (va_A (wM cC cI cJ h0 h1 h2 h3 h4 h5 u) sz) := by
  refine Met.ofW (cc := cX6_lacks_) (maxL := 3) (ret := (some .boolean)) (by decide) rfl ?_
  intro p e s m args below meth c s₁ B hml hv
  obtain ⟨rfl, hsz, hP, hK, hD0⟩ := hv
  have hx := B.exec
  have hb := B.bytes
  have hr := B.returns
  have hts : ∀ w ∈ wsX6_lacks_, w.before ([.ref h0, .int a0, .int a1] : List Value).toArray s = true := atoms_spec (ws := wsX6_lacks_) B.pre
  have hown : s.vm.findClass RX6 = some m.cls := findClass_of_methodNamed B.named
  have hlk : meth.locks = false := B.notSynchronized
  subst hsz
  have hD := hD0.self (sz := s.heap.size)
  generalize hAe : va_A (wM cC cI cJ h0 h1 h2 h3 h4 h5 u) s.heap.size = A at hD ⊢
  have hA : ∀ q : Nat, s.heap.size ≤ q → A q := fun q h => by rw [← hAe]; exact Or.inr h
  have hS : va_S A s.heap s.heap [] := va_S.rf
  have hP : va_P D vwCl [(h0, .inr (5, [.ref h1, .ref h2, .ref h3, .int u.2.2.2.1, .ref h4, .ref h5, .int u.2.2.2.2.2.2.1, .int u.2.2.2.2.2.2.2])), (h1, .inl (cJ, 8, .inr (.inl u.1))), (h2, .inl (cI, 8, .inl u.2.1)), (h3, .inl (cJ, 8, .inr (.inl u.2.2.1))), (h4, .inl (cC, 40, .inl u.2.2.2.2.1)), (h5, .inl (cI, 40, .inl u.2.2.2.2.2.1))] s.heap := hP
  have hD : va_D A [(h0, .inr (5, [.ref h1, .ref h2, .ref h3, .int u.2.2.2.1, .ref h4, .ref h5, .int u.2.2.2.2.2.2.1, .int u.2.2.2.2.2.2.2])), (h1, .inl (cJ, 8, .inr (.inl u.1))), (h2, .inl (cI, 8, .inl u.2.1)), (h3, .inl (cJ, 8, .inr (.inl u.2.2.1))), (h4, .inl (cC, 40, .inl u.2.2.2.2.1)), (h5, .inl (cI, 40, .inl u.2.2.2.2.2.1))] := hD
  have hl := lv_entry ([.ref h0, .int a0, .int a1]) (n := 3) (Nat.le_of_ble_eq_true rfl)
  rw [lg_entry_eq]
  generalize (lg_sl ([.ref h0, .int a0, .int a1]) ++ List.replicate (3 - (lg_sl ([.ref h0, .int a0, .int a1])).length) Slot.unset).toArray = ls at hl ⊢
  have hl : lv_has ls 3 [(0, .ref h0), (1, .int a0), (2, .int a1)] := hl
  unfold f_X6_lacks_ at hf
  refine lv_aload_n hx hb dX6_lacks__0 rfl (lv_at hl 0 rfl) ?_
  refine lv_iload_n hx hb dX6_lacks__1 rfl (lv_at hl 1 rfl) ?_
  refine my_callPi (As := [.int a0]) (n := 1) (rest := [.ref h0]) ⟨hx, hb, hml, hown, hts⟩ (m_X6_isSlot l a0 _ rfl) gX6_lacks__X6_isSlot rfl ⟨rfl, rfl⟩ (by decide +kernel) ⟨Nat.le_of_ble_eq_true rfl, Nat.le_of_ble_eq_true rfl⟩ ⟨Nat.le_of_ble_eq_true rfl, Nat.le_of_ble_eq_true rfl⟩ hl.1 rfl rfl (Nat.le_of_ble_eq_true rfl) dX6_lacks__2 ?_
  refine my_bz_eq (x := (f_X6_isSlot a0)) (tgt := 19) hx hb dX6_lacks__5 (by decide) (fun c1 => ?_) (fun c1 => ?_)
  · rw [if_pos c1] at hf
    refine lv_iconst (v := 0) hx hb dX6_lacks__19 (by decide) ?_
    refine lv_iconst (v := 1) hx hb dX6_lacks__20 (by decide) ?_
    refine my_callMi (As := [.int (b2i false), .int 1]) (n := 2) (rest := []) (wr := []) ⟨hx, hb, hml, hown, hts⟩ hK hP hD hS hA [0, 1, 2, 3, 4, 5] [] rfl rfl (by decide) (by decide) (by decide) (m_X6_no l D cC cI cJ h0 h1 h2 h3 h4 h5 u s.heap.size false 1 _ (no_f u 1)) gX6_lacks__X6_no rfl ⟨rfl, rfl⟩ (ci := 5) rfl rfl (by decide +kernel) ⟨Nat.le_of_ble_eq_true rfl, Nat.le_of_ble_eq_true rfl⟩ ⟨Nat.le_of_ble_eq_true rfl, Nat.le_of_ble_eq_true rfl⟩ hl.1 rfl rfl (Nat.le_of_ble_eq_true rfl) dX6_lacks__21 (fun r9 u9 H locs hw hP hD hS => ?_)
    obtain ⟨rfl, rfl⟩ := hw
    have hP : va_P D vwCl [(h0, .inr (5, [.ref h1, .ref h2, .ref h3, .int u.2.2.2.1, .ref h4, .ref h5, .int u.2.2.2.2.2.2.1, .int 1])), (h1, .inl (cJ, 8, .inr (.inl u.1))), (h2, .inl (cI, 8, .inl u.2.1)), (h3, .inl (cJ, 8, .inr (.inl u.2.2.1))), (h4, .inl (cC, 40, .inl u.2.2.2.2.1)), (h5, .inl (cI, 40, .inl u.2.2.2.2.2.1))] H := hP.sub [0, 1, 2, 3, 4, 5] rfl
    have hD : va_D A [(h0, .inr (5, [.ref h1, .ref h2, .ref h3, .int u.2.2.2.1, .ref h4, .ref h5, .int u.2.2.2.2.2.2.1, .int 1])), (h1, .inl (cJ, 8, .inr (.inl u.1))), (h2, .inl (cI, 8, .inl u.2.1)), (h3, .inl (cJ, 8, .inr (.inl u.2.2.1))), (h4, .inl (cC, 40, .inl u.2.2.2.2.1)), (h5, .inl (cI, 40, .inl u.2.2.2.2.2.1))] := hD.sub [0, 1, 2, 3, 4, 5] (by decide) rfl
    have hP9 : va_P D vwCl (wM cC cI cJ h0 h1 h2 h3 h4 h5 (u.1, (u.2.1, (u.2.2.1, (u.2.2.2.1, (u.2.2.2.2.1, (u.2.2.2.2.2.1, (u.2.2.2.2.2.2.1, 1)))))))) _ := hP
    have hD9 : va_D A (wM cC cI cJ h0 h1 h2 h3 h4 h5 (u.1, (u.2.1, (u.2.2.1, (u.2.2.2.1, (u.2.2.2.2.1, (u.2.2.2.2.2.1, (u.2.2.2.2.2.2.1, 1)))))))) := hD
    have hf := Option.some.inj hf
    have hf1 := congrArg (fun z => b2i z.1) hf
    have hf2 := congrArg Prod.snd hf
    exact W.zret (v := b2i true) (ty := .boolean) hx hb hr (b2i_nar _) (fun t ht hW => ⟨⟨b2i true, (u.1, (u.2.1, (u.2.2.1, (u.2.2.2.1, (u.2.2.2.2.1, (u.2.2.2.2.2.1, (u.2.2.2.2.2.2.1, 1))))))), rfl, ⟨hf1, hf2⟩, by rw [ht]; exact hP9, va_K.moved hW.alike hK, hD9⟩, hS.F ht⟩) hS.2.2 dX6_lacks__24
  · rw [if_neg c1] at hf
    refine lv_iload_n hx hb dX6_lacks__8 rfl (lv_at hl 2 rfl) ?_
    refine my_callPi (As := [.int a1]) (n := 1) (rest := [.ref h0]) ⟨hx, hb, hml, hown, hts⟩ (m_X6_isSlot l a1 _ rfl) gX6_lacks__X6_isSlot rfl ⟨rfl, rfl⟩ (by decide +kernel) ⟨Nat.le_of_ble_eq_true rfl, Nat.le_of_ble_eq_true rfl⟩ ⟨Nat.le_of_ble_eq_true rfl, Nat.le_of_ble_eq_true rfl⟩ hl.1 rfl rfl (Nat.le_of_ble_eq_true rfl) dX6_lacks__9 ?_
    refine my_bz_eq (x := (f_X6_isSlot a1)) (tgt := 19) hx hb dX6_lacks__12 (by decide) (fun c2 => ?_) (fun c2 => ?_)
    · rw [if_pos c2] at hf
      refine lv_iconst (v := 0) hx hb dX6_lacks__19 (by decide) ?_
      refine lv_iconst (v := 1) hx hb dX6_lacks__20 (by decide) ?_
      refine my_callMi (As := [.int (b2i false), .int 1]) (n := 2) (rest := []) (wr := []) ⟨hx, hb, hml, hown, hts⟩ hK hP hD hS hA [0, 1, 2, 3, 4, 5] [] rfl rfl (by decide) (by decide) (by decide) (m_X6_no l D cC cI cJ h0 h1 h2 h3 h4 h5 u s.heap.size false 1 _ (no_f u 1)) gX6_lacks__X6_no rfl ⟨rfl, rfl⟩ (ci := 5) rfl rfl (by decide +kernel) ⟨Nat.le_of_ble_eq_true rfl, Nat.le_of_ble_eq_true rfl⟩ ⟨Nat.le_of_ble_eq_true rfl, Nat.le_of_ble_eq_true rfl⟩ hl.1 rfl rfl (Nat.le_of_ble_eq_true rfl) dX6_lacks__21 (fun r9 u9 H locs hw hP hD hS => ?_)
      obtain ⟨rfl, rfl⟩ := hw
      have hP : va_P D vwCl [(h0, .inr (5, [.ref h1, .ref h2, .ref h3, .int u.2.2.2.1, .ref h4, .ref h5, .int u.2.2.2.2.2.2.1, .int 1])), (h1, .inl (cJ, 8, .inr (.inl u.1))), (h2, .inl (cI, 8, .inl u.2.1)), (h3, .inl (cJ, 8, .inr (.inl u.2.2.1))), (h4, .inl (cC, 40, .inl u.2.2.2.2.1)), (h5, .inl (cI, 40, .inl u.2.2.2.2.2.1))] H := hP.sub [0, 1, 2, 3, 4, 5] rfl
      have hD : va_D A [(h0, .inr (5, [.ref h1, .ref h2, .ref h3, .int u.2.2.2.1, .ref h4, .ref h5, .int u.2.2.2.2.2.2.1, .int 1])), (h1, .inl (cJ, 8, .inr (.inl u.1))), (h2, .inl (cI, 8, .inl u.2.1)), (h3, .inl (cJ, 8, .inr (.inl u.2.2.1))), (h4, .inl (cC, 40, .inl u.2.2.2.2.1)), (h5, .inl (cI, 40, .inl u.2.2.2.2.2.1))] := hD.sub [0, 1, 2, 3, 4, 5] (by decide) rfl
      have hP9 : va_P D vwCl (wM cC cI cJ h0 h1 h2 h3 h4 h5 (u.1, (u.2.1, (u.2.2.1, (u.2.2.2.1, (u.2.2.2.2.1, (u.2.2.2.2.2.1, (u.2.2.2.2.2.2.1, 1)))))))) _ := hP
      have hD9 : va_D A (wM cC cI cJ h0 h1 h2 h3 h4 h5 (u.1, (u.2.1, (u.2.2.1, (u.2.2.2.1, (u.2.2.2.2.1, (u.2.2.2.2.2.1, (u.2.2.2.2.2.2.1, 1)))))))) := hD
      have hf := Option.some.inj hf
      have hf1 := congrArg (fun z => b2i z.1) hf
      have hf2 := congrArg Prod.snd hf
      exact W.zret (v := b2i true) (ty := .boolean) hx hb hr (b2i_nar _) (fun t ht hW => ⟨⟨b2i true, (u.1, (u.2.1, (u.2.2.1, (u.2.2.2.1, (u.2.2.2.2.1, (u.2.2.2.2.2.1, (u.2.2.2.2.2.2.1, 1))))))), rfl, ⟨hf1, hf2⟩, by rw [ht]; exact hP9, va_K.moved hW.alike hK, hD9⟩, hS.F ht⟩) hS.2.2 dX6_lacks__24
    · rw [if_neg c2] at hf
      refine lv_iconst (v := 1) hx hb dX6_lacks__15 (by decide) ?_
      refine lv_goto (tgt := 20) hx hb dX6_lacks__16 (by decide) ?_
      refine lv_iconst (v := 1) hx hb dX6_lacks__20 (by decide) ?_
      refine my_callMi (As := [.int (b2i true), .int 1]) (n := 2) (rest := []) (wr := []) ⟨hx, hb, hml, hown, hts⟩ hK hP hD hS hA [0, 1, 2, 3, 4, 5] [] rfl rfl (by decide) (by decide) (by decide) (m_X6_no l D cC cI cJ h0 h1 h2 h3 h4 h5 u s.heap.size true 1 _ (no_t u 1)) gX6_lacks__X6_no rfl ⟨rfl, rfl⟩ (ci := 5) rfl rfl (by decide +kernel) ⟨Nat.le_of_ble_eq_true rfl, Nat.le_of_ble_eq_true rfl⟩ ⟨Nat.le_of_ble_eq_true rfl, Nat.le_of_ble_eq_true rfl⟩ hl.1 rfl rfl (Nat.le_of_ble_eq_true rfl) dX6_lacks__21 (fun r9 u9 H locs hw hP hD hS => ?_)
      obtain ⟨rfl, rfl⟩ := hw
      have hP : va_P D vwCl [(h0, .inr (5, [.ref h1, .ref h2, .ref h3, .int u.2.2.2.1, .ref h4, .ref h5, .int u.2.2.2.2.2.2.1, .int 0])), (h1, .inl (cJ, 8, .inr (.inl u.1))), (h2, .inl (cI, 8, .inl u.2.1)), (h3, .inl (cJ, 8, .inr (.inl u.2.2.1))), (h4, .inl (cC, 40, .inl u.2.2.2.2.1)), (h5, .inl (cI, 40, .inl u.2.2.2.2.2.1))] H := hP.sub [0, 1, 2, 3, 4, 5] rfl
      have hD : va_D A [(h0, .inr (5, [.ref h1, .ref h2, .ref h3, .int u.2.2.2.1, .ref h4, .ref h5, .int u.2.2.2.2.2.2.1, .int 0])), (h1, .inl (cJ, 8, .inr (.inl u.1))), (h2, .inl (cI, 8, .inl u.2.1)), (h3, .inl (cJ, 8, .inr (.inl u.2.2.1))), (h4, .inl (cC, 40, .inl u.2.2.2.2.1)), (h5, .inl (cI, 40, .inl u.2.2.2.2.2.1))] := hD.sub [0, 1, 2, 3, 4, 5] (by decide) rfl
      have hP9 : va_P D vwCl (wM cC cI cJ h0 h1 h2 h3 h4 h5 (u.1, (u.2.1, (u.2.2.1, (u.2.2.2.1, (u.2.2.2.2.1, (u.2.2.2.2.2.1, (u.2.2.2.2.2.2.1, 0)))))))) _ := hP
      have hD9 : va_D A (wM cC cI cJ h0 h1 h2 h3 h4 h5 (u.1, (u.2.1, (u.2.2.1, (u.2.2.2.1, (u.2.2.2.2.1, (u.2.2.2.2.2.1, (u.2.2.2.2.2.2.1, 0)))))))) := hD
      have hf := Option.some.inj hf
      have hf1 := congrArg (fun z => b2i z.1) hf
      have hf2 := congrArg Prod.snd hf
      exact W.zret (v := b2i false) (ty := .boolean) hx hb hr (b2i_nar _) (fun t ht hW => ⟨⟨b2i false, (u.1, (u.2.1, (u.2.2.1, (u.2.2.2.1, (u.2.2.2.2.1, (u.2.2.2.2.2.1, (u.2.2.2.2.2.2.1, 0))))))), rfl, ⟨hf1, hf2⟩, by rw [ht]; exact hP9, va_K.moved hW.alike hK, hD9⟩, hS.F ht⟩) hS.2.2 dX6_lacks__24

set_option maxHeartbeats 4000000 in
set_option maxRecDepth 100000 in
theorem m_X6_lacks__ (l : Launch) (D : va_G) (cC cI cJ : ClassId) (h0 h1 h2 h3 h4 h5 : Nat) (u : StM) (sz : Nat) (a0 : Int32) (a1 : Int32) (a2 : Int32) (res : Bool × StM) (hf : f_X6_lacks__ u a0 a1 a2 = some res) : Met l yX6_lacks__ wsX6_lacks__ rmX6_lacks__ (my_PcM D vwCl (KT cC cI cJ) sz (wM cC cI cJ h0 h1 h2 h3 h4 h5 u) [.ref h0, .int a0, .int a1, .int a2]) (va_Qi (fun r v => r = b2i res.1 ∧ v = res.2) (my_B D vwCl (KT cC cI cJ) (va_A (wM cC cI cJ h0 h1 h2 h3 h4 h5 u) sz) (fun v : StM => (wM cC cI cJ h0 h1 h2 h3 h4 h5 v))) (va_A (wM cC cI cJ h0 h1 h2 h3 h4 h5 u) sz)) 0 0 (va_A (wM cC cI cJ h0 h1 h2 h3 h4 h5 u) sz) := by
  refine Met.ofW (cc := cX6_lacks__) (maxL := 4) (ret := (some .boolean)) (by decide) rfl ?_
  intro p e s m args below meth c s₁ B hml hv
  obtain ⟨rfl, hsz, hP, hK, hD0⟩ := hv
  have hx := B.exec
  have hb := B.bytes
  have hr := B.returns
  have hts : ∀ w ∈ wsX6_lacks__, w.before ([.ref h0, .int a0, .int a1, .int a2] : List Value).toArray s = true := atoms_spec (ws := wsX6_lacks__) B.pre
  have hown : s.vm.findClass RX6 = some m.cls := findClass_of_methodNamed B.named
  have hlk : meth.locks = false := B.notSynchronized
  subst hsz
  have hD := hD0.self (sz := s.heap.size)
  generalize hAe : va_A (wM cC cI cJ h0 h1 h2 h3 h4 h5 u) s.heap.size = A at hD ⊢
  have hA : ∀ q : Nat, s.heap.size ≤ q → A q := fun q h => by rw [← hAe]; exact Or.inr h
  have hS : va_S A s.heap s.heap [] := va_S.rf
  have hP : va_P D vwCl [(h0, .inr (5, [.ref h1, .ref h2, .ref h3, .int u.2.2.2.1, .ref h4, .ref h5, .int u.2.2.2.2.2.2.1, .int u.2.2.2.2.2.2.2])), (h1, .inl (cJ, 8, .inr (.inl u.1))), (h2, .inl (cI, 8, .inl u.2.1)), (h3, .inl (cJ, 8, .inr (.inl u.2.2.1))), (h4, .inl (cC, 40, .inl u.2.2.2.2.1)), (h5, .inl (cI, 40, .inl u.2.2.2.2.2.1))] s.heap := hP
  have hD : va_D A [(h0, .inr (5, [.ref h1, .ref h2, .ref h3, .int u.2.2.2.1, .ref h4, .ref h5, .int u.2.2.2.2.2.2.1, .int u.2.2.2.2.2.2.2])), (h1, .inl (cJ, 8, .inr (.inl u.1))), (h2, .inl (cI, 8, .inl u.2.1)), (h3, .inl (cJ, 8, .inr (.inl u.2.2.1))), (h4, .inl (cC, 40, .inl u.2.2.2.2.1)), (h5, .inl (cI, 40, .inl u.2.2.2.2.2.1))] := hD
  have hl := lv_entry ([.ref h0, .int a0, .int a1, .int a2]) (n := 4) (Nat.le_of_ble_eq_true rfl)
  rw [lg_entry_eq]
  generalize (lg_sl ([.ref h0, .int a0, .int a1, .int a2]) ++ List.replicate (4 - (lg_sl ([.ref h0, .int a0, .int a1, .int a2])).length) Slot.unset).toArray = ls at hl ⊢
  have hl : lv_has ls 4 [(0, .ref h0), (1, .int a0), (2, .int a1), (3, .int a2)] := hl
  unfold f_X6_lacks__ at hf
  refine lv_aload_n hx hb dX6_lacks___0 rfl (lv_at hl 0 rfl) ?_
  refine lv_iload_n hx hb dX6_lacks___1 rfl (lv_at hl 1 rfl) ?_
  refine my_callPi (As := [.int a0]) (n := 1) (rest := [.ref h0]) ⟨hx, hb, hml, hown, hts⟩ (m_X6_isSlot l a0 _ rfl) gX6_lacks___X6_isSlot rfl ⟨rfl, rfl⟩ (by decide +kernel) ⟨Nat.le_of_ble_eq_true rfl, Nat.le_of_ble_eq_true rfl⟩ ⟨Nat.le_of_ble_eq_true rfl, Nat.le_of_ble_eq_true rfl⟩ hl.1 rfl rfl (Nat.le_of_ble_eq_true rfl) dX6_lacks___2 ?_
  refine my_bz_eq (x := (f_X6_isSlot a0)) (tgt := 26) hx hb dX6_lacks___5 (by decide) (fun c1 => ?_) (fun c1 => ?_)
  · rw [if_pos c1] at hf
    refine lv_iconst (v := 0) hx hb dX6_lacks___26 (by decide) ?_
    refine lv_iconst (v := 1) hx hb dX6_lacks___27 (by decide) ?_
    refine my_callMi (As := [.int (b2i false), .int 1]) (n := 2) (rest := []) (wr := []) ⟨hx, hb, hml, hown, hts⟩ hK hP hD hS hA [0, 1, 2, 3, 4, 5] [] rfl rfl (by decide) (by decide) (by decide) (m_X6_no l D cC cI cJ h0 h1 h2 h3 h4 h5 u s.heap.size false 1 _ (no_f u 1)) gX6_lacks___X6_no rfl ⟨rfl, rfl⟩ (ci := 5) rfl rfl (by decide +kernel) ⟨Nat.le_of_ble_eq_true rfl, Nat.le_of_ble_eq_true rfl⟩ ⟨Nat.le_of_ble_eq_true rfl, Nat.le_of_ble_eq_true rfl⟩ hl.1 rfl rfl (Nat.le_of_ble_eq_true rfl) dX6_lacks___28 (fun r9 u9 H locs hw hP hD hS => ?_)
    obtain ⟨rfl, rfl⟩ := hw
    have hP : va_P D vwCl [(h0, .inr (5, [.ref h1, .ref h2, .ref h3, .int u.2.2.2.1, .ref h4, .ref h5, .int u.2.2.2.2.2.2.1, .int 1])), (h1, .inl (cJ, 8, .inr (.inl u.1))), (h2, .inl (cI, 8, .inl u.2.1)), (h3, .inl (cJ, 8, .inr (.inl u.2.2.1))), (h4, .inl (cC, 40, .inl u.2.2.2.2.1)), (h5, .inl (cI, 40, .inl u.2.2.2.2.2.1))] H := hP.sub [0, 1, 2, 3, 4, 5] rfl
    have hD : va_D A [(h0, .inr (5, [.ref h1, .ref h2, .ref h3, .int u.2.2.2.1, .ref h4, .ref h5, .int u.2.2.2.2.2.2.1, .int 1])), (h1, .inl (cJ, 8, .inr (.inl u.1))), (h2, .inl (cI, 8, .inl u.2.1)), (h3, .inl (cJ, 8, .inr (.inl u.2.2.1))), (h4, .inl (cC, 40, .inl u.2.2.2.2.1)), (h5, .inl (cI, 40, .inl u.2.2.2.2.2.1))] := hD.sub [0, 1, 2, 3, 4, 5] (by decide) rfl
    have hP9 : va_P D vwCl (wM cC cI cJ h0 h1 h2 h3 h4 h5 (u.1, (u.2.1, (u.2.2.1, (u.2.2.2.1, (u.2.2.2.2.1, (u.2.2.2.2.2.1, (u.2.2.2.2.2.2.1, 1)))))))) _ := hP
    have hD9 : va_D A (wM cC cI cJ h0 h1 h2 h3 h4 h5 (u.1, (u.2.1, (u.2.2.1, (u.2.2.2.1, (u.2.2.2.2.1, (u.2.2.2.2.2.1, (u.2.2.2.2.2.2.1, 1)))))))) := hD
    have hf := Option.some.inj hf
    have hf1 := congrArg (fun z => b2i z.1) hf
    have hf2 := congrArg Prod.snd hf
    exact W.zret (v := b2i true) (ty := .boolean) hx hb hr (b2i_nar _) (fun t ht hW => ⟨⟨b2i true, (u.1, (u.2.1, (u.2.2.1, (u.2.2.2.1, (u.2.2.2.2.1, (u.2.2.2.2.2.1, (u.2.2.2.2.2.2.1, 1))))))), rfl, ⟨hf1, hf2⟩, by rw [ht]; exact hP9, va_K.moved hW.alike hK, hD9⟩, hS.F ht⟩) hS.2.2 dX6_lacks___31
  · rw [if_neg c1] at hf
    refine lv_iload_n hx hb dX6_lacks___8 rfl (lv_at hl 2 rfl) ?_
    refine my_callPi (As := [.int a1]) (n := 1) (rest := [.ref h0]) ⟨hx, hb, hml, hown, hts⟩ (m_X6_isSlot l a1 _ rfl) gX6_lacks___X6_isSlot rfl ⟨rfl, rfl⟩ (by decide +kernel) ⟨Nat.le_of_ble_eq_true rfl, Nat.le_of_ble_eq_true rfl⟩ ⟨Nat.le_of_ble_eq_true rfl, Nat.le_of_ble_eq_true rfl⟩ hl.1 rfl rfl (Nat.le_of_ble_eq_true rfl) dX6_lacks___9 ?_
    refine my_bz_eq (x := (f_X6_isSlot a1)) (tgt := 26) hx hb dX6_lacks___12 (by decide) (fun c2 => ?_) (fun c2 => ?_)
    · rw [if_pos c2] at hf
      refine lv_iconst (v := 0) hx hb dX6_lacks___26 (by decide) ?_
      refine lv_iconst (v := 1) hx hb dX6_lacks___27 (by decide) ?_
      refine my_callMi (As := [.int (b2i false), .int 1]) (n := 2) (rest := []) (wr := []) ⟨hx, hb, hml, hown, hts⟩ hK hP hD hS hA [0, 1, 2, 3, 4, 5] [] rfl rfl (by decide) (by decide) (by decide) (m_X6_no l D cC cI cJ h0 h1 h2 h3 h4 h5 u s.heap.size false 1 _ (no_f u 1)) gX6_lacks___X6_no rfl ⟨rfl, rfl⟩ (ci := 5) rfl rfl (by decide +kernel) ⟨Nat.le_of_ble_eq_true rfl, Nat.le_of_ble_eq_true rfl⟩ ⟨Nat.le_of_ble_eq_true rfl, Nat.le_of_ble_eq_true rfl⟩ hl.1 rfl rfl (Nat.le_of_ble_eq_true rfl) dX6_lacks___28 (fun r9 u9 H locs hw hP hD hS => ?_)
      obtain ⟨rfl, rfl⟩ := hw
      have hP : va_P D vwCl [(h0, .inr (5, [.ref h1, .ref h2, .ref h3, .int u.2.2.2.1, .ref h4, .ref h5, .int u.2.2.2.2.2.2.1, .int 1])), (h1, .inl (cJ, 8, .inr (.inl u.1))), (h2, .inl (cI, 8, .inl u.2.1)), (h3, .inl (cJ, 8, .inr (.inl u.2.2.1))), (h4, .inl (cC, 40, .inl u.2.2.2.2.1)), (h5, .inl (cI, 40, .inl u.2.2.2.2.2.1))] H := hP.sub [0, 1, 2, 3, 4, 5] rfl
      have hD : va_D A [(h0, .inr (5, [.ref h1, .ref h2, .ref h3, .int u.2.2.2.1, .ref h4, .ref h5, .int u.2.2.2.2.2.2.1, .int 1])), (h1, .inl (cJ, 8, .inr (.inl u.1))), (h2, .inl (cI, 8, .inl u.2.1)), (h3, .inl (cJ, 8, .inr (.inl u.2.2.1))), (h4, .inl (cC, 40, .inl u.2.2.2.2.1)), (h5, .inl (cI, 40, .inl u.2.2.2.2.2.1))] := hD.sub [0, 1, 2, 3, 4, 5] (by decide) rfl
      have hP9 : va_P D vwCl (wM cC cI cJ h0 h1 h2 h3 h4 h5 (u.1, (u.2.1, (u.2.2.1, (u.2.2.2.1, (u.2.2.2.2.1, (u.2.2.2.2.2.1, (u.2.2.2.2.2.2.1, 1)))))))) _ := hP
      have hD9 : va_D A (wM cC cI cJ h0 h1 h2 h3 h4 h5 (u.1, (u.2.1, (u.2.2.1, (u.2.2.2.1, (u.2.2.2.2.1, (u.2.2.2.2.2.1, (u.2.2.2.2.2.2.1, 1)))))))) := hD
      have hf := Option.some.inj hf
      have hf1 := congrArg (fun z => b2i z.1) hf
      have hf2 := congrArg Prod.snd hf
      exact W.zret (v := b2i true) (ty := .boolean) hx hb hr (b2i_nar _) (fun t ht hW => ⟨⟨b2i true, (u.1, (u.2.1, (u.2.2.1, (u.2.2.2.1, (u.2.2.2.2.1, (u.2.2.2.2.2.1, (u.2.2.2.2.2.2.1, 1))))))), rfl, ⟨hf1, hf2⟩, by rw [ht]; exact hP9, va_K.moved hW.alike hK, hD9⟩, hS.F ht⟩) hS.2.2 dX6_lacks___31
    · rw [if_neg c2] at hf
      refine lv_iload_n hx hb dX6_lacks___15 rfl (lv_at hl 3 rfl) ?_
      refine my_callPi (As := [.int a2]) (n := 1) (rest := [.ref h0]) ⟨hx, hb, hml, hown, hts⟩ (m_X6_isSlot l a2 _ rfl) gX6_lacks___X6_isSlot rfl ⟨rfl, rfl⟩ (by decide +kernel) ⟨Nat.le_of_ble_eq_true rfl, Nat.le_of_ble_eq_true rfl⟩ ⟨Nat.le_of_ble_eq_true rfl, Nat.le_of_ble_eq_true rfl⟩ hl.1 rfl rfl (Nat.le_of_ble_eq_true rfl) dX6_lacks___16 ?_
      refine my_bz_eq (x := (f_X6_isSlot a2)) (tgt := 26) hx hb dX6_lacks___19 (by decide) (fun c3 => ?_) (fun c3 => ?_)
      · rw [if_pos c3] at hf
        refine lv_iconst (v := 0) hx hb dX6_lacks___26 (by decide) ?_
        refine lv_iconst (v := 1) hx hb dX6_lacks___27 (by decide) ?_
        refine my_callMi (As := [.int (b2i false), .int 1]) (n := 2) (rest := []) (wr := []) ⟨hx, hb, hml, hown, hts⟩ hK hP hD hS hA [0, 1, 2, 3, 4, 5] [] rfl rfl (by decide) (by decide) (by decide) (m_X6_no l D cC cI cJ h0 h1 h2 h3 h4 h5 u s.heap.size false 1 _ (no_f u 1)) gX6_lacks___X6_no rfl ⟨rfl, rfl⟩ (ci := 5) rfl rfl (by decide +kernel) ⟨Nat.le_of_ble_eq_true rfl, Nat.le_of_ble_eq_true rfl⟩ ⟨Nat.le_of_ble_eq_true rfl, Nat.le_of_ble_eq_true rfl⟩ hl.1 rfl rfl (Nat.le_of_ble_eq_true rfl) dX6_lacks___28 (fun r9 u9 H locs hw hP hD hS => ?_)
        obtain ⟨rfl, rfl⟩ := hw
        have hP : va_P D vwCl [(h0, .inr (5, [.ref h1, .ref h2, .ref h3, .int u.2.2.2.1, .ref h4, .ref h5, .int u.2.2.2.2.2.2.1, .int 1])), (h1, .inl (cJ, 8, .inr (.inl u.1))), (h2, .inl (cI, 8, .inl u.2.1)), (h3, .inl (cJ, 8, .inr (.inl u.2.2.1))), (h4, .inl (cC, 40, .inl u.2.2.2.2.1)), (h5, .inl (cI, 40, .inl u.2.2.2.2.2.1))] H := hP.sub [0, 1, 2, 3, 4, 5] rfl
        have hD : va_D A [(h0, .inr (5, [.ref h1, .ref h2, .ref h3, .int u.2.2.2.1, .ref h4, .ref h5, .int u.2.2.2.2.2.2.1, .int 1])), (h1, .inl (cJ, 8, .inr (.inl u.1))), (h2, .inl (cI, 8, .inl u.2.1)), (h3, .inl (cJ, 8, .inr (.inl u.2.2.1))), (h4, .inl (cC, 40, .inl u.2.2.2.2.1)), (h5, .inl (cI, 40, .inl u.2.2.2.2.2.1))] := hD.sub [0, 1, 2, 3, 4, 5] (by decide) rfl
        have hP9 : va_P D vwCl (wM cC cI cJ h0 h1 h2 h3 h4 h5 (u.1, (u.2.1, (u.2.2.1, (u.2.2.2.1, (u.2.2.2.2.1, (u.2.2.2.2.2.1, (u.2.2.2.2.2.2.1, 1)))))))) _ := hP
        have hD9 : va_D A (wM cC cI cJ h0 h1 h2 h3 h4 h5 (u.1, (u.2.1, (u.2.2.1, (u.2.2.2.1, (u.2.2.2.2.1, (u.2.2.2.2.2.1, (u.2.2.2.2.2.2.1, 1)))))))) := hD
        have hf := Option.some.inj hf
        have hf1 := congrArg (fun z => b2i z.1) hf
        have hf2 := congrArg Prod.snd hf
        exact W.zret (v := b2i true) (ty := .boolean) hx hb hr (b2i_nar _) (fun t ht hW => ⟨⟨b2i true, (u.1, (u.2.1, (u.2.2.1, (u.2.2.2.1, (u.2.2.2.2.1, (u.2.2.2.2.2.1, (u.2.2.2.2.2.2.1, 1))))))), rfl, ⟨hf1, hf2⟩, by rw [ht]; exact hP9, va_K.moved hW.alike hK, hD9⟩, hS.F ht⟩) hS.2.2 dX6_lacks___31
      · rw [if_neg c3] at hf
        refine lv_iconst (v := 1) hx hb dX6_lacks___22 (by decide) ?_
        refine lv_goto (tgt := 27) hx hb dX6_lacks___23 (by decide) ?_
        refine lv_iconst (v := 1) hx hb dX6_lacks___27 (by decide) ?_
        refine my_callMi (As := [.int (b2i true), .int 1]) (n := 2) (rest := []) (wr := []) ⟨hx, hb, hml, hown, hts⟩ hK hP hD hS hA [0, 1, 2, 3, 4, 5] [] rfl rfl (by decide) (by decide) (by decide) (m_X6_no l D cC cI cJ h0 h1 h2 h3 h4 h5 u s.heap.size true 1 _ (no_t u 1)) gX6_lacks___X6_no rfl ⟨rfl, rfl⟩ (ci := 5) rfl rfl (by decide +kernel) ⟨Nat.le_of_ble_eq_true rfl, Nat.le_of_ble_eq_true rfl⟩ ⟨Nat.le_of_ble_eq_true rfl, Nat.le_of_ble_eq_true rfl⟩ hl.1 rfl rfl (Nat.le_of_ble_eq_true rfl) dX6_lacks___28 (fun r9 u9 H locs hw hP hD hS => ?_)
        obtain ⟨rfl, rfl⟩ := hw
        have hP : va_P D vwCl [(h0, .inr (5, [.ref h1, .ref h2, .ref h3, .int u.2.2.2.1, .ref h4, .ref h5, .int u.2.2.2.2.2.2.1, .int 0])), (h1, .inl (cJ, 8, .inr (.inl u.1))), (h2, .inl (cI, 8, .inl u.2.1)), (h3, .inl (cJ, 8, .inr (.inl u.2.2.1))), (h4, .inl (cC, 40, .inl u.2.2.2.2.1)), (h5, .inl (cI, 40, .inl u.2.2.2.2.2.1))] H := hP.sub [0, 1, 2, 3, 4, 5] rfl
        have hD : va_D A [(h0, .inr (5, [.ref h1, .ref h2, .ref h3, .int u.2.2.2.1, .ref h4, .ref h5, .int u.2.2.2.2.2.2.1, .int 0])), (h1, .inl (cJ, 8, .inr (.inl u.1))), (h2, .inl (cI, 8, .inl u.2.1)), (h3, .inl (cJ, 8, .inr (.inl u.2.2.1))), (h4, .inl (cC, 40, .inl u.2.2.2.2.1)), (h5, .inl (cI, 40, .inl u.2.2.2.2.2.1))] := hD.sub [0, 1, 2, 3, 4, 5] (by decide) rfl
        have hP9 : va_P D vwCl (wM cC cI cJ h0 h1 h2 h3 h4 h5 (u.1, (u.2.1, (u.2.2.1, (u.2.2.2.1, (u.2.2.2.2.1, (u.2.2.2.2.2.1, (u.2.2.2.2.2.2.1, 0)))))))) _ := hP
        have hD9 : va_D A (wM cC cI cJ h0 h1 h2 h3 h4 h5 (u.1, (u.2.1, (u.2.2.1, (u.2.2.2.1, (u.2.2.2.2.1, (u.2.2.2.2.2.1, (u.2.2.2.2.2.2.1, 0)))))))) := hD
        have hf := Option.some.inj hf
        have hf1 := congrArg (fun z => b2i z.1) hf
        have hf2 := congrArg Prod.snd hf
        exact W.zret (v := b2i false) (ty := .boolean) hx hb hr (b2i_nar _) (fun t ht hW => ⟨⟨b2i false, (u.1, (u.2.1, (u.2.2.1, (u.2.2.2.1, (u.2.2.2.2.1, (u.2.2.2.2.2.1, (u.2.2.2.2.2.2.1, 0))))))), rfl, ⟨hf1, hf2⟩, by rw [ht]; exact hP9, va_K.moved hW.alike hK, hD9⟩, hS.F ht⟩) hS.2.2 dX6_lacks___31

set_option maxHeartbeats 4000000 in
set_option maxRecDepth 100000 in
theorem m_X6_becomes (l : Launch) (D : va_G) (cC cI cJ : ClassId) (h0 h1 h2 h3 h4 h5 : Nat) (u : StM) (sz : Nat) (a0 : Int32) (a1 : Int64) (res : Int64 × StM) (hf : f_X6_becomes u a0 a1 = some res) : Met l yX6_becomes wsX6_becomes rmX6_becomes (my_PcM D vwCl (KT cC cI cJ) sz (wM cC cI cJ h0 h1 h2 h3 h4 h5 u) [.ref h0, .int a0, .long a1]) (va_Ql (fun r v => r = res.1 ∧ v = res.2) (my_B D vwCl (KT cC cI cJ) (va_A (wM cC cI cJ h0 h1 h2 h3 h4 h5 u) sz) (fun v : StM => (wM cC cI cJ h0 h1 h2 h3 h4 h5 v))) (va_A (wM cC cI cJ h0 h1 h2 h3 h4 h5 u) sz)) 0 0 (va_A (wM cC cI cJ h0 h1 h2 h3 h4 h5 u) sz) := by
  refine Met.ofW (cc := cX6_becomes) (maxL := 5) (ret := (some .long)) (by decide) rfl ?_
  intro p e s m args below meth c s₁ B hml hv
  obtain ⟨rfl, hsz, hP, hK, hD0⟩ := hv
  have hx := B.exec
  have hb := B.bytes
  have hr := B.returns
  have hts : ∀ w ∈ wsX6_becomes, w.before ([.ref h0, .int a0, .long a1] : List Value).toArray s = true := atoms_spec (ws := wsX6_becomes) B.pre
  have hown : s.vm.findClass RX6 = some m.cls := findClass_of_methodNamed B.named
  have hlk : meth.locks = false := B.notSynchronized
  subst hsz
  have hD := hD0.self (sz := s.heap.size)
  generalize hAe : va_A (wM cC cI cJ h0 h1 h2 h3 h4 h5 u) s.heap.size = A at hD ⊢
  have hA : ∀ q : Nat, s.heap.size ≤ q → A q := fun q h => by rw [← hAe]; exact Or.inr h
  have hS : va_S A s.heap s.heap [] := va_S.rf
  have hP : va_P D vwCl [(h0, .inr (5, [.ref h1, .ref h2, .ref h3, .int u.2.2.2.1, .ref h4, .ref h5, .int u.2.2.2.2.2.2.1, .int u.2.2.2.2.2.2.2])), (h1, .inl (cJ, 8, .inr (.inl u.1))), (h2, .inl (cI, 8, .inl u.2.1)), (h3, .inl (cJ, 8, .inr (.inl u.2.2.1))), (h4, .inl (cC, 40, .inl u.2.2.2.2.1)), (h5, .inl (cI, 40, .inl u.2.2.2.2.2.1))] s.heap := hP
  have hD : va_D A [(h0, .inr (5, [.ref h1, .ref h2, .ref h3, .int u.2.2.2.1, .ref h4, .ref h5, .int u.2.2.2.2.2.2.1, .int u.2.2.2.2.2.2.2])), (h1, .inl (cJ, 8, .inr (.inl u.1))), (h2, .inl (cI, 8, .inl u.2.1)), (h3, .inl (cJ, 8, .inr (.inl u.2.2.1))), (h4, .inl (cC, 40, .inl u.2.2.2.2.1)), (h5, .inl (cI, 40, .inl u.2.2.2.2.2.1))] := hD
  have q1 := hts (.fieldLink RX6 91 "DoublelineModel" "kept" "I") (by decide +kernel)
  have q2 : ∀ w ∈ u_ws RX6 TX6 8, w ∈ wsX6_becomes := by decide +kernel
  have q3 := hts (.fieldLink RX6 13 "DoublelineModel" "keptSlots" "[I") (by decide +kernel)
  have q4 := hts (.fieldLink RX6 17 "DoublelineModel" "keptCodes" "[J") (by decide +kernel)
  have q5 := hts (.fieldLink RX6 9 "DoublelineModel" "codes" "[J") (by decide +kernel)
  have hl := lv_entry ([.ref h0, .int a0, .long a1]) (n := 5) (Nat.le_of_ble_eq_true rfl)
  rw [lg_entry_eq]
  generalize (lg_sl ([.ref h0, .int a0, .long a1]) ++ List.replicate (5 - (lg_sl ([.ref h0, .int a0, .long a1])).length) Slot.unset).toArray = ls at hl ⊢
  have hl : lv_has ls 5 [(0, .ref h0), (1, .int a0), (2, .long a1)] := hl
  unfold f_X6_becomes at hf
  refine lv_aload_n hx hb dX6_becomes_0 rfl (lv_at hl 0 rfl) ?_
  refine va_get (D := D) (ci := 5) (v := .int u.2.2.2.1) (C := RX6) (T := TX6) (N := 8) hx hb hts q2 hown hK hP 0 rfl rfl 3 (by decide) q1 (fun _ h9 => h9) rfl dX6_becomes_1 ?_
  refine lv_bipush (v := 8) hx hb dX6_becomes_4 (by decide) ?_
  refine my_ic_ne (tgt := 67) hx hb dX6_becomes_6 (by decide) (fun c1 => ?_) (fun c1 => ?_)
  · rw [if_neg c1] at hf
    refine lv_aload_n hx hb dX6_becomes_67 rfl (lv_at hl 0 rfl) ?_
    refine va_get (D := D) (ci := 5) (v := .ref h2) (C := RX6) (T := TX6) (N := 8) hx hb hts q2 hown hK hP 0 rfl rfl 1 (by decide) q3 (fun _ h9 => h9) rfl dX6_becomes_68 ?_
    refine lv_aload_n hx hb dX6_becomes_71 rfl (lv_at hl 0 rfl) ?_
    refine va_get (D := D) (ci := 5) (v := .int u.2.2.2.1) (C := RX6) (T := TX6) (N := 8) hx hb hts q2 hown hK hP 0 rfl rfl 3 (by decide) q1 (fun _ h9 => h9) rfl dX6_becomes_72 ?_
    refine lv_iload_n hx hb dX6_becomes_75 rfl (lv_at hl 1 rfl) ?_
    obtain ⟨g2, hf⟩ := og_e hf
    refine va_iast hx hb hK hP hD hS 2 1 rfl rfl g2 dX6_becomes_76 (fun H locs hP hD hS => ?_)
    have hP : va_P D vwCl [(h0, .inr (5, [.ref h1, .ref h2, .ref h3, .int u.2.2.2.1, .ref h4, .ref h5, .int u.2.2.2.2.2.2.1, .int u.2.2.2.2.2.2.2])), (h1, .inl (cJ, 8, .inr (.inl u.1))), (h2, .inl (cI, 8, .inl (upd u.2.1 u.2.2.2.1.toNatClampNeg a0))), (h3, .inl (cJ, 8, .inr (.inl u.2.2.1))), (h4, .inl (cC, 40, .inl u.2.2.2.2.1)), (h5, .inl (cI, 40, .inl u.2.2.2.2.2.1))] H := hP
    have hD : va_D A [(h0, .inr (5, [.ref h1, .ref h2, .ref h3, .int u.2.2.2.1, .ref h4, .ref h5, .int u.2.2.2.2.2.2.1, .int u.2.2.2.2.2.2.2])), (h1, .inl (cJ, 8, .inr (.inl u.1))), (h2, .inl (cI, 8, .inl (upd u.2.1 u.2.2.2.1.toNatClampNeg a0))), (h3, .inl (cJ, 8, .inr (.inl u.2.2.1))), (h4, .inl (cC, 40, .inl u.2.2.2.2.1)), (h5, .inl (cI, 40, .inl u.2.2.2.2.2.1))] := hD
    refine lv_aload_n hx hb dX6_becomes_77 rfl (lv_at hl 0 rfl) ?_
    refine va_get (D := D) (ci := 5) (v := .ref h3) (C := RX6) (T := TX6) (N := 8) hx hb hts q2 hown hK hP 0 rfl rfl 2 (by decide) q4 (fun _ h9 => h9) rfl dX6_becomes_78 ?_
    refine lv_aload_n hx hb dX6_becomes_81 rfl (lv_at hl 0 rfl) ?_
    refine va_get (D := D) (ci := 5) (v := .int u.2.2.2.1) (C := RX6) (T := TX6) (N := 8) hx hb hts q2 hown hK hP 0 rfl rfl 3 (by decide) q1 (fun _ h9 => h9) rfl dX6_becomes_82 ?_
    refine lv_aload_n hx hb dX6_becomes_85 rfl (lv_at hl 0 rfl) ?_
    refine va_get (D := D) (ci := 5) (v := .ref h1) (C := RX6) (T := TX6) (N := 8) hx hb hts q2 hown hK hP 0 rfl rfl 0 (by decide) q5 (fun _ h9 => h9) rfl dX6_becomes_86 ?_
    refine lv_iload_n hx hb dX6_becomes_89 rfl (lv_at hl 1 rfl) ?_
    obtain ⟨g3, hf⟩ := og_e hf
    refine va_lald hx hb hK hP 1 2 rfl rfl g3 dX6_becomes_90 ?_
    obtain ⟨g4, hf⟩ := og_e hf
    refine va_last hx hb hK hP hD hS 3 2 rfl rfl g4 dX6_becomes_91 (fun H locs hP hD hS => ?_)
    have hP : va_P D vwCl [(h0, .inr (5, [.ref h1, .ref h2, .ref h3, .int u.2.2.2.1, .ref h4, .ref h5, .int u.2.2.2.2.2.2.1, .int u.2.2.2.2.2.2.2])), (h1, .inl (cJ, 8, .inr (.inl u.1))), (h2, .inl (cI, 8, .inl (upd u.2.1 u.2.2.2.1.toNatClampNeg a0))), (h3, .inl (cJ, 8, .inr (.inl (vp_updL u.2.2.1 u.2.2.2.1.toNatClampNeg (u.1 a0.toNatClampNeg))))), (h4, .inl (cC, 40, .inl u.2.2.2.2.1)), (h5, .inl (cI, 40, .inl u.2.2.2.2.2.1))] H := hP
    have hD : va_D A [(h0, .inr (5, [.ref h1, .ref h2, .ref h3, .int u.2.2.2.1, .ref h4, .ref h5, .int u.2.2.2.2.2.2.1, .int u.2.2.2.2.2.2.2])), (h1, .inl (cJ, 8, .inr (.inl u.1))), (h2, .inl (cI, 8, .inl (upd u.2.1 u.2.2.2.1.toNatClampNeg a0))), (h3, .inl (cJ, 8, .inr (.inl (vp_updL u.2.2.1 u.2.2.2.1.toNatClampNeg (u.1 a0.toNatClampNeg))))), (h4, .inl (cC, 40, .inl u.2.2.2.2.1)), (h5, .inl (cI, 40, .inl u.2.2.2.2.2.1))] := hD
    refine lv_aload_n hx hb dX6_becomes_92 rfl (lv_at hl 0 rfl) ?_
    refine lv_dup hx hb dX6_becomes_93 rfl ?_
    refine va_get (D := D) (ci := 5) (v := .int u.2.2.2.1) (C := RX6) (T := TX6) (N := 8) hx hb hts q2 hown hK hP 0 rfl rfl 3 (by decide) q1 (fun _ h9 => h9) rfl dX6_becomes_94 ?_
    refine lv_iconst (v := 1) hx hb dX6_becomes_97 (by decide) ?_
    refine lv_iadd hx hb dX6_becomes_98 ?_
    refine va_put (D := D) (ci := 5) (v := .int (u.2.2.2.1 + 1)) (ty := .int) (C := RX6) (T := TX6) (N := 8) hx hb hts q2 tyX6 tyX6_ok nmX6 hown hK hP hD hS 0 rfl rfl 3 (by decide) q1 (fun _ h9 => h9) rfl (by decide +kernel) rfl rfl (Nat.le_of_ble_eq_true rfl) dX6_becomes_99 (fun H locs hP hD hS => ?_)
    have hP : va_P D vwCl [(h0, .inr (5, [.ref h1, .ref h2, .ref h3, .int (u.2.2.2.1 + 1), .ref h4, .ref h5, .int u.2.2.2.2.2.2.1, .int u.2.2.2.2.2.2.2])), (h1, .inl (cJ, 8, .inr (.inl u.1))), (h2, .inl (cI, 8, .inl (upd u.2.1 u.2.2.2.1.toNatClampNeg a0))), (h3, .inl (cJ, 8, .inr (.inl (vp_updL u.2.2.1 u.2.2.2.1.toNatClampNeg (u.1 a0.toNatClampNeg))))), (h4, .inl (cC, 40, .inl u.2.2.2.2.1)), (h5, .inl (cI, 40, .inl u.2.2.2.2.2.1))] H := hP
    have hD : va_D A [(h0, .inr (5, [.ref h1, .ref h2, .ref h3, .int (u.2.2.2.1 + 1), .ref h4, .ref h5, .int u.2.2.2.2.2.2.1, .int u.2.2.2.2.2.2.2])), (h1, .inl (cJ, 8, .inr (.inl u.1))), (h2, .inl (cI, 8, .inl (upd u.2.1 u.2.2.2.1.toNatClampNeg a0))), (h3, .inl (cJ, 8, .inr (.inl (vp_updL u.2.2.1 u.2.2.2.1.toNatClampNeg (u.1 a0.toNatClampNeg))))), (h4, .inl (cC, 40, .inl u.2.2.2.2.1)), (h5, .inl (cI, 40, .inl u.2.2.2.2.2.1))] := hD
    refine lv_aload_n hx hb dX6_becomes_102 rfl (lv_at hl 0 rfl) ?_
    refine va_get (D := D) (ci := 5) (v := .ref h1) (C := RX6) (T := TX6) (N := 8) hx hb hts q2 hown hK hP 0 rfl rfl 0 (by decide) q5 (fun _ h9 => h9) rfl dX6_becomes_103 ?_
    refine lv_iload_n hx hb dX6_becomes_106 rfl (lv_at hl 1 rfl) ?_
    refine lv_lload_n hx hb dX6_becomes_107 rfl (lv_at hl 2 rfl) ?_
    obtain ⟨g5, hf⟩ := og_e hf
    refine va_last hx hb hK hP hD hS 1 2 rfl rfl g5 dX6_becomes_108 (fun H locs hP hD hS => ?_)
    have hP : va_P D vwCl [(h0, .inr (5, [.ref h1, .ref h2, .ref h3, .int (u.2.2.2.1 + 1), .ref h4, .ref h5, .int u.2.2.2.2.2.2.1, .int u.2.2.2.2.2.2.2])), (h1, .inl (cJ, 8, .inr (.inl (vp_updL u.1 a0.toNatClampNeg a1)))), (h2, .inl (cI, 8, .inl (upd u.2.1 u.2.2.2.1.toNatClampNeg a0))), (h3, .inl (cJ, 8, .inr (.inl (vp_updL u.2.2.1 u.2.2.2.1.toNatClampNeg (u.1 a0.toNatClampNeg))))), (h4, .inl (cC, 40, .inl u.2.2.2.2.1)), (h5, .inl (cI, 40, .inl u.2.2.2.2.2.1))] H := hP
    have hD : va_D A [(h0, .inr (5, [.ref h1, .ref h2, .ref h3, .int (u.2.2.2.1 + 1), .ref h4, .ref h5, .int u.2.2.2.2.2.2.1, .int u.2.2.2.2.2.2.2])), (h1, .inl (cJ, 8, .inr (.inl (vp_updL u.1 a0.toNatClampNeg a1)))), (h2, .inl (cI, 8, .inl (upd u.2.1 u.2.2.2.1.toNatClampNeg a0))), (h3, .inl (cJ, 8, .inr (.inl (vp_updL u.2.2.1 u.2.2.2.1.toNatClampNeg (u.1 a0.toNatClampNeg))))), (h4, .inl (cC, 40, .inl u.2.2.2.2.1)), (h5, .inl (cI, 40, .inl u.2.2.2.2.2.1))] := hD
    refine lv_lload_n hx hb dX6_becomes_109 rfl (lv_at hl 2 rfl) ?_
    refine my_callPl (As := [.long a1]) (n := 1) (rest := []) ⟨hx, hb, hml, hown, hts⟩ (m_X6_placeOf l a1 _ rfl) gX6_becomes_X6_placeOf rfl ⟨rfl, rfl⟩ (by decide +kernel) ⟨Nat.le_of_ble_eq_true rfl, Nat.le_of_ble_eq_true rfl⟩ ⟨Nat.le_of_ble_eq_true rfl, Nat.le_of_ble_eq_true rfl⟩ hl.1 rfl rfl (Nat.le_of_ble_eq_true rfl) dX6_becomes_110 ?_
    have hP9 : va_P D vwCl (wM cC cI cJ h0 h1 h2 h3 h4 h5 ((vp_updL u.1 a0.toNatClampNeg a1), ((upd u.2.1 u.2.2.2.1.toNatClampNeg a0), ((vp_updL u.2.2.1 u.2.2.2.1.toNatClampNeg (u.1 a0.toNatClampNeg)), ((u.2.2.2.1 + 1), u.2.2.2.2))))) _ := hP
    have hD9 : va_D A (wM cC cI cJ h0 h1 h2 h3 h4 h5 ((vp_updL u.1 a0.toNatClampNeg a1), ((upd u.2.1 u.2.2.2.1.toNatClampNeg a0), ((vp_updL u.2.2.1 u.2.2.2.1.toNatClampNeg (u.1 a0.toNatClampNeg)), ((u.2.2.2.1 + 1), u.2.2.2.2))))) := hD
    have hf := Option.some.inj hf
    have hf1 := congrArg Prod.fst hf
    have hf2 := congrArg Prod.snd hf
    exact W.lret (v := (f_X6_placeOf a1)) hx hb hr (fun t ht hW => ⟨⟨(f_X6_placeOf a1), ((vp_updL u.1 a0.toNatClampNeg a1), ((upd u.2.1 u.2.2.2.1.toNatClampNeg a0), ((vp_updL u.2.2.1 u.2.2.2.1.toNatClampNeg (u.1 a0.toNatClampNeg)), ((u.2.2.2.1 + 1), u.2.2.2.2)))), rfl, ⟨hf1, hf2⟩, by rw [ht]; exact hP9, va_K.moved hW.alike hK, hD9⟩, hS.F ht⟩) hS.2.2 dX6_becomes_113
  · rw [if_pos c1] at hf
    refine lv_iconst (v := 1) hx hb dX6_becomes_9 (by decide) ?_
    refine lv_istore (lv' := [(4, .int 1), (0, .ref h0), (1, .int a0), (2, .long a1)]) hx hb dX6_becomes_10 hl (by decide) rfl (fun ls hl => ?_)
    have loop12 : ∀ (n12 : Nat) (v12_4 : Int32) (s12 : StM) (H : Heap) (locs : List Loc) (hP : va_P D vwCl [(h0, .inr (5, [.ref h1, .ref h2, .ref h3, .int s12.2.2.2.1, .ref h4, .ref h5, .int s12.2.2.2.2.2.2.1, .int s12.2.2.2.2.2.2.2])), (h1, .inl (cJ, 8, .inr (.inl s12.1))), (h2, .inl (cI, 8, .inl s12.2.1)), (h3, .inl (cJ, 8, .inr (.inl s12.2.2.1))), (h4, .inl (cC, 40, .inl s12.2.2.2.2.1)), (h5, .inl (cI, 40, .inl s12.2.2.2.2.2.1))] H) (hD : va_D A [(h0, .inr (5, [.ref h1, .ref h2, .ref h3, .int s12.2.2.2.1, .ref h4, .ref h5, .int s12.2.2.2.2.2.2.1, .int s12.2.2.2.2.2.2.2])), (h1, .inl (cJ, 8, .inr (.inl s12.1))), (h2, .inl (cI, 8, .inl s12.2.1)), (h3, .inl (cJ, 8, .inr (.inl s12.2.2.1))), (h4, .inl (cC, 40, .inl s12.2.2.2.2.1)), (h5, .inl (cI, 40, .inl s12.2.2.2.2.2.1))]) (hS : va_S A s.heap H locs) (ls : Array Slot), lv_has ls 5 [(4, .int v12_4), (0, .ref h0), (1, .int a0), (2, .long a1)] → f_X6_becomes_L12 u a0 a1 n12 v12_4 s12 = some res → W p l e (rmX6_becomes) s m ([.ref h0, .int a0, .long a1] : List Value).toArray below meth c H locs 0 0 (MQ below (va_Ql (fun r v => r = res.1 ∧ v = res.2) (my_B D vwCl (KT cC cI cJ) A (fun v : StM => (wM cC cI cJ h0 h1 h2 h3 h4 h5 v))) A) ([.ref h0, .int a0, .long a1] : List Value).toArray s 0 0 A) (F0 m 12 ls []) := by
      intro n12
      induction n12 with
      | zero => intro v12_4 s12 H locs hP hD hS ls hl hf; rw [f_X6_becomes_L12] at hf; cases hf
      | succ n12 ih12 =>
        intro v12_4 s12 H locs hP hD hS ls hl hf
        rw [f_X6_becomes_L12] at hf
        refine lv_iload hx hb dX6_becomes_12 (lv_at hl 0 rfl) ?_
        refine lv_bipush (v := 8) hx hb dX6_becomes_14 (by decide) ?_
        refine my_ic_ge (tgt := 57) hx hb dX6_becomes_16 (by decide) (fun c6 => ?_) (fun c6 => ?_)
        · rw [if_neg c6] at hf
          refine lv_aload_n hx hb dX6_becomes_57 rfl (lv_at hl 1 rfl) ?_
          refine lv_dup hx hb dX6_becomes_58 rfl ?_
          refine va_get (D := D) (ci := 5) (v := .int s12.2.2.2.1) (C := RX6) (T := TX6) (N := 8) hx hb hts q2 hown hK hP 0 rfl rfl 3 (by decide) q1 (fun _ h9 => h9) rfl dX6_becomes_59 ?_
          refine lv_iconst (v := 1) hx hb dX6_becomes_62 (by decide) ?_
          refine lv_isub hx hb dX6_becomes_63 ?_
          refine va_put (D := D) (ci := 5) (v := .int (s12.2.2.2.1 - 1)) (ty := .int) (C := RX6) (T := TX6) (N := 8) hx hb hts q2 tyX6 tyX6_ok nmX6 hown hK hP hD hS 0 rfl rfl 3 (by decide) q1 (fun _ h9 => h9) rfl (by decide +kernel) rfl rfl (Nat.le_of_ble_eq_true rfl) dX6_becomes_64 (fun H locs hP hD hS => ?_)
          have hP : va_P D vwCl [(h0, .inr (5, [.ref h1, .ref h2, .ref h3, .int (s12.2.2.2.1 - 1), .ref h4, .ref h5, .int s12.2.2.2.2.2.2.1, .int s12.2.2.2.2.2.2.2])), (h1, .inl (cJ, 8, .inr (.inl s12.1))), (h2, .inl (cI, 8, .inl s12.2.1)), (h3, .inl (cJ, 8, .inr (.inl s12.2.2.1))), (h4, .inl (cC, 40, .inl s12.2.2.2.2.1)), (h5, .inl (cI, 40, .inl s12.2.2.2.2.2.1))] H := hP
          have hD : va_D A [(h0, .inr (5, [.ref h1, .ref h2, .ref h3, .int (s12.2.2.2.1 - 1), .ref h4, .ref h5, .int s12.2.2.2.2.2.2.1, .int s12.2.2.2.2.2.2.2])), (h1, .inl (cJ, 8, .inr (.inl s12.1))), (h2, .inl (cI, 8, .inl s12.2.1)), (h3, .inl (cJ, 8, .inr (.inl s12.2.2.1))), (h4, .inl (cC, 40, .inl s12.2.2.2.2.1)), (h5, .inl (cI, 40, .inl s12.2.2.2.2.2.1))] := hD
          refine lv_aload_n hx hb dX6_becomes_67 rfl (lv_at hl 1 rfl) ?_
          refine va_get (D := D) (ci := 5) (v := .ref h2) (C := RX6) (T := TX6) (N := 8) hx hb hts q2 hown hK hP 0 rfl rfl 1 (by decide) q3 (fun _ h9 => h9) rfl dX6_becomes_68 ?_
          refine lv_aload_n hx hb dX6_becomes_71 rfl (lv_at hl 1 rfl) ?_
          refine va_get (D := D) (ci := 5) (v := .int (s12.2.2.2.1 - 1)) (C := RX6) (T := TX6) (N := 8) hx hb hts q2 hown hK hP 0 rfl rfl 3 (by decide) q1 (fun _ h9 => h9) rfl dX6_becomes_72 ?_
          refine lv_iload_n hx hb dX6_becomes_75 rfl (lv_at hl 2 rfl) ?_
          obtain ⟨g7, hf⟩ := og_e hf
          refine va_iast hx hb hK hP hD hS 2 1 rfl rfl g7 dX6_becomes_76 (fun H locs hP hD hS => ?_)
          have hP : va_P D vwCl [(h0, .inr (5, [.ref h1, .ref h2, .ref h3, .int (s12.2.2.2.1 - 1), .ref h4, .ref h5, .int s12.2.2.2.2.2.2.1, .int s12.2.2.2.2.2.2.2])), (h1, .inl (cJ, 8, .inr (.inl s12.1))), (h2, .inl (cI, 8, .inl (upd s12.2.1 (s12.2.2.2.1 - 1).toNatClampNeg a0))), (h3, .inl (cJ, 8, .inr (.inl s12.2.2.1))), (h4, .inl (cC, 40, .inl s12.2.2.2.2.1)), (h5, .inl (cI, 40, .inl s12.2.2.2.2.2.1))] H := hP
          have hD : va_D A [(h0, .inr (5, [.ref h1, .ref h2, .ref h3, .int (s12.2.2.2.1 - 1), .ref h4, .ref h5, .int s12.2.2.2.2.2.2.1, .int s12.2.2.2.2.2.2.2])), (h1, .inl (cJ, 8, .inr (.inl s12.1))), (h2, .inl (cI, 8, .inl (upd s12.2.1 (s12.2.2.2.1 - 1).toNatClampNeg a0))), (h3, .inl (cJ, 8, .inr (.inl s12.2.2.1))), (h4, .inl (cC, 40, .inl s12.2.2.2.2.1)), (h5, .inl (cI, 40, .inl s12.2.2.2.2.2.1))] := hD
          refine lv_aload_n hx hb dX6_becomes_77 rfl (lv_at hl 1 rfl) ?_
          refine va_get (D := D) (ci := 5) (v := .ref h3) (C := RX6) (T := TX6) (N := 8) hx hb hts q2 hown hK hP 0 rfl rfl 2 (by decide) q4 (fun _ h9 => h9) rfl dX6_becomes_78 ?_
          refine lv_aload_n hx hb dX6_becomes_81 rfl (lv_at hl 1 rfl) ?_
          refine va_get (D := D) (ci := 5) (v := .int (s12.2.2.2.1 - 1)) (C := RX6) (T := TX6) (N := 8) hx hb hts q2 hown hK hP 0 rfl rfl 3 (by decide) q1 (fun _ h9 => h9) rfl dX6_becomes_82 ?_
          refine lv_aload_n hx hb dX6_becomes_85 rfl (lv_at hl 1 rfl) ?_
          refine va_get (D := D) (ci := 5) (v := .ref h1) (C := RX6) (T := TX6) (N := 8) hx hb hts q2 hown hK hP 0 rfl rfl 0 (by decide) q5 (fun _ h9 => h9) rfl dX6_becomes_86 ?_
          refine lv_iload_n hx hb dX6_becomes_89 rfl (lv_at hl 2 rfl) ?_
          obtain ⟨g8, hf⟩ := og_e hf
          refine va_lald hx hb hK hP 1 2 rfl rfl g8 dX6_becomes_90 ?_
          obtain ⟨g9, hf⟩ := og_e hf
          refine va_last hx hb hK hP hD hS 3 2 rfl rfl g9 dX6_becomes_91 (fun H locs hP hD hS => ?_)
          have hP : va_P D vwCl [(h0, .inr (5, [.ref h1, .ref h2, .ref h3, .int (s12.2.2.2.1 - 1), .ref h4, .ref h5, .int s12.2.2.2.2.2.2.1, .int s12.2.2.2.2.2.2.2])), (h1, .inl (cJ, 8, .inr (.inl s12.1))), (h2, .inl (cI, 8, .inl (upd s12.2.1 (s12.2.2.2.1 - 1).toNatClampNeg a0))), (h3, .inl (cJ, 8, .inr (.inl (vp_updL s12.2.2.1 (s12.2.2.2.1 - 1).toNatClampNeg (s12.1 a0.toNatClampNeg))))), (h4, .inl (cC, 40, .inl s12.2.2.2.2.1)), (h5, .inl (cI, 40, .inl s12.2.2.2.2.2.1))] H := hP
          have hD : va_D A [(h0, .inr (5, [.ref h1, .ref h2, .ref h3, .int (s12.2.2.2.1 - 1), .ref h4, .ref h5, .int s12.2.2.2.2.2.2.1, .int s12.2.2.2.2.2.2.2])), (h1, .inl (cJ, 8, .inr (.inl s12.1))), (h2, .inl (cI, 8, .inl (upd s12.2.1 (s12.2.2.2.1 - 1).toNatClampNeg a0))), (h3, .inl (cJ, 8, .inr (.inl (vp_updL s12.2.2.1 (s12.2.2.2.1 - 1).toNatClampNeg (s12.1 a0.toNatClampNeg))))), (h4, .inl (cC, 40, .inl s12.2.2.2.2.1)), (h5, .inl (cI, 40, .inl s12.2.2.2.2.2.1))] := hD
          refine lv_aload_n hx hb dX6_becomes_92 rfl (lv_at hl 1 rfl) ?_
          refine lv_dup hx hb dX6_becomes_93 rfl ?_
          refine va_get (D := D) (ci := 5) (v := .int (s12.2.2.2.1 - 1)) (C := RX6) (T := TX6) (N := 8) hx hb hts q2 hown hK hP 0 rfl rfl 3 (by decide) q1 (fun _ h9 => h9) rfl dX6_becomes_94 ?_
          refine lv_iconst (v := 1) hx hb dX6_becomes_97 (by decide) ?_
          refine lv_iadd hx hb dX6_becomes_98 ?_
          refine va_put (D := D) (ci := 5) (v := .int ((s12.2.2.2.1 - 1) + 1)) (ty := .int) (C := RX6) (T := TX6) (N := 8) hx hb hts q2 tyX6 tyX6_ok nmX6 hown hK hP hD hS 0 rfl rfl 3 (by decide) q1 (fun _ h9 => h9) rfl (by decide +kernel) rfl rfl (Nat.le_of_ble_eq_true rfl) dX6_becomes_99 (fun H locs hP hD hS => ?_)
          have hP : va_P D vwCl [(h0, .inr (5, [.ref h1, .ref h2, .ref h3, .int ((s12.2.2.2.1 - 1) + 1), .ref h4, .ref h5, .int s12.2.2.2.2.2.2.1, .int s12.2.2.2.2.2.2.2])), (h1, .inl (cJ, 8, .inr (.inl s12.1))), (h2, .inl (cI, 8, .inl (upd s12.2.1 (s12.2.2.2.1 - 1).toNatClampNeg a0))), (h3, .inl (cJ, 8, .inr (.inl (vp_updL s12.2.2.1 (s12.2.2.2.1 - 1).toNatClampNeg (s12.1 a0.toNatClampNeg))))), (h4, .inl (cC, 40, .inl s12.2.2.2.2.1)), (h5, .inl (cI, 40, .inl s12.2.2.2.2.2.1))] H := hP
          have hD : va_D A [(h0, .inr (5, [.ref h1, .ref h2, .ref h3, .int ((s12.2.2.2.1 - 1) + 1), .ref h4, .ref h5, .int s12.2.2.2.2.2.2.1, .int s12.2.2.2.2.2.2.2])), (h1, .inl (cJ, 8, .inr (.inl s12.1))), (h2, .inl (cI, 8, .inl (upd s12.2.1 (s12.2.2.2.1 - 1).toNatClampNeg a0))), (h3, .inl (cJ, 8, .inr (.inl (vp_updL s12.2.2.1 (s12.2.2.2.1 - 1).toNatClampNeg (s12.1 a0.toNatClampNeg))))), (h4, .inl (cC, 40, .inl s12.2.2.2.2.1)), (h5, .inl (cI, 40, .inl s12.2.2.2.2.2.1))] := hD
          refine lv_aload_n hx hb dX6_becomes_102 rfl (lv_at hl 1 rfl) ?_
          refine va_get (D := D) (ci := 5) (v := .ref h1) (C := RX6) (T := TX6) (N := 8) hx hb hts q2 hown hK hP 0 rfl rfl 0 (by decide) q5 (fun _ h9 => h9) rfl dX6_becomes_103 ?_
          refine lv_iload_n hx hb dX6_becomes_106 rfl (lv_at hl 2 rfl) ?_
          refine lv_lload_n hx hb dX6_becomes_107 rfl (lv_at hl 3 rfl) ?_
          obtain ⟨g10, hf⟩ := og_e hf
          refine va_last hx hb hK hP hD hS 1 2 rfl rfl g10 dX6_becomes_108 (fun H locs hP hD hS => ?_)
          have hP : va_P D vwCl [(h0, .inr (5, [.ref h1, .ref h2, .ref h3, .int ((s12.2.2.2.1 - 1) + 1), .ref h4, .ref h5, .int s12.2.2.2.2.2.2.1, .int s12.2.2.2.2.2.2.2])), (h1, .inl (cJ, 8, .inr (.inl (vp_updL s12.1 a0.toNatClampNeg a1)))), (h2, .inl (cI, 8, .inl (upd s12.2.1 (s12.2.2.2.1 - 1).toNatClampNeg a0))), (h3, .inl (cJ, 8, .inr (.inl (vp_updL s12.2.2.1 (s12.2.2.2.1 - 1).toNatClampNeg (s12.1 a0.toNatClampNeg))))), (h4, .inl (cC, 40, .inl s12.2.2.2.2.1)), (h5, .inl (cI, 40, .inl s12.2.2.2.2.2.1))] H := hP
          have hD : va_D A [(h0, .inr (5, [.ref h1, .ref h2, .ref h3, .int ((s12.2.2.2.1 - 1) + 1), .ref h4, .ref h5, .int s12.2.2.2.2.2.2.1, .int s12.2.2.2.2.2.2.2])), (h1, .inl (cJ, 8, .inr (.inl (vp_updL s12.1 a0.toNatClampNeg a1)))), (h2, .inl (cI, 8, .inl (upd s12.2.1 (s12.2.2.2.1 - 1).toNatClampNeg a0))), (h3, .inl (cJ, 8, .inr (.inl (vp_updL s12.2.2.1 (s12.2.2.2.1 - 1).toNatClampNeg (s12.1 a0.toNatClampNeg))))), (h4, .inl (cC, 40, .inl s12.2.2.2.2.1)), (h5, .inl (cI, 40, .inl s12.2.2.2.2.2.1))] := hD
          refine lv_lload_n hx hb dX6_becomes_109 rfl (lv_at hl 3 rfl) ?_
          refine my_callPl (As := [.long a1]) (n := 1) (rest := []) ⟨hx, hb, hml, hown, hts⟩ (m_X6_placeOf l a1 _ rfl) gX6_becomes_X6_placeOf rfl ⟨rfl, rfl⟩ (by decide +kernel) ⟨Nat.le_of_ble_eq_true rfl, Nat.le_of_ble_eq_true rfl⟩ ⟨Nat.le_of_ble_eq_true rfl, Nat.le_of_ble_eq_true rfl⟩ hl.1 rfl rfl (Nat.le_of_ble_eq_true rfl) dX6_becomes_110 ?_
          have hP9 : va_P D vwCl (wM cC cI cJ h0 h1 h2 h3 h4 h5 ((vp_updL s12.1 a0.toNatClampNeg a1), ((upd s12.2.1 (s12.2.2.2.1 - 1).toNatClampNeg a0), ((vp_updL s12.2.2.1 (s12.2.2.2.1 - 1).toNatClampNeg (s12.1 a0.toNatClampNeg)), (((s12.2.2.2.1 - 1) + 1), s12.2.2.2.2))))) _ := hP
          have hD9 : va_D A (wM cC cI cJ h0 h1 h2 h3 h4 h5 ((vp_updL s12.1 a0.toNatClampNeg a1), ((upd s12.2.1 (s12.2.2.2.1 - 1).toNatClampNeg a0), ((vp_updL s12.2.2.1 (s12.2.2.2.1 - 1).toNatClampNeg (s12.1 a0.toNatClampNeg)), (((s12.2.2.2.1 - 1) + 1), s12.2.2.2.2))))) := hD
          have hf := Option.some.inj hf
          have hf1 := congrArg Prod.fst hf
          have hf2 := congrArg Prod.snd hf
          exact W.lret (v := (f_X6_placeOf a1)) hx hb hr (fun t ht hW => ⟨⟨(f_X6_placeOf a1), ((vp_updL s12.1 a0.toNatClampNeg a1), ((upd s12.2.1 (s12.2.2.2.1 - 1).toNatClampNeg a0), ((vp_updL s12.2.2.1 (s12.2.2.2.1 - 1).toNatClampNeg (s12.1 a0.toNatClampNeg)), (((s12.2.2.2.1 - 1) + 1), s12.2.2.2.2)))), rfl, ⟨hf1, hf2⟩, by rw [ht]; exact hP9, va_K.moved hW.alike hK, hD9⟩, hS.F ht⟩) hS.2.2 dX6_becomes_113
        · rw [if_pos c6] at hf
          refine lv_aload_n hx hb dX6_becomes_19 rfl (lv_at hl 1 rfl) ?_
          refine va_get (D := D) (ci := 5) (v := .ref h2) (C := RX6) (T := TX6) (N := 8) hx hb hts q2 hown hK hP 0 rfl rfl 1 (by decide) q3 (fun _ h9 => h9) rfl dX6_becomes_20 ?_
          refine lv_iload hx hb dX6_becomes_23 (lv_at hl 0 rfl) ?_
          refine lv_iconst (v := 1) hx hb dX6_becomes_25 (by decide) ?_
          refine lv_isub hx hb dX6_becomes_26 ?_
          refine lv_aload_n hx hb dX6_becomes_27 rfl (lv_at hl 1 rfl) ?_
          refine va_get (D := D) (ci := 5) (v := .ref h2) (C := RX6) (T := TX6) (N := 8) hx hb hts q2 hown hK hP 0 rfl rfl 1 (by decide) q3 (fun _ h9 => h9) rfl dX6_becomes_28 ?_
          refine lv_iload hx hb dX6_becomes_31 (lv_at hl 0 rfl) ?_
          obtain ⟨g11, hf⟩ := og_e hf
          refine va_iald hx hb hK hP 2 1 rfl rfl g11 dX6_becomes_33 ?_
          obtain ⟨g12, hf⟩ := og_e hf
          refine va_iast hx hb hK hP hD hS 2 1 rfl rfl g12 dX6_becomes_34 (fun H locs hP hD hS => ?_)
          have hP : va_P D vwCl [(h0, .inr (5, [.ref h1, .ref h2, .ref h3, .int s12.2.2.2.1, .ref h4, .ref h5, .int s12.2.2.2.2.2.2.1, .int s12.2.2.2.2.2.2.2])), (h1, .inl (cJ, 8, .inr (.inl s12.1))), (h2, .inl (cI, 8, .inl (upd s12.2.1 (v12_4 - 1).toNatClampNeg (s12.2.1 v12_4.toNatClampNeg)))), (h3, .inl (cJ, 8, .inr (.inl s12.2.2.1))), (h4, .inl (cC, 40, .inl s12.2.2.2.2.1)), (h5, .inl (cI, 40, .inl s12.2.2.2.2.2.1))] H := hP
          have hD : va_D A [(h0, .inr (5, [.ref h1, .ref h2, .ref h3, .int s12.2.2.2.1, .ref h4, .ref h5, .int s12.2.2.2.2.2.2.1, .int s12.2.2.2.2.2.2.2])), (h1, .inl (cJ, 8, .inr (.inl s12.1))), (h2, .inl (cI, 8, .inl (upd s12.2.1 (v12_4 - 1).toNatClampNeg (s12.2.1 v12_4.toNatClampNeg)))), (h3, .inl (cJ, 8, .inr (.inl s12.2.2.1))), (h4, .inl (cC, 40, .inl s12.2.2.2.2.1)), (h5, .inl (cI, 40, .inl s12.2.2.2.2.2.1))] := hD
          refine lv_aload_n hx hb dX6_becomes_35 rfl (lv_at hl 1 rfl) ?_
          refine va_get (D := D) (ci := 5) (v := .ref h3) (C := RX6) (T := TX6) (N := 8) hx hb hts q2 hown hK hP 0 rfl rfl 2 (by decide) q4 (fun _ h9 => h9) rfl dX6_becomes_36 ?_
          refine lv_iload hx hb dX6_becomes_39 (lv_at hl 0 rfl) ?_
          refine lv_iconst (v := 1) hx hb dX6_becomes_41 (by decide) ?_
          refine lv_isub hx hb dX6_becomes_42 ?_
          refine lv_aload_n hx hb dX6_becomes_43 rfl (lv_at hl 1 rfl) ?_
          refine va_get (D := D) (ci := 5) (v := .ref h3) (C := RX6) (T := TX6) (N := 8) hx hb hts q2 hown hK hP 0 rfl rfl 2 (by decide) q4 (fun _ h9 => h9) rfl dX6_becomes_44 ?_
          refine lv_iload hx hb dX6_becomes_47 (lv_at hl 0 rfl) ?_
          obtain ⟨g13, hf⟩ := og_e hf
          refine va_lald hx hb hK hP 3 2 rfl rfl g13 dX6_becomes_49 ?_
          obtain ⟨g14, hf⟩ := og_e hf
          refine va_last hx hb hK hP hD hS 3 2 rfl rfl g14 dX6_becomes_50 (fun H locs hP hD hS => ?_)
          have hP : va_P D vwCl [(h0, .inr (5, [.ref h1, .ref h2, .ref h3, .int s12.2.2.2.1, .ref h4, .ref h5, .int s12.2.2.2.2.2.2.1, .int s12.2.2.2.2.2.2.2])), (h1, .inl (cJ, 8, .inr (.inl s12.1))), (h2, .inl (cI, 8, .inl (upd s12.2.1 (v12_4 - 1).toNatClampNeg (s12.2.1 v12_4.toNatClampNeg)))), (h3, .inl (cJ, 8, .inr (.inl (vp_updL s12.2.2.1 (v12_4 - 1).toNatClampNeg (s12.2.2.1 v12_4.toNatClampNeg))))), (h4, .inl (cC, 40, .inl s12.2.2.2.2.1)), (h5, .inl (cI, 40, .inl s12.2.2.2.2.2.1))] H := hP
          have hD : va_D A [(h0, .inr (5, [.ref h1, .ref h2, .ref h3, .int s12.2.2.2.1, .ref h4, .ref h5, .int s12.2.2.2.2.2.2.1, .int s12.2.2.2.2.2.2.2])), (h1, .inl (cJ, 8, .inr (.inl s12.1))), (h2, .inl (cI, 8, .inl (upd s12.2.1 (v12_4 - 1).toNatClampNeg (s12.2.1 v12_4.toNatClampNeg)))), (h3, .inl (cJ, 8, .inr (.inl (vp_updL s12.2.2.1 (v12_4 - 1).toNatClampNeg (s12.2.2.1 v12_4.toNatClampNeg))))), (h4, .inl (cC, 40, .inl s12.2.2.2.2.1)), (h5, .inl (cI, 40, .inl s12.2.2.2.2.2.1))] := hD
          refine lv_iinc (v := (v12_4 + 1)) (lv' := [(4, .int (v12_4 + 1)), (0, .ref h0), (1, .int a0), (2, .long a1)]) hx hb dX6_becomes_51 hl (k := 0) rfl rfl (by decide) rfl (fun ls hl => ?_)
          refine lv_goto (tgt := 12) hx hb dX6_becomes_54 (by decide) ?_
          exact ih12 (v12_4 + 1) (s12.1, ((upd s12.2.1 (v12_4 - 1).toNatClampNeg (s12.2.1 v12_4.toNatClampNeg)), ((vp_updL s12.2.2.1 (v12_4 - 1).toNatClampNeg (s12.2.2.1 v12_4.toNatClampNeg)), s12.2.2.2))) _ _ hP hD hS _ (lv_sub hl [0, 1, 2, 3] rfl) hf
    exact loop12 100 1 u _ _ hP hD hS _ (lv_sub hl [0, 1, 2, 3] rfl) hf

set_option maxHeartbeats 4000000 in
set_option maxRecDepth 100000 in
theorem m_X6_undo (l : Launch) (D : va_G) (cC cI cJ : ClassId) (h0 h1 h2 h3 h4 h5 : Nat) (u : StM) (sz : Nat)  (res : Int32 × StM) (hf : f_X6_undo u = some res) : Met l yX6_undo wsX6_undo rmX6_undo (my_PcM D vwCl (KT cC cI cJ) sz (wM cC cI cJ h0 h1 h2 h3 h4 h5 u) [.ref h0]) (va_Qi (fun r v => r = res.1 ∧ v = res.2) (my_B D vwCl (KT cC cI cJ) (va_A (wM cC cI cJ h0 h1 h2 h3 h4 h5 u) sz) (fun v : StM => (wM cC cI cJ h0 h1 h2 h3 h4 h5 v))) (va_A (wM cC cI cJ h0 h1 h2 h3 h4 h5 u) sz)) 0 0 (va_A (wM cC cI cJ h0 h1 h2 h3 h4 h5 u) sz) := by
  refine Met.ofW (cc := cX6_undo) (maxL := 1) (ret := (some .int)) (by decide) rfl ?_
  intro p e s m args below meth c s₁ B hml hv
  obtain ⟨rfl, hsz, hP, hK, hD0⟩ := hv
  have hx := B.exec
  have hb := B.bytes
  have hr := B.returns
  have hts : ∀ w ∈ wsX6_undo, w.before ([.ref h0] : List Value).toArray s = true := atoms_spec (ws := wsX6_undo) B.pre
  have hown : s.vm.findClass RX6 = some m.cls := findClass_of_methodNamed B.named
  have hlk : meth.locks = false := B.notSynchronized
  subst hsz
  have hD := hD0.self (sz := s.heap.size)
  generalize hAe : va_A (wM cC cI cJ h0 h1 h2 h3 h4 h5 u) s.heap.size = A at hD ⊢
  have hA : ∀ q : Nat, s.heap.size ≤ q → A q := fun q h => by rw [← hAe]; exact Or.inr h
  have hS : va_S A s.heap s.heap [] := va_S.rf
  have hP : va_P D vwCl [(h0, .inr (5, [.ref h1, .ref h2, .ref h3, .int u.2.2.2.1, .ref h4, .ref h5, .int u.2.2.2.2.2.2.1, .int u.2.2.2.2.2.2.2])), (h1, .inl (cJ, 8, .inr (.inl u.1))), (h2, .inl (cI, 8, .inl u.2.1)), (h3, .inl (cJ, 8, .inr (.inl u.2.2.1))), (h4, .inl (cC, 40, .inl u.2.2.2.2.1)), (h5, .inl (cI, 40, .inl u.2.2.2.2.2.1))] s.heap := hP
  have hD : va_D A [(h0, .inr (5, [.ref h1, .ref h2, .ref h3, .int u.2.2.2.1, .ref h4, .ref h5, .int u.2.2.2.2.2.2.1, .int u.2.2.2.2.2.2.2])), (h1, .inl (cJ, 8, .inr (.inl u.1))), (h2, .inl (cI, 8, .inl u.2.1)), (h3, .inl (cJ, 8, .inr (.inl u.2.2.1))), (h4, .inl (cC, 40, .inl u.2.2.2.2.1)), (h5, .inl (cI, 40, .inl u.2.2.2.2.2.1))] := hD
  have q1 := hts (.fieldLink RX6 91 "DoublelineModel" "kept" "I") (by decide +kernel)
  have q2 : ∀ w ∈ u_ws RX6 TX6 8, w ∈ wsX6_undo := by decide +kernel
  have q3 := hts (.fieldLink RX6 9 "DoublelineModel" "codes" "[J") (by decide +kernel)
  have q4 := hts (.fieldLink RX6 13 "DoublelineModel" "keptSlots" "[I") (by decide +kernel)
  have q5 := hts (.fieldLink RX6 17 "DoublelineModel" "keptCodes" "[J") (by decide +kernel)
  have hl := lv_entry ([.ref h0]) (n := 1) (Nat.le_of_ble_eq_true rfl)
  rw [lg_entry_eq]
  generalize (lg_sl ([.ref h0]) ++ List.replicate (1 - (lg_sl ([.ref h0])).length) Slot.unset).toArray = ls at hl ⊢
  have hl : lv_has ls 1 [(0, .ref h0)] := hl
  unfold f_X6_undo at hf
  refine lv_aload_n hx hb dX6_undo_0 rfl (lv_at hl 0 rfl) ?_
  refine lv_aload_n hx hb dX6_undo_1 rfl (lv_at hl 0 rfl) ?_
  refine va_get (D := D) (ci := 5) (v := .int u.2.2.2.1) (C := RX6) (T := TX6) (N := 8) hx hb hts q2 hown hK hP 0 rfl rfl 3 (by decide) q1 (fun _ h9 => h9) rfl dX6_undo_2 ?_
  refine my_if_le (tgt := 12) hx hb dX6_undo_5 (by decide) (fun c1 => ?_) (fun c1 => ?_)
  · rw [if_neg c1] at hf
    refine lv_iconst (v := 0) hx hb dX6_undo_12 (by decide) ?_
    refine lv_iconst (v := 1) hx hb dX6_undo_13 (by decide) ?_
    refine my_callMi (As := [.int (b2i false), .int 1]) (n := 2) (rest := []) (wr := []) ⟨hx, hb, hml, hown, hts⟩ hK hP hD hS hA [0, 1, 2, 3, 4, 5] [] rfl rfl (by decide) (by decide) (by decide) (m_X6_no l D cC cI cJ h0 h1 h2 h3 h4 h5 u s.heap.size false 1 _ (no_f u 1)) gX6_undo_X6_no rfl ⟨rfl, rfl⟩ (ci := 5) rfl rfl (by decide +kernel) ⟨Nat.le_of_ble_eq_true rfl, Nat.le_of_ble_eq_true rfl⟩ ⟨Nat.le_of_ble_eq_true rfl, Nat.le_of_ble_eq_true rfl⟩ hl.1 rfl rfl (Nat.le_of_ble_eq_true rfl) dX6_undo_14 (fun r9 u9 H locs hw hP hD hS => ?_)
    obtain ⟨rfl, rfl⟩ := hw
    have hP : va_P D vwCl [(h0, .inr (5, [.ref h1, .ref h2, .ref h3, .int u.2.2.2.1, .ref h4, .ref h5, .int u.2.2.2.2.2.2.1, .int 1])), (h1, .inl (cJ, 8, .inr (.inl u.1))), (h2, .inl (cI, 8, .inl u.2.1)), (h3, .inl (cJ, 8, .inr (.inl u.2.2.1))), (h4, .inl (cC, 40, .inl u.2.2.2.2.1)), (h5, .inl (cI, 40, .inl u.2.2.2.2.2.1))] H := hP.sub [0, 1, 2, 3, 4, 5] rfl
    have hD : va_D A [(h0, .inr (5, [.ref h1, .ref h2, .ref h3, .int u.2.2.2.1, .ref h4, .ref h5, .int u.2.2.2.2.2.2.1, .int 1])), (h1, .inl (cJ, 8, .inr (.inl u.1))), (h2, .inl (cI, 8, .inl u.2.1)), (h3, .inl (cJ, 8, .inr (.inl u.2.2.1))), (h4, .inl (cC, 40, .inl u.2.2.2.2.1)), (h5, .inl (cI, 40, .inl u.2.2.2.2.2.1))] := hD.sub [0, 1, 2, 3, 4, 5] (by decide) rfl
    refine my_bz_eq (x := true) (tgt := 22) hx hb dX6_undo_17 (by decide) (fun h9 => absurd h9 (by decide)) (fun _ => ?_)
    refine lv_iconst (v := 0) hx hb dX6_undo_20 (by decide) ?_
    have hP9 : va_P D vwCl (wM cC cI cJ h0 h1 h2 h3 h4 h5 (u.1, (u.2.1, (u.2.2.1, (u.2.2.2.1, (u.2.2.2.2.1, (u.2.2.2.2.2.1, (u.2.2.2.2.2.2.1, 1)))))))) _ := hP
    have hD9 : va_D A (wM cC cI cJ h0 h1 h2 h3 h4 h5 (u.1, (u.2.1, (u.2.2.1, (u.2.2.2.1, (u.2.2.2.2.1, (u.2.2.2.2.2.1, (u.2.2.2.2.2.2.1, 1)))))))) := hD
    have hf := Option.some.inj hf
    have hf1 := congrArg Prod.fst hf
    have hf2 := congrArg Prod.snd hf
    exact W.iret (v := 0) hx hb hr (fun t ht hW => ⟨⟨0, (u.1, (u.2.1, (u.2.2.1, (u.2.2.2.1, (u.2.2.2.2.1, (u.2.2.2.2.2.1, (u.2.2.2.2.2.2.1, 1))))))), rfl, ⟨hf1, hf2⟩, by rw [ht]; exact hP9, va_K.moved hW.alike hK, hD9⟩, hS.F ht⟩) hS.2.2 dX6_undo_21
  · rw [if_pos c1] at hf
    refine lv_iconst (v := 1) hx hb dX6_undo_8 (by decide) ?_
    refine lv_goto (tgt := 13) hx hb dX6_undo_9 (by decide) ?_
    refine lv_iconst (v := 1) hx hb dX6_undo_13 (by decide) ?_
    refine my_callMi (As := [.int (b2i true), .int 1]) (n := 2) (rest := []) (wr := []) ⟨hx, hb, hml, hown, hts⟩ hK hP hD hS hA [0, 1, 2, 3, 4, 5] [] rfl rfl (by decide) (by decide) (by decide) (m_X6_no l D cC cI cJ h0 h1 h2 h3 h4 h5 u s.heap.size true 1 _ (no_t u 1)) gX6_undo_X6_no rfl ⟨rfl, rfl⟩ (ci := 5) rfl rfl (by decide +kernel) ⟨Nat.le_of_ble_eq_true rfl, Nat.le_of_ble_eq_true rfl⟩ ⟨Nat.le_of_ble_eq_true rfl, Nat.le_of_ble_eq_true rfl⟩ hl.1 rfl rfl (Nat.le_of_ble_eq_true rfl) dX6_undo_14 (fun r9 u9 H locs hw hP hD hS => ?_)
    obtain ⟨rfl, rfl⟩ := hw
    have hP : va_P D vwCl [(h0, .inr (5, [.ref h1, .ref h2, .ref h3, .int u.2.2.2.1, .ref h4, .ref h5, .int u.2.2.2.2.2.2.1, .int 0])), (h1, .inl (cJ, 8, .inr (.inl u.1))), (h2, .inl (cI, 8, .inl u.2.1)), (h3, .inl (cJ, 8, .inr (.inl u.2.2.1))), (h4, .inl (cC, 40, .inl u.2.2.2.2.1)), (h5, .inl (cI, 40, .inl u.2.2.2.2.2.1))] H := hP.sub [0, 1, 2, 3, 4, 5] rfl
    have hD : va_D A [(h0, .inr (5, [.ref h1, .ref h2, .ref h3, .int u.2.2.2.1, .ref h4, .ref h5, .int u.2.2.2.2.2.2.1, .int 0])), (h1, .inl (cJ, 8, .inr (.inl u.1))), (h2, .inl (cI, 8, .inl u.2.1)), (h3, .inl (cJ, 8, .inr (.inl u.2.2.1))), (h4, .inl (cC, 40, .inl u.2.2.2.2.1)), (h5, .inl (cI, 40, .inl u.2.2.2.2.2.1))] := hD.sub [0, 1, 2, 3, 4, 5] (by decide) rfl
    refine my_bz_eq (x := false) (tgt := 22) hx hb dX6_undo_17 (by decide) (fun _ => ?_) (fun h9 => absurd h9 (by decide))
    refine lv_aload_n hx hb dX6_undo_22 rfl (lv_at hl 0 rfl) ?_
    refine lv_dup hx hb dX6_undo_23 rfl ?_
    refine va_get (D := D) (ci := 5) (v := .int u.2.2.2.1) (C := RX6) (T := TX6) (N := 8) hx hb hts q2 hown hK hP 0 rfl rfl 3 (by decide) q1 (fun _ h9 => h9) rfl dX6_undo_24 ?_
    refine lv_iconst (v := 1) hx hb dX6_undo_27 (by decide) ?_
    refine lv_isub hx hb dX6_undo_28 ?_
    refine va_put (D := D) (ci := 5) (v := .int (u.2.2.2.1 - 1)) (ty := .int) (C := RX6) (T := TX6) (N := 8) hx hb hts q2 tyX6 tyX6_ok nmX6 hown hK hP hD hS 0 rfl rfl 3 (by decide) q1 (fun _ h9 => h9) rfl (by decide +kernel) rfl rfl (Nat.le_of_ble_eq_true rfl) dX6_undo_29 (fun H locs hP hD hS => ?_)
    have hP : va_P D vwCl [(h0, .inr (5, [.ref h1, .ref h2, .ref h3, .int (u.2.2.2.1 - 1), .ref h4, .ref h5, .int u.2.2.2.2.2.2.1, .int 0])), (h1, .inl (cJ, 8, .inr (.inl u.1))), (h2, .inl (cI, 8, .inl u.2.1)), (h3, .inl (cJ, 8, .inr (.inl u.2.2.1))), (h4, .inl (cC, 40, .inl u.2.2.2.2.1)), (h5, .inl (cI, 40, .inl u.2.2.2.2.2.1))] H := hP
    have hD : va_D A [(h0, .inr (5, [.ref h1, .ref h2, .ref h3, .int (u.2.2.2.1 - 1), .ref h4, .ref h5, .int u.2.2.2.2.2.2.1, .int 0])), (h1, .inl (cJ, 8, .inr (.inl u.1))), (h2, .inl (cI, 8, .inl u.2.1)), (h3, .inl (cJ, 8, .inr (.inl u.2.2.1))), (h4, .inl (cC, 40, .inl u.2.2.2.2.1)), (h5, .inl (cI, 40, .inl u.2.2.2.2.2.1))] := hD
    refine lv_aload_n hx hb dX6_undo_32 rfl (lv_at hl 0 rfl) ?_
    refine va_get (D := D) (ci := 5) (v := .ref h1) (C := RX6) (T := TX6) (N := 8) hx hb hts q2 hown hK hP 0 rfl rfl 0 (by decide) q3 (fun _ h9 => h9) rfl dX6_undo_33 ?_
    refine lv_aload_n hx hb dX6_undo_36 rfl (lv_at hl 0 rfl) ?_
    refine va_get (D := D) (ci := 5) (v := .ref h2) (C := RX6) (T := TX6) (N := 8) hx hb hts q2 hown hK hP 0 rfl rfl 1 (by decide) q4 (fun _ h9 => h9) rfl dX6_undo_37 ?_
    refine lv_aload_n hx hb dX6_undo_40 rfl (lv_at hl 0 rfl) ?_
    refine va_get (D := D) (ci := 5) (v := .int (u.2.2.2.1 - 1)) (C := RX6) (T := TX6) (N := 8) hx hb hts q2 hown hK hP 0 rfl rfl 3 (by decide) q1 (fun _ h9 => h9) rfl dX6_undo_41 ?_
    obtain ⟨g2, hf⟩ := og_e hf
    refine va_iald hx hb hK hP 2 1 rfl rfl g2 dX6_undo_44 ?_
    refine lv_aload_n hx hb dX6_undo_45 rfl (lv_at hl 0 rfl) ?_
    refine va_get (D := D) (ci := 5) (v := .ref h3) (C := RX6) (T := TX6) (N := 8) hx hb hts q2 hown hK hP 0 rfl rfl 2 (by decide) q5 (fun _ h9 => h9) rfl dX6_undo_46 ?_
    refine lv_aload_n hx hb dX6_undo_49 rfl (lv_at hl 0 rfl) ?_
    refine va_get (D := D) (ci := 5) (v := .int (u.2.2.2.1 - 1)) (C := RX6) (T := TX6) (N := 8) hx hb hts q2 hown hK hP 0 rfl rfl 3 (by decide) q1 (fun _ h9 => h9) rfl dX6_undo_50 ?_
    obtain ⟨g3, hf⟩ := og_e hf
    refine va_lald hx hb hK hP 3 2 rfl rfl g3 dX6_undo_53 ?_
    obtain ⟨g4, hf⟩ := og_e hf
    refine va_last hx hb hK hP hD hS 1 2 rfl rfl g4 dX6_undo_54 (fun H locs hP hD hS => ?_)
    have hP : va_P D vwCl [(h0, .inr (5, [.ref h1, .ref h2, .ref h3, .int (u.2.2.2.1 - 1), .ref h4, .ref h5, .int u.2.2.2.2.2.2.1, .int 0])), (h1, .inl (cJ, 8, .inr (.inl (vp_updL u.1 (u.2.1 (u.2.2.2.1 - 1).toNatClampNeg).toNatClampNeg (u.2.2.1 (u.2.2.2.1 - 1).toNatClampNeg))))), (h2, .inl (cI, 8, .inl u.2.1)), (h3, .inl (cJ, 8, .inr (.inl u.2.2.1))), (h4, .inl (cC, 40, .inl u.2.2.2.2.1)), (h5, .inl (cI, 40, .inl u.2.2.2.2.2.1))] H := hP
    have hD : va_D A [(h0, .inr (5, [.ref h1, .ref h2, .ref h3, .int (u.2.2.2.1 - 1), .ref h4, .ref h5, .int u.2.2.2.2.2.2.1, .int 0])), (h1, .inl (cJ, 8, .inr (.inl (vp_updL u.1 (u.2.1 (u.2.2.2.1 - 1).toNatClampNeg).toNatClampNeg (u.2.2.1 (u.2.2.2.1 - 1).toNatClampNeg))))), (h2, .inl (cI, 8, .inl u.2.1)), (h3, .inl (cJ, 8, .inr (.inl u.2.2.1))), (h4, .inl (cC, 40, .inl u.2.2.2.2.1)), (h5, .inl (cI, 40, .inl u.2.2.2.2.2.1))] := hD
    refine lv_aload_n hx hb dX6_undo_55 rfl (lv_at hl 0 rfl) ?_
    refine va_get (D := D) (ci := 5) (v := .ref h2) (C := RX6) (T := TX6) (N := 8) hx hb hts q2 hown hK hP 0 rfl rfl 1 (by decide) q4 (fun _ h9 => h9) rfl dX6_undo_56 ?_
    refine lv_aload_n hx hb dX6_undo_59 rfl (lv_at hl 0 rfl) ?_
    refine va_get (D := D) (ci := 5) (v := .int (u.2.2.2.1 - 1)) (C := RX6) (T := TX6) (N := 8) hx hb hts q2 hown hK hP 0 rfl rfl 3 (by decide) q1 (fun _ h9 => h9) rfl dX6_undo_60 ?_
    obtain ⟨g5, hf⟩ := og_e hf
    refine va_iald hx hb hK hP 2 1 rfl rfl g5 dX6_undo_63 ?_
    have hP9 : va_P D vwCl (wM cC cI cJ h0 h1 h2 h3 h4 h5 ((vp_updL u.1 (u.2.1 (u.2.2.2.1 - 1).toNatClampNeg).toNatClampNeg (u.2.2.1 (u.2.2.2.1 - 1).toNatClampNeg)), (u.2.1, (u.2.2.1, ((u.2.2.2.1 - 1), (u.2.2.2.2.1, (u.2.2.2.2.2.1, (u.2.2.2.2.2.2.1, 0)))))))) _ := hP
    have hD9 : va_D A (wM cC cI cJ h0 h1 h2 h3 h4 h5 ((vp_updL u.1 (u.2.1 (u.2.2.2.1 - 1).toNatClampNeg).toNatClampNeg (u.2.2.1 (u.2.2.2.1 - 1).toNatClampNeg)), (u.2.1, (u.2.2.1, ((u.2.2.2.1 - 1), (u.2.2.2.2.1, (u.2.2.2.2.2.1, (u.2.2.2.2.2.2.1, 0)))))))) := hD
    have hf := Option.some.inj hf
    have hf1 := congrArg Prod.fst hf
    have hf2 := congrArg Prod.snd hf
    exact W.iret (v := (u.2.1 (u.2.2.2.1 - 1).toNatClampNeg)) hx hb hr (fun t ht hW => ⟨⟨(u.2.1 (u.2.2.2.1 - 1).toNatClampNeg), ((vp_updL u.1 (u.2.1 (u.2.2.2.1 - 1).toNatClampNeg).toNatClampNeg (u.2.2.1 (u.2.2.2.1 - 1).toNatClampNeg)), (u.2.1, (u.2.2.1, ((u.2.2.2.1 - 1), (u.2.2.2.2.1, (u.2.2.2.2.2.1, (u.2.2.2.2.2.2.1, 0))))))), rfl, ⟨hf1, hf2⟩, by rw [ht]; exact hP9, va_K.moved hW.alike hK, hD9⟩, hS.F ht⟩) hS.2.2 dX6_undo_64

set_option maxHeartbeats 4000000 in
set_option maxRecDepth 100000 in
theorem m_X6_set (l : Launch) (D : va_G) (cC cI cJ : ClassId) (h0 h1 h2 h3 h4 h5 : Nat) (u : StM) (sz : Nat) (a0 : Int32) (a1 : Int32) (a2 : Int32) (res : Int64 × StM) (hf : f_X6_set u a0 a1 a2 = some res) : Met l yX6_set wsX6_set rmX6_set (my_PcM D vwCl (KT cC cI cJ) sz (wM cC cI cJ h0 h1 h2 h3 h4 h5 u) [.ref h0, .int a0, .int a1, .int a2]) (va_Ql (fun r v => r = res.1 ∧ v = res.2) (my_B D vwCl (KT cC cI cJ) (va_A (wM cC cI cJ h0 h1 h2 h3 h4 h5 u) sz) (fun v : StM => (wM cC cI cJ h0 h1 h2 h3 h4 h5 v))) (va_A (wM cC cI cJ h0 h1 h2 h3 h4 h5 u) sz)) 0 0 (va_A (wM cC cI cJ h0 h1 h2 h3 h4 h5 u) sz) := by
  refine Met.ofW (cc := cX6_set) (maxL := 7) (ret := (some .long)) (by decide) rfl ?_
  intro p e s m args below meth c s₁ B hml hv
  obtain ⟨rfl, hsz, hP, hK, hD0⟩ := hv
  have hx := B.exec
  have hb := B.bytes
  have hr := B.returns
  have hts : ∀ w ∈ wsX6_set, w.before ([.ref h0, .int a0, .int a1, .int a2] : List Value).toArray s = true := atoms_spec (ws := wsX6_set) B.pre
  have hown : s.vm.findClass RX6 = some m.cls := findClass_of_methodNamed B.named
  have hlk : meth.locks = false := B.notSynchronized
  subst hsz
  have hD := hD0.self (sz := s.heap.size)
  generalize hAe : va_A (wM cC cI cJ h0 h1 h2 h3 h4 h5 u) s.heap.size = A at hD ⊢
  have hA : ∀ q : Nat, s.heap.size ≤ q → A q := fun q h => by rw [← hAe]; exact Or.inr h
  have hS : va_S A s.heap s.heap [] := va_S.rf
  have hP : va_P D vwCl [(h0, .inr (5, [.ref h1, .ref h2, .ref h3, .int u.2.2.2.1, .ref h4, .ref h5, .int u.2.2.2.2.2.2.1, .int u.2.2.2.2.2.2.2])), (h1, .inl (cJ, 8, .inr (.inl u.1))), (h2, .inl (cI, 8, .inl u.2.1)), (h3, .inl (cJ, 8, .inr (.inl u.2.2.1))), (h4, .inl (cC, 40, .inl u.2.2.2.2.1)), (h5, .inl (cI, 40, .inl u.2.2.2.2.2.1))] s.heap := hP
  have hD : va_D A [(h0, .inr (5, [.ref h1, .ref h2, .ref h3, .int u.2.2.2.1, .ref h4, .ref h5, .int u.2.2.2.2.2.2.1, .int u.2.2.2.2.2.2.2])), (h1, .inl (cJ, 8, .inr (.inl u.1))), (h2, .inl (cI, 8, .inl u.2.1)), (h3, .inl (cJ, 8, .inr (.inl u.2.2.1))), (h4, .inl (cC, 40, .inl u.2.2.2.2.1)), (h5, .inl (cI, 40, .inl u.2.2.2.2.2.1))] := hD
  have hl := lv_entry ([.ref h0, .int a0, .int a1, .int a2]) (n := 7) (Nat.le_of_ble_eq_true rfl)
  rw [lg_entry_eq]
  generalize (lg_sl ([.ref h0, .int a0, .int a1, .int a2]) ++ List.replicate (7 - (lg_sl ([.ref h0, .int a0, .int a1, .int a2])).length) Slot.unset).toArray = ls at hl ⊢
  have hl : lv_has ls 7 [(0, .ref h0), (1, .int a0), (2, .int a1), (3, .int a2)] := hl
  unfold f_X6_set at hf
  refine lv_aload_n hx hb dX6_set_0 rfl (lv_at hl 0 rfl) ?_
  refine lv_iload_n hx hb dX6_set_1 rfl (lv_at hl 1 rfl) ?_
  obtain ⟨z1, ez1, hf⟩ := ob_e hf
  refine my_callMi (As := [.int a0]) (n := 1) (rest := []) (wr := []) ⟨hx, hb, hml, hown, hts⟩ hK hP hD hS hA [0, 1, 2, 3, 4, 5] [] rfl rfl (by decide) (by decide) (by decide) (m_X6_lacks l D cC cI cJ h0 h1 h2 h3 h4 h5 u s.heap.size a0 _ ez1) gX6_set_X6_lacks rfl ⟨rfl, rfl⟩ (ci := 5) rfl rfl (by decide +kernel) ⟨Nat.le_of_ble_eq_true rfl, Nat.le_of_ble_eq_true rfl⟩ ⟨Nat.le_of_ble_eq_true rfl, Nat.le_of_ble_eq_true rfl⟩ hl.1 rfl rfl (Nat.le_of_ble_eq_true rfl) dX6_set_2 (fun r9 u9 H locs hw hP hD hS => ?_)
  obtain ⟨rfl, rfl⟩ := hw
  have hP : va_P D vwCl [(h0, .inr (5, [.ref h1, .ref h2, .ref h3, .int z1.2.2.2.2.1, .ref h4, .ref h5, .int z1.2.2.2.2.2.2.2.1, .int z1.2.2.2.2.2.2.2.2])), (h1, .inl (cJ, 8, .inr (.inl z1.2.1))), (h2, .inl (cI, 8, .inl z1.2.2.1)), (h3, .inl (cJ, 8, .inr (.inl z1.2.2.2.1))), (h4, .inl (cC, 40, .inl z1.2.2.2.2.2.1)), (h5, .inl (cI, 40, .inl z1.2.2.2.2.2.2.1))] H := hP.sub [0, 1, 2, 3, 4, 5] rfl
  have hD : va_D A [(h0, .inr (5, [.ref h1, .ref h2, .ref h3, .int z1.2.2.2.2.1, .ref h4, .ref h5, .int z1.2.2.2.2.2.2.2.1, .int z1.2.2.2.2.2.2.2.2])), (h1, .inl (cJ, 8, .inr (.inl z1.2.1))), (h2, .inl (cI, 8, .inl z1.2.2.1)), (h3, .inl (cJ, 8, .inr (.inl z1.2.2.2.1))), (h4, .inl (cC, 40, .inl z1.2.2.2.2.2.1)), (h5, .inl (cI, 40, .inl z1.2.2.2.2.2.2.1))] := hD.sub [0, 1, 2, 3, 4, 5] (by decide) rfl
  refine my_bz_ne (x := z1.1) (tgt := 43) hx hb dX6_set_5 (by decide) (fun c2 => ?_) (fun c2 => ?_)
  · rw [if_neg c2] at hf
    refine lv_lconst (v := 0) hx hb dX6_set_43 (by decide) ?_
    have hP9 : va_P D vwCl (wM cC cI cJ h0 h1 h2 h3 h4 h5 z1.2) _ := hP
    have hD9 : va_D A (wM cC cI cJ h0 h1 h2 h3 h4 h5 z1.2) := hD
    have hf := Option.some.inj hf
    have hf1 := congrArg Prod.fst hf
    have hf2 := congrArg Prod.snd hf
    exact W.lret (v := 0) hx hb hr (fun t ht hW => ⟨⟨0, z1.2, rfl, ⟨hf1, hf2⟩, by rw [ht]; exact hP9, va_K.moved hW.alike hK, hD9⟩, hS.F ht⟩) hS.2.2 dX6_set_44
  · rw [if_pos c2] at hf
    refine lv_aload_n hx hb dX6_set_8 rfl (lv_at hl 0 rfl) ?_
    refine lv_iload_n hx hb dX6_set_9 rfl (lv_at hl 2 rfl) ?_
    refine lv_bipush (v := (-128)) hx hb dX6_set_10 (by decide) ?_
    refine lv_bipush (v := 127) hx hb dX6_set_12 (by decide) ?_
    refine my_callPi (As := [.int a1, .int (-128), .int 127]) (n := 3) (rest := [.ref h0]) ⟨hx, hb, hml, hown, hts⟩ (m_X6_in l a1 (-128) 127 _ rfl) gX6_set_X6_in rfl ⟨rfl, rfl⟩ (by decide +kernel) ⟨Nat.le_of_ble_eq_true rfl, Nat.le_of_ble_eq_true rfl⟩ ⟨Nat.le_of_ble_eq_true rfl, Nat.le_of_ble_eq_true rfl⟩ hl.1 rfl rfl (Nat.le_of_ble_eq_true rfl) dX6_set_14 ?_
    refine my_bz_eq (x := (f_X6_in a1 (-128) 127)) (tgt := 35) hx hb dX6_set_17 (by decide) (fun c3 => ?_) (fun c3 => ?_)
    · rw [if_pos c3] at hf
      refine lv_iconst (v := 0) hx hb dX6_set_35 (by decide) ?_
      refine lv_iconst (v := 2) hx hb dX6_set_36 (by decide) ?_
      refine my_callMi (As := [.int (b2i false), .int 2]) (n := 2) (rest := []) (wr := []) ⟨hx, hb, hml, hown, hts⟩ hK hP hD hS hA [0, 1, 2, 3, 4, 5] [] rfl rfl (by decide) (by decide) (by decide) (m_X6_no l D cC cI cJ h0 h1 h2 h3 h4 h5 z1.2 H.size false 2 _ (no_f z1.2 2)) gX6_set_X6_no rfl ⟨rfl, rfl⟩ (ci := 5) rfl rfl (by decide +kernel) ⟨Nat.le_of_ble_eq_true rfl, Nat.le_of_ble_eq_true rfl⟩ ⟨Nat.le_of_ble_eq_true rfl, Nat.le_of_ble_eq_true rfl⟩ hl.1 rfl rfl (Nat.le_of_ble_eq_true rfl) dX6_set_37 (fun r9 u9 H locs hw hP hD hS => ?_)
      obtain ⟨rfl, rfl⟩ := hw
      have hP : va_P D vwCl [(h0, .inr (5, [.ref h1, .ref h2, .ref h3, .int z1.2.2.2.2.1, .ref h4, .ref h5, .int z1.2.2.2.2.2.2.2.1, .int 2])), (h1, .inl (cJ, 8, .inr (.inl z1.2.1))), (h2, .inl (cI, 8, .inl z1.2.2.1)), (h3, .inl (cJ, 8, .inr (.inl z1.2.2.2.1))), (h4, .inl (cC, 40, .inl z1.2.2.2.2.2.1)), (h5, .inl (cI, 40, .inl z1.2.2.2.2.2.2.1))] H := hP.sub [0, 1, 2, 3, 4, 5] rfl
      have hD : va_D A [(h0, .inr (5, [.ref h1, .ref h2, .ref h3, .int z1.2.2.2.2.1, .ref h4, .ref h5, .int z1.2.2.2.2.2.2.2.1, .int 2])), (h1, .inl (cJ, 8, .inr (.inl z1.2.1))), (h2, .inl (cI, 8, .inl z1.2.2.1)), (h3, .inl (cJ, 8, .inr (.inl z1.2.2.2.1))), (h4, .inl (cC, 40, .inl z1.2.2.2.2.2.1)), (h5, .inl (cI, 40, .inl z1.2.2.2.2.2.2.1))] := hD.sub [0, 1, 2, 3, 4, 5] (by decide) rfl
      refine my_bz_eq (x := true) (tgt := 45) hx hb dX6_set_40 (by decide) (fun h9 => absurd h9 (by decide)) (fun _ => ?_)
      refine lv_lconst (v := 0) hx hb dX6_set_43 (by decide) ?_
      have hP9 : va_P D vwCl (wM cC cI cJ h0 h1 h2 h3 h4 h5 (z1.2.1, (z1.2.2.1, (z1.2.2.2.1, (z1.2.2.2.2.1, (z1.2.2.2.2.2.1, (z1.2.2.2.2.2.2.1, (z1.2.2.2.2.2.2.2.1, 2)))))))) _ := hP
      have hD9 : va_D A (wM cC cI cJ h0 h1 h2 h3 h4 h5 (z1.2.1, (z1.2.2.1, (z1.2.2.2.1, (z1.2.2.2.2.1, (z1.2.2.2.2.2.1, (z1.2.2.2.2.2.2.1, (z1.2.2.2.2.2.2.2.1, 2)))))))) := hD
      have hf := Option.some.inj hf
      have hf1 := congrArg Prod.fst hf
      have hf2 := congrArg Prod.snd hf
      exact W.lret (v := 0) hx hb hr (fun t ht hW => ⟨⟨0, (z1.2.1, (z1.2.2.1, (z1.2.2.2.1, (z1.2.2.2.2.1, (z1.2.2.2.2.2.1, (z1.2.2.2.2.2.2.1, (z1.2.2.2.2.2.2.2.1, 2))))))), rfl, ⟨hf1, hf2⟩, by rw [ht]; exact hP9, va_K.moved hW.alike hK, hD9⟩, hS.F ht⟩) hS.2.2 dX6_set_44
    · rw [if_neg c3] at hf
      refine lv_iload_n hx hb dX6_set_20 rfl (lv_at hl 3 rfl) ?_
      refine lv_iconst (v := 0) hx hb dX6_set_21 (by decide) ?_
      refine lv_sipush (v := 255) hx hb dX6_set_22 (by decide) ?_
      refine my_callPi (As := [.int a2, .int 0, .int 255]) (n := 3) (rest := [.ref h0]) ⟨hx, hb, hml, hown, hts⟩ (m_X6_in l a2 0 255 _ rfl) gX6_set_X6_in rfl ⟨rfl, rfl⟩ (by decide +kernel) ⟨Nat.le_of_ble_eq_true rfl, Nat.le_of_ble_eq_true rfl⟩ ⟨Nat.le_of_ble_eq_true rfl, Nat.le_of_ble_eq_true rfl⟩ hl.1 rfl rfl (Nat.le_of_ble_eq_true rfl) dX6_set_25 ?_
      refine my_bz_eq (x := (f_X6_in a2 0 255)) (tgt := 35) hx hb dX6_set_28 (by decide) (fun c4 => ?_) (fun c4 => ?_)
      · rw [if_pos c4] at hf
        refine lv_iconst (v := 0) hx hb dX6_set_35 (by decide) ?_
        refine lv_iconst (v := 2) hx hb dX6_set_36 (by decide) ?_
        refine my_callMi (As := [.int (b2i false), .int 2]) (n := 2) (rest := []) (wr := []) ⟨hx, hb, hml, hown, hts⟩ hK hP hD hS hA [0, 1, 2, 3, 4, 5] [] rfl rfl (by decide) (by decide) (by decide) (m_X6_no l D cC cI cJ h0 h1 h2 h3 h4 h5 z1.2 H.size false 2 _ (no_f z1.2 2)) gX6_set_X6_no rfl ⟨rfl, rfl⟩ (ci := 5) rfl rfl (by decide +kernel) ⟨Nat.le_of_ble_eq_true rfl, Nat.le_of_ble_eq_true rfl⟩ ⟨Nat.le_of_ble_eq_true rfl, Nat.le_of_ble_eq_true rfl⟩ hl.1 rfl rfl (Nat.le_of_ble_eq_true rfl) dX6_set_37 (fun r9 u9 H locs hw hP hD hS => ?_)
        obtain ⟨rfl, rfl⟩ := hw
        have hP : va_P D vwCl [(h0, .inr (5, [.ref h1, .ref h2, .ref h3, .int z1.2.2.2.2.1, .ref h4, .ref h5, .int z1.2.2.2.2.2.2.2.1, .int 2])), (h1, .inl (cJ, 8, .inr (.inl z1.2.1))), (h2, .inl (cI, 8, .inl z1.2.2.1)), (h3, .inl (cJ, 8, .inr (.inl z1.2.2.2.1))), (h4, .inl (cC, 40, .inl z1.2.2.2.2.2.1)), (h5, .inl (cI, 40, .inl z1.2.2.2.2.2.2.1))] H := hP.sub [0, 1, 2, 3, 4, 5] rfl
        have hD : va_D A [(h0, .inr (5, [.ref h1, .ref h2, .ref h3, .int z1.2.2.2.2.1, .ref h4, .ref h5, .int z1.2.2.2.2.2.2.2.1, .int 2])), (h1, .inl (cJ, 8, .inr (.inl z1.2.1))), (h2, .inl (cI, 8, .inl z1.2.2.1)), (h3, .inl (cJ, 8, .inr (.inl z1.2.2.2.1))), (h4, .inl (cC, 40, .inl z1.2.2.2.2.2.1)), (h5, .inl (cI, 40, .inl z1.2.2.2.2.2.2.1))] := hD.sub [0, 1, 2, 3, 4, 5] (by decide) rfl
        refine my_bz_eq (x := true) (tgt := 45) hx hb dX6_set_40 (by decide) (fun h9 => absurd h9 (by decide)) (fun _ => ?_)
        refine lv_lconst (v := 0) hx hb dX6_set_43 (by decide) ?_
        have hP9 : va_P D vwCl (wM cC cI cJ h0 h1 h2 h3 h4 h5 (z1.2.1, (z1.2.2.1, (z1.2.2.2.1, (z1.2.2.2.2.1, (z1.2.2.2.2.2.1, (z1.2.2.2.2.2.2.1, (z1.2.2.2.2.2.2.2.1, 2)))))))) _ := hP
        have hD9 : va_D A (wM cC cI cJ h0 h1 h2 h3 h4 h5 (z1.2.1, (z1.2.2.1, (z1.2.2.2.1, (z1.2.2.2.2.1, (z1.2.2.2.2.2.1, (z1.2.2.2.2.2.2.1, (z1.2.2.2.2.2.2.2.1, 2)))))))) := hD
        have hf := Option.some.inj hf
        have hf1 := congrArg Prod.fst hf
        have hf2 := congrArg Prod.snd hf
        exact W.lret (v := 0) hx hb hr (fun t ht hW => ⟨⟨0, (z1.2.1, (z1.2.2.1, (z1.2.2.2.1, (z1.2.2.2.2.1, (z1.2.2.2.2.2.1, (z1.2.2.2.2.2.2.1, (z1.2.2.2.2.2.2.2.1, 2))))))), rfl, ⟨hf1, hf2⟩, by rw [ht]; exact hP9, va_K.moved hW.alike hK, hD9⟩, hS.F ht⟩) hS.2.2 dX6_set_44
      · rw [if_neg c4] at hf
        refine lv_iconst (v := 1) hx hb dX6_set_31 (by decide) ?_
        refine lv_goto (tgt := 36) hx hb dX6_set_32 (by decide) ?_
        refine lv_iconst (v := 2) hx hb dX6_set_36 (by decide) ?_
        refine my_callMi (As := [.int (b2i true), .int 2]) (n := 2) (rest := []) (wr := []) ⟨hx, hb, hml, hown, hts⟩ hK hP hD hS hA [0, 1, 2, 3, 4, 5] [] rfl rfl (by decide) (by decide) (by decide) (m_X6_no l D cC cI cJ h0 h1 h2 h3 h4 h5 z1.2 H.size true 2 _ (no_t z1.2 2)) gX6_set_X6_no rfl ⟨rfl, rfl⟩ (ci := 5) rfl rfl (by decide +kernel) ⟨Nat.le_of_ble_eq_true rfl, Nat.le_of_ble_eq_true rfl⟩ ⟨Nat.le_of_ble_eq_true rfl, Nat.le_of_ble_eq_true rfl⟩ hl.1 rfl rfl (Nat.le_of_ble_eq_true rfl) dX6_set_37 (fun r9 u9 H locs hw hP hD hS => ?_)
        obtain ⟨rfl, rfl⟩ := hw
        have hP : va_P D vwCl [(h0, .inr (5, [.ref h1, .ref h2, .ref h3, .int z1.2.2.2.2.1, .ref h4, .ref h5, .int z1.2.2.2.2.2.2.2.1, .int 0])), (h1, .inl (cJ, 8, .inr (.inl z1.2.1))), (h2, .inl (cI, 8, .inl z1.2.2.1)), (h3, .inl (cJ, 8, .inr (.inl z1.2.2.2.1))), (h4, .inl (cC, 40, .inl z1.2.2.2.2.2.1)), (h5, .inl (cI, 40, .inl z1.2.2.2.2.2.2.1))] H := hP.sub [0, 1, 2, 3, 4, 5] rfl
        have hD : va_D A [(h0, .inr (5, [.ref h1, .ref h2, .ref h3, .int z1.2.2.2.2.1, .ref h4, .ref h5, .int z1.2.2.2.2.2.2.2.1, .int 0])), (h1, .inl (cJ, 8, .inr (.inl z1.2.1))), (h2, .inl (cI, 8, .inl z1.2.2.1)), (h3, .inl (cJ, 8, .inr (.inl z1.2.2.2.1))), (h4, .inl (cC, 40, .inl z1.2.2.2.2.2.1)), (h5, .inl (cI, 40, .inl z1.2.2.2.2.2.2.1))] := hD.sub [0, 1, 2, 3, 4, 5] (by decide) rfl
        refine my_bz_eq (x := false) (tgt := 45) hx hb dX6_set_40 (by decide) (fun _ => ?_) (fun h9 => absurd h9 (by decide))
        refine lv_iload_n hx hb dX6_set_45 rfl (lv_at hl 3 rfl) ?_
        refine lv_bipush (v := 64) hx hb dX6_set_46 (by decide) ?_
        refine my_ic_ge (tgt := 59) hx hb dX6_set_48 (by decide) (fun c5 => ?_) (fun c5 => ?_)
        · rw [if_neg c5] at hf
          refine lv_iload_n hx hb dX6_set_59 rfl (lv_at hl 3 rfl) ?_
          refine lv_sipush (v := 192) hx hb dX6_set_60 (by decide) ?_
          refine my_ic_ge (tgt := 74) hx hb dX6_set_63 (by decide) (fun c6 => ?_) (fun c6 => ?_)
          · rw [if_neg c6] at hf
            refine lv_iload_n hx hb dX6_set_74 rfl (lv_at hl 3 rfl) ?_
            refine lv_sipush (v := 761) hx hb dX6_set_75 (by decide) ?_
            refine lv_iadd hx hb dX6_set_78 ?_
            refine lv_istore (lv' := [(4, .int (a2 + 761)), (0, .ref h0), (1, .int a0), (2, .int a1), (3, .int a2)]) hx hb dX6_set_79 hl (by decide) rfl (fun ls hl => ?_)
            refine lv_iload_n hx hb dX6_set_81 rfl (lv_at hl 3 rfl) ?_
            refine my_if_ne (tgt := 89) hx hb dX6_set_82 (by decide) (fun c7 => ?_) (fun c7 => ?_)
            · rw [if_neg c7] at hf
              refine lv_iload_n hx hb dX6_set_89 rfl (lv_at hl 3 rfl) ?_
              refine my_if_ge (tgt := 99) hx hb dX6_set_90 (by decide) (fun c8 => ?_) (fun c8 => ?_)
              · rw [if_neg c8] at hf
                refine lv_iload_n hx hb dX6_set_99 rfl (lv_at hl 3 rfl) ?_
                refine lv_i2l (v := (a1.toInt64)) hx hb dX6_set_100 rfl ?_
                refine lv_iload hx hb dX6_set_101 (lv_at hl 0 rfl) ?_
                refine lv_sipush (v := 1074) hx hb dX6_set_103 (by decide) ?_
                refine lv_iadd hx hb dX6_set_106 ?_
                obtain ⟨r9, er9, hf⟩ := ob_e hf
                refine my_callPl (As := [.long (a1.toInt64), .int ((a2 + 761) + 1074)]) (n := 2) (rest := []) ⟨hx, hb, hml, hown, hts⟩ (m_X6_made l (a1.toInt64) ((a2 + 761) + 1074) _ er9) gX6_set_X6_made rfl ⟨rfl, rfl⟩ (by decide +kernel) ⟨Nat.le_of_ble_eq_true rfl, Nat.le_of_ble_eq_true rfl⟩ ⟨Nat.le_of_ble_eq_true rfl, Nat.le_of_ble_eq_true rfl⟩ hl.1 rfl rfl (Nat.le_of_ble_eq_true rfl) dX6_set_107 ?_
                refine lv_lstore (lv' := [(5, .long r9), (4, .int (a2 + 761)), (0, .ref h0), (1, .int a0), (2, .int a1), (3, .int a2)]) hx hb dX6_set_110 hl (by decide) rfl (fun ls hl => ?_)
                refine lv_aload_n hx hb dX6_set_112 rfl (lv_at hl 2 rfl) ?_
                refine lv_iload_n hx hb dX6_set_113 rfl (lv_at hl 3 rfl) ?_
                refine lv_iload_n hx hb dX6_set_114 rfl (lv_at hl 4 rfl) ?_
                refine my_if_ge (tgt := 126) hx hb dX6_set_115 (by decide) (fun c10 => ?_) (fun c10 => ?_)
                · rw [if_neg c10] at hf
                  refine lv_lload hx hb dX6_set_126 (lv_at hl 0 rfl) ?_
                  obtain ⟨z11, ez11, hf⟩ := ob_e hf
                  refine my_callMl (As := [.int a0, .long r9]) (n := 2) (rest := []) (wr := []) ⟨hx, hb, hml, hown, hts⟩ hK hP hD hS hA [0, 1, 2, 3, 4, 5] [] rfl rfl (by decide) (by decide) (by decide) (m_X6_becomes l D cC cI cJ h0 h1 h2 h3 h4 h5 (z1.2.1, (z1.2.2.1, (z1.2.2.2.1, (z1.2.2.2.2.1, (z1.2.2.2.2.2.1, (z1.2.2.2.2.2.2.1, (z1.2.2.2.2.2.2.2.1, 0))))))) H.size a0 r9 _ ez11) gX6_set_X6_becomes rfl ⟨rfl, rfl⟩ (ci := 5) rfl rfl (by decide +kernel) ⟨Nat.le_of_ble_eq_true rfl, Nat.le_of_ble_eq_true rfl⟩ ⟨Nat.le_of_ble_eq_true rfl, Nat.le_of_ble_eq_true rfl⟩ hl.1 rfl rfl (Nat.le_of_ble_eq_true rfl) dX6_set_128 (fun r9 u9 H locs hw hP hD hS => ?_)
                  obtain ⟨rfl, rfl⟩ := hw
                  have hP : va_P D vwCl [(h0, .inr (5, [.ref h1, .ref h2, .ref h3, .int z11.2.2.2.2.1, .ref h4, .ref h5, .int z11.2.2.2.2.2.2.2.1, .int z11.2.2.2.2.2.2.2.2])), (h1, .inl (cJ, 8, .inr (.inl z11.2.1))), (h2, .inl (cI, 8, .inl z11.2.2.1)), (h3, .inl (cJ, 8, .inr (.inl z11.2.2.2.1))), (h4, .inl (cC, 40, .inl z11.2.2.2.2.2.1)), (h5, .inl (cI, 40, .inl z11.2.2.2.2.2.2.1))] H := hP.sub [0, 1, 2, 3, 4, 5] rfl
                  have hD : va_D A [(h0, .inr (5, [.ref h1, .ref h2, .ref h3, .int z11.2.2.2.2.1, .ref h4, .ref h5, .int z11.2.2.2.2.2.2.2.1, .int z11.2.2.2.2.2.2.2.2])), (h1, .inl (cJ, 8, .inr (.inl z11.2.1))), (h2, .inl (cI, 8, .inl z11.2.2.1)), (h3, .inl (cJ, 8, .inr (.inl z11.2.2.2.1))), (h4, .inl (cC, 40, .inl z11.2.2.2.2.2.1)), (h5, .inl (cI, 40, .inl z11.2.2.2.2.2.2.1))] := hD.sub [0, 1, 2, 3, 4, 5] (by decide) rfl
                  have hP9 : va_P D vwCl (wM cC cI cJ h0 h1 h2 h3 h4 h5 z11.2) _ := hP
                  have hD9 : va_D A (wM cC cI cJ h0 h1 h2 h3 h4 h5 z11.2) := hD
                  have hf := Option.some.inj hf
                  have hf1 := congrArg Prod.fst hf
                  have hf2 := congrArg Prod.snd hf
                  exact W.lret (v := z11.1) hx hb hr (fun t ht hW => ⟨⟨z11.1, z11.2, rfl, ⟨hf1, hf2⟩, by rw [ht]; exact hP9, va_K.moved hW.alike hK, hD9⟩, hS.F ht⟩) hS.2.2 dX6_set_131
                · rw [if_pos c10] at hf
                  refine lv_lload hx hb dX6_set_118 (lv_at hl 0 rfl) ?_
                  refine my_callPl (As := [.long r9]) (n := 1) (rest := [.int a0, .ref h0]) ⟨hx, hb, hml, hown, hts⟩ (m_X6_opposite l r9 _ rfl) gX6_set_X6_opposite rfl ⟨rfl, rfl⟩ (by decide +kernel) ⟨Nat.le_of_ble_eq_true rfl, Nat.le_of_ble_eq_true rfl⟩ ⟨Nat.le_of_ble_eq_true rfl, Nat.le_of_ble_eq_true rfl⟩ hl.1 rfl rfl (Nat.le_of_ble_eq_true rfl) dX6_set_120 ?_
                  refine lv_goto (tgt := 128) hx hb dX6_set_123 (by decide) ?_
                  obtain ⟨z12, ez12, hf⟩ := ob_e hf
                  refine my_callMl (As := [.int a0, .long (f_X6_opposite r9)]) (n := 2) (rest := []) (wr := []) ⟨hx, hb, hml, hown, hts⟩ hK hP hD hS hA [0, 1, 2, 3, 4, 5] [] rfl rfl (by decide) (by decide) (by decide) (m_X6_becomes l D cC cI cJ h0 h1 h2 h3 h4 h5 (z1.2.1, (z1.2.2.1, (z1.2.2.2.1, (z1.2.2.2.2.1, (z1.2.2.2.2.2.1, (z1.2.2.2.2.2.2.1, (z1.2.2.2.2.2.2.2.1, 0))))))) H.size a0 (f_X6_opposite r9) _ ez12) gX6_set_X6_becomes rfl ⟨rfl, rfl⟩ (ci := 5) rfl rfl (by decide +kernel) ⟨Nat.le_of_ble_eq_true rfl, Nat.le_of_ble_eq_true rfl⟩ ⟨Nat.le_of_ble_eq_true rfl, Nat.le_of_ble_eq_true rfl⟩ hl.1 rfl rfl (Nat.le_of_ble_eq_true rfl) dX6_set_128 (fun r9 u9 H locs hw hP hD hS => ?_)
                  obtain ⟨rfl, rfl⟩ := hw
                  have hP : va_P D vwCl [(h0, .inr (5, [.ref h1, .ref h2, .ref h3, .int z12.2.2.2.2.1, .ref h4, .ref h5, .int z12.2.2.2.2.2.2.2.1, .int z12.2.2.2.2.2.2.2.2])), (h1, .inl (cJ, 8, .inr (.inl z12.2.1))), (h2, .inl (cI, 8, .inl z12.2.2.1)), (h3, .inl (cJ, 8, .inr (.inl z12.2.2.2.1))), (h4, .inl (cC, 40, .inl z12.2.2.2.2.2.1)), (h5, .inl (cI, 40, .inl z12.2.2.2.2.2.2.1))] H := hP.sub [0, 1, 2, 3, 4, 5] rfl
                  have hD : va_D A [(h0, .inr (5, [.ref h1, .ref h2, .ref h3, .int z12.2.2.2.2.1, .ref h4, .ref h5, .int z12.2.2.2.2.2.2.2.1, .int z12.2.2.2.2.2.2.2.2])), (h1, .inl (cJ, 8, .inr (.inl z12.2.1))), (h2, .inl (cI, 8, .inl z12.2.2.1)), (h3, .inl (cJ, 8, .inr (.inl z12.2.2.2.1))), (h4, .inl (cC, 40, .inl z12.2.2.2.2.2.1)), (h5, .inl (cI, 40, .inl z12.2.2.2.2.2.2.1))] := hD.sub [0, 1, 2, 3, 4, 5] (by decide) rfl
                  have hP9 : va_P D vwCl (wM cC cI cJ h0 h1 h2 h3 h4 h5 z12.2) _ := hP
                  have hD9 : va_D A (wM cC cI cJ h0 h1 h2 h3 h4 h5 z12.2) := hD
                  have hf := Option.some.inj hf
                  have hf1 := congrArg Prod.fst hf
                  have hf2 := congrArg Prod.snd hf
                  exact W.lret (v := z12.1) hx hb hr (fun t ht hW => ⟨⟨z12.1, z12.2, rfl, ⟨hf1, hf2⟩, by rw [ht]; exact hP9, va_K.moved hW.alike hK, hD9⟩, hS.F ht⟩) hS.2.2 dX6_set_131
              · rw [if_pos c8] at hf
                refine lv_iload_n hx hb dX6_set_93 rfl (lv_at hl 3 rfl) ?_
                refine lv_ineg hx hb dX6_set_94 ?_
                refine lv_i2l (v := ((-a1).toInt64)) hx hb dX6_set_95 rfl ?_
                refine lv_goto (tgt := 101) hx hb dX6_set_96 (by decide) ?_
                refine lv_iload hx hb dX6_set_101 (lv_at hl 0 rfl) ?_
                refine lv_sipush (v := 1074) hx hb dX6_set_103 (by decide) ?_
                refine lv_iadd hx hb dX6_set_106 ?_
                obtain ⟨r13, er13, hf⟩ := ob_e hf
                refine my_callPl (As := [.long ((-a1).toInt64), .int ((a2 + 761) + 1074)]) (n := 2) (rest := []) ⟨hx, hb, hml, hown, hts⟩ (m_X6_made l ((-a1).toInt64) ((a2 + 761) + 1074) _ er13) gX6_set_X6_made rfl ⟨rfl, rfl⟩ (by decide +kernel) ⟨Nat.le_of_ble_eq_true rfl, Nat.le_of_ble_eq_true rfl⟩ ⟨Nat.le_of_ble_eq_true rfl, Nat.le_of_ble_eq_true rfl⟩ hl.1 rfl rfl (Nat.le_of_ble_eq_true rfl) dX6_set_107 ?_
                refine lv_lstore (lv' := [(5, .long r13), (4, .int (a2 + 761)), (0, .ref h0), (1, .int a0), (2, .int a1), (3, .int a2)]) hx hb dX6_set_110 hl (by decide) rfl (fun ls hl => ?_)
                refine lv_aload_n hx hb dX6_set_112 rfl (lv_at hl 2 rfl) ?_
                refine lv_iload_n hx hb dX6_set_113 rfl (lv_at hl 3 rfl) ?_
                refine lv_iload_n hx hb dX6_set_114 rfl (lv_at hl 4 rfl) ?_
                refine my_if_ge (tgt := 126) hx hb dX6_set_115 (by decide) (fun c14 => ?_) (fun c14 => ?_)
                · rw [if_neg c14] at hf
                  refine lv_lload hx hb dX6_set_126 (lv_at hl 0 rfl) ?_
                  obtain ⟨z15, ez15, hf⟩ := ob_e hf
                  refine my_callMl (As := [.int a0, .long r13]) (n := 2) (rest := []) (wr := []) ⟨hx, hb, hml, hown, hts⟩ hK hP hD hS hA [0, 1, 2, 3, 4, 5] [] rfl rfl (by decide) (by decide) (by decide) (m_X6_becomes l D cC cI cJ h0 h1 h2 h3 h4 h5 (z1.2.1, (z1.2.2.1, (z1.2.2.2.1, (z1.2.2.2.2.1, (z1.2.2.2.2.2.1, (z1.2.2.2.2.2.2.1, (z1.2.2.2.2.2.2.2.1, 0))))))) H.size a0 r13 _ ez15) gX6_set_X6_becomes rfl ⟨rfl, rfl⟩ (ci := 5) rfl rfl (by decide +kernel) ⟨Nat.le_of_ble_eq_true rfl, Nat.le_of_ble_eq_true rfl⟩ ⟨Nat.le_of_ble_eq_true rfl, Nat.le_of_ble_eq_true rfl⟩ hl.1 rfl rfl (Nat.le_of_ble_eq_true rfl) dX6_set_128 (fun r9 u9 H locs hw hP hD hS => ?_)
                  obtain ⟨rfl, rfl⟩ := hw
                  have hP : va_P D vwCl [(h0, .inr (5, [.ref h1, .ref h2, .ref h3, .int z15.2.2.2.2.1, .ref h4, .ref h5, .int z15.2.2.2.2.2.2.2.1, .int z15.2.2.2.2.2.2.2.2])), (h1, .inl (cJ, 8, .inr (.inl z15.2.1))), (h2, .inl (cI, 8, .inl z15.2.2.1)), (h3, .inl (cJ, 8, .inr (.inl z15.2.2.2.1))), (h4, .inl (cC, 40, .inl z15.2.2.2.2.2.1)), (h5, .inl (cI, 40, .inl z15.2.2.2.2.2.2.1))] H := hP.sub [0, 1, 2, 3, 4, 5] rfl
                  have hD : va_D A [(h0, .inr (5, [.ref h1, .ref h2, .ref h3, .int z15.2.2.2.2.1, .ref h4, .ref h5, .int z15.2.2.2.2.2.2.2.1, .int z15.2.2.2.2.2.2.2.2])), (h1, .inl (cJ, 8, .inr (.inl z15.2.1))), (h2, .inl (cI, 8, .inl z15.2.2.1)), (h3, .inl (cJ, 8, .inr (.inl z15.2.2.2.1))), (h4, .inl (cC, 40, .inl z15.2.2.2.2.2.1)), (h5, .inl (cI, 40, .inl z15.2.2.2.2.2.2.1))] := hD.sub [0, 1, 2, 3, 4, 5] (by decide) rfl
                  have hP9 : va_P D vwCl (wM cC cI cJ h0 h1 h2 h3 h4 h5 z15.2) _ := hP
                  have hD9 : va_D A (wM cC cI cJ h0 h1 h2 h3 h4 h5 z15.2) := hD
                  have hf := Option.some.inj hf
                  have hf1 := congrArg Prod.fst hf
                  have hf2 := congrArg Prod.snd hf
                  exact W.lret (v := z15.1) hx hb hr (fun t ht hW => ⟨⟨z15.1, z15.2, rfl, ⟨hf1, hf2⟩, by rw [ht]; exact hP9, va_K.moved hW.alike hK, hD9⟩, hS.F ht⟩) hS.2.2 dX6_set_131
                · rw [if_pos c14] at hf
                  refine lv_lload hx hb dX6_set_118 (lv_at hl 0 rfl) ?_
                  refine my_callPl (As := [.long r13]) (n := 1) (rest := [.int a0, .ref h0]) ⟨hx, hb, hml, hown, hts⟩ (m_X6_opposite l r13 _ rfl) gX6_set_X6_opposite rfl ⟨rfl, rfl⟩ (by decide +kernel) ⟨Nat.le_of_ble_eq_true rfl, Nat.le_of_ble_eq_true rfl⟩ ⟨Nat.le_of_ble_eq_true rfl, Nat.le_of_ble_eq_true rfl⟩ hl.1 rfl rfl (Nat.le_of_ble_eq_true rfl) dX6_set_120 ?_
                  refine lv_goto (tgt := 128) hx hb dX6_set_123 (by decide) ?_
                  obtain ⟨z16, ez16, hf⟩ := ob_e hf
                  refine my_callMl (As := [.int a0, .long (f_X6_opposite r13)]) (n := 2) (rest := []) (wr := []) ⟨hx, hb, hml, hown, hts⟩ hK hP hD hS hA [0, 1, 2, 3, 4, 5] [] rfl rfl (by decide) (by decide) (by decide) (m_X6_becomes l D cC cI cJ h0 h1 h2 h3 h4 h5 (z1.2.1, (z1.2.2.1, (z1.2.2.2.1, (z1.2.2.2.2.1, (z1.2.2.2.2.2.1, (z1.2.2.2.2.2.2.1, (z1.2.2.2.2.2.2.2.1, 0))))))) H.size a0 (f_X6_opposite r13) _ ez16) gX6_set_X6_becomes rfl ⟨rfl, rfl⟩ (ci := 5) rfl rfl (by decide +kernel) ⟨Nat.le_of_ble_eq_true rfl, Nat.le_of_ble_eq_true rfl⟩ ⟨Nat.le_of_ble_eq_true rfl, Nat.le_of_ble_eq_true rfl⟩ hl.1 rfl rfl (Nat.le_of_ble_eq_true rfl) dX6_set_128 (fun r9 u9 H locs hw hP hD hS => ?_)
                  obtain ⟨rfl, rfl⟩ := hw
                  have hP : va_P D vwCl [(h0, .inr (5, [.ref h1, .ref h2, .ref h3, .int z16.2.2.2.2.1, .ref h4, .ref h5, .int z16.2.2.2.2.2.2.2.1, .int z16.2.2.2.2.2.2.2.2])), (h1, .inl (cJ, 8, .inr (.inl z16.2.1))), (h2, .inl (cI, 8, .inl z16.2.2.1)), (h3, .inl (cJ, 8, .inr (.inl z16.2.2.2.1))), (h4, .inl (cC, 40, .inl z16.2.2.2.2.2.1)), (h5, .inl (cI, 40, .inl z16.2.2.2.2.2.2.1))] H := hP.sub [0, 1, 2, 3, 4, 5] rfl
                  have hD : va_D A [(h0, .inr (5, [.ref h1, .ref h2, .ref h3, .int z16.2.2.2.2.1, .ref h4, .ref h5, .int z16.2.2.2.2.2.2.2.1, .int z16.2.2.2.2.2.2.2.2])), (h1, .inl (cJ, 8, .inr (.inl z16.2.1))), (h2, .inl (cI, 8, .inl z16.2.2.1)), (h3, .inl (cJ, 8, .inr (.inl z16.2.2.2.1))), (h4, .inl (cC, 40, .inl z16.2.2.2.2.2.1)), (h5, .inl (cI, 40, .inl z16.2.2.2.2.2.2.1))] := hD.sub [0, 1, 2, 3, 4, 5] (by decide) rfl
                  have hP9 : va_P D vwCl (wM cC cI cJ h0 h1 h2 h3 h4 h5 z16.2) _ := hP
                  have hD9 : va_D A (wM cC cI cJ h0 h1 h2 h3 h4 h5 z16.2) := hD
                  have hf := Option.some.inj hf
                  have hf1 := congrArg Prod.fst hf
                  have hf2 := congrArg Prod.snd hf
                  exact W.lret (v := z16.1) hx hb hr (fun t ht hW => ⟨⟨z16.1, z16.2, rfl, ⟨hf1, hf2⟩, by rw [ht]; exact hP9, va_K.moved hW.alike hK, hD9⟩, hS.F ht⟩) hS.2.2 dX6_set_131
            · rw [if_pos c7] at hf
              refine lv_lconst (v := 0) hx hb dX6_set_85 (by decide) ?_
              refine lv_goto (tgt := 110) hx hb dX6_set_86 (by decide) ?_
              refine lv_lstore (lv' := [(5, .long 0), (4, .int (a2 + 761)), (0, .ref h0), (1, .int a0), (2, .int a1), (3, .int a2)]) hx hb dX6_set_110 hl (by decide) rfl (fun ls hl => ?_)
              refine lv_aload_n hx hb dX6_set_112 rfl (lv_at hl 2 rfl) ?_
              refine lv_iload_n hx hb dX6_set_113 rfl (lv_at hl 3 rfl) ?_
              refine lv_iload_n hx hb dX6_set_114 rfl (lv_at hl 4 rfl) ?_
              refine my_if_ge (tgt := 126) hx hb dX6_set_115 (by decide) (fun c17 => ?_) (fun c17 => ?_)
              · rw [if_neg c17] at hf
                refine lv_lload hx hb dX6_set_126 (lv_at hl 0 rfl) ?_
                obtain ⟨z18, ez18, hf⟩ := ob_e hf
                refine my_callMl (As := [.int a0, .long 0]) (n := 2) (rest := []) (wr := []) ⟨hx, hb, hml, hown, hts⟩ hK hP hD hS hA [0, 1, 2, 3, 4, 5] [] rfl rfl (by decide) (by decide) (by decide) (m_X6_becomes l D cC cI cJ h0 h1 h2 h3 h4 h5 (z1.2.1, (z1.2.2.1, (z1.2.2.2.1, (z1.2.2.2.2.1, (z1.2.2.2.2.2.1, (z1.2.2.2.2.2.2.1, (z1.2.2.2.2.2.2.2.1, 0))))))) H.size a0 0 _ ez18) gX6_set_X6_becomes rfl ⟨rfl, rfl⟩ (ci := 5) rfl rfl (by decide +kernel) ⟨Nat.le_of_ble_eq_true rfl, Nat.le_of_ble_eq_true rfl⟩ ⟨Nat.le_of_ble_eq_true rfl, Nat.le_of_ble_eq_true rfl⟩ hl.1 rfl rfl (Nat.le_of_ble_eq_true rfl) dX6_set_128 (fun r9 u9 H locs hw hP hD hS => ?_)
                obtain ⟨rfl, rfl⟩ := hw
                have hP : va_P D vwCl [(h0, .inr (5, [.ref h1, .ref h2, .ref h3, .int z18.2.2.2.2.1, .ref h4, .ref h5, .int z18.2.2.2.2.2.2.2.1, .int z18.2.2.2.2.2.2.2.2])), (h1, .inl (cJ, 8, .inr (.inl z18.2.1))), (h2, .inl (cI, 8, .inl z18.2.2.1)), (h3, .inl (cJ, 8, .inr (.inl z18.2.2.2.1))), (h4, .inl (cC, 40, .inl z18.2.2.2.2.2.1)), (h5, .inl (cI, 40, .inl z18.2.2.2.2.2.2.1))] H := hP.sub [0, 1, 2, 3, 4, 5] rfl
                have hD : va_D A [(h0, .inr (5, [.ref h1, .ref h2, .ref h3, .int z18.2.2.2.2.1, .ref h4, .ref h5, .int z18.2.2.2.2.2.2.2.1, .int z18.2.2.2.2.2.2.2.2])), (h1, .inl (cJ, 8, .inr (.inl z18.2.1))), (h2, .inl (cI, 8, .inl z18.2.2.1)), (h3, .inl (cJ, 8, .inr (.inl z18.2.2.2.1))), (h4, .inl (cC, 40, .inl z18.2.2.2.2.2.1)), (h5, .inl (cI, 40, .inl z18.2.2.2.2.2.2.1))] := hD.sub [0, 1, 2, 3, 4, 5] (by decide) rfl
                have hP9 : va_P D vwCl (wM cC cI cJ h0 h1 h2 h3 h4 h5 z18.2) _ := hP
                have hD9 : va_D A (wM cC cI cJ h0 h1 h2 h3 h4 h5 z18.2) := hD
                have hf := Option.some.inj hf
                have hf1 := congrArg Prod.fst hf
                have hf2 := congrArg Prod.snd hf
                exact W.lret (v := z18.1) hx hb hr (fun t ht hW => ⟨⟨z18.1, z18.2, rfl, ⟨hf1, hf2⟩, by rw [ht]; exact hP9, va_K.moved hW.alike hK, hD9⟩, hS.F ht⟩) hS.2.2 dX6_set_131
              · rw [if_pos c17] at hf
                refine lv_lload hx hb dX6_set_118 (lv_at hl 0 rfl) ?_
                refine my_callPl (As := [.long 0]) (n := 1) (rest := [.int a0, .ref h0]) ⟨hx, hb, hml, hown, hts⟩ (m_X6_opposite l 0 _ rfl) gX6_set_X6_opposite rfl ⟨rfl, rfl⟩ (by decide +kernel) ⟨Nat.le_of_ble_eq_true rfl, Nat.le_of_ble_eq_true rfl⟩ ⟨Nat.le_of_ble_eq_true rfl, Nat.le_of_ble_eq_true rfl⟩ hl.1 rfl rfl (Nat.le_of_ble_eq_true rfl) dX6_set_120 ?_
                refine lv_goto (tgt := 128) hx hb dX6_set_123 (by decide) ?_
                obtain ⟨z19, ez19, hf⟩ := ob_e hf
                refine my_callMl (As := [.int a0, .long (f_X6_opposite 0)]) (n := 2) (rest := []) (wr := []) ⟨hx, hb, hml, hown, hts⟩ hK hP hD hS hA [0, 1, 2, 3, 4, 5] [] rfl rfl (by decide) (by decide) (by decide) (m_X6_becomes l D cC cI cJ h0 h1 h2 h3 h4 h5 (z1.2.1, (z1.2.2.1, (z1.2.2.2.1, (z1.2.2.2.2.1, (z1.2.2.2.2.2.1, (z1.2.2.2.2.2.2.1, (z1.2.2.2.2.2.2.2.1, 0))))))) H.size a0 (f_X6_opposite 0) _ ez19) gX6_set_X6_becomes rfl ⟨rfl, rfl⟩ (ci := 5) rfl rfl (by decide +kernel) ⟨Nat.le_of_ble_eq_true rfl, Nat.le_of_ble_eq_true rfl⟩ ⟨Nat.le_of_ble_eq_true rfl, Nat.le_of_ble_eq_true rfl⟩ hl.1 rfl rfl (Nat.le_of_ble_eq_true rfl) dX6_set_128 (fun r9 u9 H locs hw hP hD hS => ?_)
                obtain ⟨rfl, rfl⟩ := hw
                have hP : va_P D vwCl [(h0, .inr (5, [.ref h1, .ref h2, .ref h3, .int z19.2.2.2.2.1, .ref h4, .ref h5, .int z19.2.2.2.2.2.2.2.1, .int z19.2.2.2.2.2.2.2.2])), (h1, .inl (cJ, 8, .inr (.inl z19.2.1))), (h2, .inl (cI, 8, .inl z19.2.2.1)), (h3, .inl (cJ, 8, .inr (.inl z19.2.2.2.1))), (h4, .inl (cC, 40, .inl z19.2.2.2.2.2.1)), (h5, .inl (cI, 40, .inl z19.2.2.2.2.2.2.1))] H := hP.sub [0, 1, 2, 3, 4, 5] rfl
                have hD : va_D A [(h0, .inr (5, [.ref h1, .ref h2, .ref h3, .int z19.2.2.2.2.1, .ref h4, .ref h5, .int z19.2.2.2.2.2.2.2.1, .int z19.2.2.2.2.2.2.2.2])), (h1, .inl (cJ, 8, .inr (.inl z19.2.1))), (h2, .inl (cI, 8, .inl z19.2.2.1)), (h3, .inl (cJ, 8, .inr (.inl z19.2.2.2.1))), (h4, .inl (cC, 40, .inl z19.2.2.2.2.2.1)), (h5, .inl (cI, 40, .inl z19.2.2.2.2.2.2.1))] := hD.sub [0, 1, 2, 3, 4, 5] (by decide) rfl
                have hP9 : va_P D vwCl (wM cC cI cJ h0 h1 h2 h3 h4 h5 z19.2) _ := hP
                have hD9 : va_D A (wM cC cI cJ h0 h1 h2 h3 h4 h5 z19.2) := hD
                have hf := Option.some.inj hf
                have hf1 := congrArg Prod.fst hf
                have hf2 := congrArg Prod.snd hf
                exact W.lret (v := z19.1) hx hb hr (fun t ht hW => ⟨⟨z19.1, z19.2, rfl, ⟨hf1, hf2⟩, by rw [ht]; exact hP9, va_K.moved hW.alike hK, hD9⟩, hS.F ht⟩) hS.2.2 dX6_set_131
          · rw [if_pos c6] at hf
            refine lv_iload_n hx hb dX6_set_66 rfl (lv_at hl 3 rfl) ?_
            refine lv_sipush (v := 128) hx hb dX6_set_67 (by decide) ?_
            refine lv_isub hx hb dX6_set_70 ?_
            refine lv_goto (tgt := 79) hx hb dX6_set_71 (by decide) ?_
            refine lv_istore (lv' := [(4, .int (a2 - 128)), (0, .ref h0), (1, .int a0), (2, .int a1), (3, .int a2)]) hx hb dX6_set_79 hl (by decide) rfl (fun ls hl => ?_)
            refine lv_iload_n hx hb dX6_set_81 rfl (lv_at hl 3 rfl) ?_
            refine my_if_ne (tgt := 89) hx hb dX6_set_82 (by decide) (fun c20 => ?_) (fun c20 => ?_)
            · rw [if_neg c20] at hf
              refine lv_iload_n hx hb dX6_set_89 rfl (lv_at hl 3 rfl) ?_
              refine my_if_ge (tgt := 99) hx hb dX6_set_90 (by decide) (fun c21 => ?_) (fun c21 => ?_)
              · rw [if_neg c21] at hf
                refine lv_iload_n hx hb dX6_set_99 rfl (lv_at hl 3 rfl) ?_
                refine lv_i2l (v := (a1.toInt64)) hx hb dX6_set_100 rfl ?_
                refine lv_iload hx hb dX6_set_101 (lv_at hl 0 rfl) ?_
                refine lv_sipush (v := 1074) hx hb dX6_set_103 (by decide) ?_
                refine lv_iadd hx hb dX6_set_106 ?_
                obtain ⟨r22, er22, hf⟩ := ob_e hf
                refine my_callPl (As := [.long (a1.toInt64), .int ((a2 - 128) + 1074)]) (n := 2) (rest := []) ⟨hx, hb, hml, hown, hts⟩ (m_X6_made l (a1.toInt64) ((a2 - 128) + 1074) _ er22) gX6_set_X6_made rfl ⟨rfl, rfl⟩ (by decide +kernel) ⟨Nat.le_of_ble_eq_true rfl, Nat.le_of_ble_eq_true rfl⟩ ⟨Nat.le_of_ble_eq_true rfl, Nat.le_of_ble_eq_true rfl⟩ hl.1 rfl rfl (Nat.le_of_ble_eq_true rfl) dX6_set_107 ?_
                refine lv_lstore (lv' := [(5, .long r22), (4, .int (a2 - 128)), (0, .ref h0), (1, .int a0), (2, .int a1), (3, .int a2)]) hx hb dX6_set_110 hl (by decide) rfl (fun ls hl => ?_)
                refine lv_aload_n hx hb dX6_set_112 rfl (lv_at hl 2 rfl) ?_
                refine lv_iload_n hx hb dX6_set_113 rfl (lv_at hl 3 rfl) ?_
                refine lv_iload_n hx hb dX6_set_114 rfl (lv_at hl 4 rfl) ?_
                refine my_if_ge (tgt := 126) hx hb dX6_set_115 (by decide) (fun c23 => ?_) (fun c23 => ?_)
                · rw [if_neg c23] at hf
                  refine lv_lload hx hb dX6_set_126 (lv_at hl 0 rfl) ?_
                  obtain ⟨z24, ez24, hf⟩ := ob_e hf
                  refine my_callMl (As := [.int a0, .long r22]) (n := 2) (rest := []) (wr := []) ⟨hx, hb, hml, hown, hts⟩ hK hP hD hS hA [0, 1, 2, 3, 4, 5] [] rfl rfl (by decide) (by decide) (by decide) (m_X6_becomes l D cC cI cJ h0 h1 h2 h3 h4 h5 (z1.2.1, (z1.2.2.1, (z1.2.2.2.1, (z1.2.2.2.2.1, (z1.2.2.2.2.2.1, (z1.2.2.2.2.2.2.1, (z1.2.2.2.2.2.2.2.1, 0))))))) H.size a0 r22 _ ez24) gX6_set_X6_becomes rfl ⟨rfl, rfl⟩ (ci := 5) rfl rfl (by decide +kernel) ⟨Nat.le_of_ble_eq_true rfl, Nat.le_of_ble_eq_true rfl⟩ ⟨Nat.le_of_ble_eq_true rfl, Nat.le_of_ble_eq_true rfl⟩ hl.1 rfl rfl (Nat.le_of_ble_eq_true rfl) dX6_set_128 (fun r9 u9 H locs hw hP hD hS => ?_)
                  obtain ⟨rfl, rfl⟩ := hw
                  have hP : va_P D vwCl [(h0, .inr (5, [.ref h1, .ref h2, .ref h3, .int z24.2.2.2.2.1, .ref h4, .ref h5, .int z24.2.2.2.2.2.2.2.1, .int z24.2.2.2.2.2.2.2.2])), (h1, .inl (cJ, 8, .inr (.inl z24.2.1))), (h2, .inl (cI, 8, .inl z24.2.2.1)), (h3, .inl (cJ, 8, .inr (.inl z24.2.2.2.1))), (h4, .inl (cC, 40, .inl z24.2.2.2.2.2.1)), (h5, .inl (cI, 40, .inl z24.2.2.2.2.2.2.1))] H := hP.sub [0, 1, 2, 3, 4, 5] rfl
                  have hD : va_D A [(h0, .inr (5, [.ref h1, .ref h2, .ref h3, .int z24.2.2.2.2.1, .ref h4, .ref h5, .int z24.2.2.2.2.2.2.2.1, .int z24.2.2.2.2.2.2.2.2])), (h1, .inl (cJ, 8, .inr (.inl z24.2.1))), (h2, .inl (cI, 8, .inl z24.2.2.1)), (h3, .inl (cJ, 8, .inr (.inl z24.2.2.2.1))), (h4, .inl (cC, 40, .inl z24.2.2.2.2.2.1)), (h5, .inl (cI, 40, .inl z24.2.2.2.2.2.2.1))] := hD.sub [0, 1, 2, 3, 4, 5] (by decide) rfl
                  have hP9 : va_P D vwCl (wM cC cI cJ h0 h1 h2 h3 h4 h5 z24.2) _ := hP
                  have hD9 : va_D A (wM cC cI cJ h0 h1 h2 h3 h4 h5 z24.2) := hD
                  have hf := Option.some.inj hf
                  have hf1 := congrArg Prod.fst hf
                  have hf2 := congrArg Prod.snd hf
                  exact W.lret (v := z24.1) hx hb hr (fun t ht hW => ⟨⟨z24.1, z24.2, rfl, ⟨hf1, hf2⟩, by rw [ht]; exact hP9, va_K.moved hW.alike hK, hD9⟩, hS.F ht⟩) hS.2.2 dX6_set_131
                · rw [if_pos c23] at hf
                  refine lv_lload hx hb dX6_set_118 (lv_at hl 0 rfl) ?_
                  refine my_callPl (As := [.long r22]) (n := 1) (rest := [.int a0, .ref h0]) ⟨hx, hb, hml, hown, hts⟩ (m_X6_opposite l r22 _ rfl) gX6_set_X6_opposite rfl ⟨rfl, rfl⟩ (by decide +kernel) ⟨Nat.le_of_ble_eq_true rfl, Nat.le_of_ble_eq_true rfl⟩ ⟨Nat.le_of_ble_eq_true rfl, Nat.le_of_ble_eq_true rfl⟩ hl.1 rfl rfl (Nat.le_of_ble_eq_true rfl) dX6_set_120 ?_
                  refine lv_goto (tgt := 128) hx hb dX6_set_123 (by decide) ?_
                  obtain ⟨z25, ez25, hf⟩ := ob_e hf
                  refine my_callMl (As := [.int a0, .long (f_X6_opposite r22)]) (n := 2) (rest := []) (wr := []) ⟨hx, hb, hml, hown, hts⟩ hK hP hD hS hA [0, 1, 2, 3, 4, 5] [] rfl rfl (by decide) (by decide) (by decide) (m_X6_becomes l D cC cI cJ h0 h1 h2 h3 h4 h5 (z1.2.1, (z1.2.2.1, (z1.2.2.2.1, (z1.2.2.2.2.1, (z1.2.2.2.2.2.1, (z1.2.2.2.2.2.2.1, (z1.2.2.2.2.2.2.2.1, 0))))))) H.size a0 (f_X6_opposite r22) _ ez25) gX6_set_X6_becomes rfl ⟨rfl, rfl⟩ (ci := 5) rfl rfl (by decide +kernel) ⟨Nat.le_of_ble_eq_true rfl, Nat.le_of_ble_eq_true rfl⟩ ⟨Nat.le_of_ble_eq_true rfl, Nat.le_of_ble_eq_true rfl⟩ hl.1 rfl rfl (Nat.le_of_ble_eq_true rfl) dX6_set_128 (fun r9 u9 H locs hw hP hD hS => ?_)
                  obtain ⟨rfl, rfl⟩ := hw
                  have hP : va_P D vwCl [(h0, .inr (5, [.ref h1, .ref h2, .ref h3, .int z25.2.2.2.2.1, .ref h4, .ref h5, .int z25.2.2.2.2.2.2.2.1, .int z25.2.2.2.2.2.2.2.2])), (h1, .inl (cJ, 8, .inr (.inl z25.2.1))), (h2, .inl (cI, 8, .inl z25.2.2.1)), (h3, .inl (cJ, 8, .inr (.inl z25.2.2.2.1))), (h4, .inl (cC, 40, .inl z25.2.2.2.2.2.1)), (h5, .inl (cI, 40, .inl z25.2.2.2.2.2.2.1))] H := hP.sub [0, 1, 2, 3, 4, 5] rfl
                  have hD : va_D A [(h0, .inr (5, [.ref h1, .ref h2, .ref h3, .int z25.2.2.2.2.1, .ref h4, .ref h5, .int z25.2.2.2.2.2.2.2.1, .int z25.2.2.2.2.2.2.2.2])), (h1, .inl (cJ, 8, .inr (.inl z25.2.1))), (h2, .inl (cI, 8, .inl z25.2.2.1)), (h3, .inl (cJ, 8, .inr (.inl z25.2.2.2.1))), (h4, .inl (cC, 40, .inl z25.2.2.2.2.2.1)), (h5, .inl (cI, 40, .inl z25.2.2.2.2.2.2.1))] := hD.sub [0, 1, 2, 3, 4, 5] (by decide) rfl
                  have hP9 : va_P D vwCl (wM cC cI cJ h0 h1 h2 h3 h4 h5 z25.2) _ := hP
                  have hD9 : va_D A (wM cC cI cJ h0 h1 h2 h3 h4 h5 z25.2) := hD
                  have hf := Option.some.inj hf
                  have hf1 := congrArg Prod.fst hf
                  have hf2 := congrArg Prod.snd hf
                  exact W.lret (v := z25.1) hx hb hr (fun t ht hW => ⟨⟨z25.1, z25.2, rfl, ⟨hf1, hf2⟩, by rw [ht]; exact hP9, va_K.moved hW.alike hK, hD9⟩, hS.F ht⟩) hS.2.2 dX6_set_131
              · rw [if_pos c21] at hf
                refine lv_iload_n hx hb dX6_set_93 rfl (lv_at hl 3 rfl) ?_
                refine lv_ineg hx hb dX6_set_94 ?_
                refine lv_i2l (v := ((-a1).toInt64)) hx hb dX6_set_95 rfl ?_
                refine lv_goto (tgt := 101) hx hb dX6_set_96 (by decide) ?_
                refine lv_iload hx hb dX6_set_101 (lv_at hl 0 rfl) ?_
                refine lv_sipush (v := 1074) hx hb dX6_set_103 (by decide) ?_
                refine lv_iadd hx hb dX6_set_106 ?_
                obtain ⟨r26, er26, hf⟩ := ob_e hf
                refine my_callPl (As := [.long ((-a1).toInt64), .int ((a2 - 128) + 1074)]) (n := 2) (rest := []) ⟨hx, hb, hml, hown, hts⟩ (m_X6_made l ((-a1).toInt64) ((a2 - 128) + 1074) _ er26) gX6_set_X6_made rfl ⟨rfl, rfl⟩ (by decide +kernel) ⟨Nat.le_of_ble_eq_true rfl, Nat.le_of_ble_eq_true rfl⟩ ⟨Nat.le_of_ble_eq_true rfl, Nat.le_of_ble_eq_true rfl⟩ hl.1 rfl rfl (Nat.le_of_ble_eq_true rfl) dX6_set_107 ?_
                refine lv_lstore (lv' := [(5, .long r26), (4, .int (a2 - 128)), (0, .ref h0), (1, .int a0), (2, .int a1), (3, .int a2)]) hx hb dX6_set_110 hl (by decide) rfl (fun ls hl => ?_)
                refine lv_aload_n hx hb dX6_set_112 rfl (lv_at hl 2 rfl) ?_
                refine lv_iload_n hx hb dX6_set_113 rfl (lv_at hl 3 rfl) ?_
                refine lv_iload_n hx hb dX6_set_114 rfl (lv_at hl 4 rfl) ?_
                refine my_if_ge (tgt := 126) hx hb dX6_set_115 (by decide) (fun c27 => ?_) (fun c27 => ?_)
                · rw [if_neg c27] at hf
                  refine lv_lload hx hb dX6_set_126 (lv_at hl 0 rfl) ?_
                  obtain ⟨z28, ez28, hf⟩ := ob_e hf
                  refine my_callMl (As := [.int a0, .long r26]) (n := 2) (rest := []) (wr := []) ⟨hx, hb, hml, hown, hts⟩ hK hP hD hS hA [0, 1, 2, 3, 4, 5] [] rfl rfl (by decide) (by decide) (by decide) (m_X6_becomes l D cC cI cJ h0 h1 h2 h3 h4 h5 (z1.2.1, (z1.2.2.1, (z1.2.2.2.1, (z1.2.2.2.2.1, (z1.2.2.2.2.2.1, (z1.2.2.2.2.2.2.1, (z1.2.2.2.2.2.2.2.1, 0))))))) H.size a0 r26 _ ez28) gX6_set_X6_becomes rfl ⟨rfl, rfl⟩ (ci := 5) rfl rfl (by decide +kernel) ⟨Nat.le_of_ble_eq_true rfl, Nat.le_of_ble_eq_true rfl⟩ ⟨Nat.le_of_ble_eq_true rfl, Nat.le_of_ble_eq_true rfl⟩ hl.1 rfl rfl (Nat.le_of_ble_eq_true rfl) dX6_set_128 (fun r9 u9 H locs hw hP hD hS => ?_)
                  obtain ⟨rfl, rfl⟩ := hw
                  have hP : va_P D vwCl [(h0, .inr (5, [.ref h1, .ref h2, .ref h3, .int z28.2.2.2.2.1, .ref h4, .ref h5, .int z28.2.2.2.2.2.2.2.1, .int z28.2.2.2.2.2.2.2.2])), (h1, .inl (cJ, 8, .inr (.inl z28.2.1))), (h2, .inl (cI, 8, .inl z28.2.2.1)), (h3, .inl (cJ, 8, .inr (.inl z28.2.2.2.1))), (h4, .inl (cC, 40, .inl z28.2.2.2.2.2.1)), (h5, .inl (cI, 40, .inl z28.2.2.2.2.2.2.1))] H := hP.sub [0, 1, 2, 3, 4, 5] rfl
                  have hD : va_D A [(h0, .inr (5, [.ref h1, .ref h2, .ref h3, .int z28.2.2.2.2.1, .ref h4, .ref h5, .int z28.2.2.2.2.2.2.2.1, .int z28.2.2.2.2.2.2.2.2])), (h1, .inl (cJ, 8, .inr (.inl z28.2.1))), (h2, .inl (cI, 8, .inl z28.2.2.1)), (h3, .inl (cJ, 8, .inr (.inl z28.2.2.2.1))), (h4, .inl (cC, 40, .inl z28.2.2.2.2.2.1)), (h5, .inl (cI, 40, .inl z28.2.2.2.2.2.2.1))] := hD.sub [0, 1, 2, 3, 4, 5] (by decide) rfl
                  have hP9 : va_P D vwCl (wM cC cI cJ h0 h1 h2 h3 h4 h5 z28.2) _ := hP
                  have hD9 : va_D A (wM cC cI cJ h0 h1 h2 h3 h4 h5 z28.2) := hD
                  have hf := Option.some.inj hf
                  have hf1 := congrArg Prod.fst hf
                  have hf2 := congrArg Prod.snd hf
                  exact W.lret (v := z28.1) hx hb hr (fun t ht hW => ⟨⟨z28.1, z28.2, rfl, ⟨hf1, hf2⟩, by rw [ht]; exact hP9, va_K.moved hW.alike hK, hD9⟩, hS.F ht⟩) hS.2.2 dX6_set_131
                · rw [if_pos c27] at hf
                  refine lv_lload hx hb dX6_set_118 (lv_at hl 0 rfl) ?_
                  refine my_callPl (As := [.long r26]) (n := 1) (rest := [.int a0, .ref h0]) ⟨hx, hb, hml, hown, hts⟩ (m_X6_opposite l r26 _ rfl) gX6_set_X6_opposite rfl ⟨rfl, rfl⟩ (by decide +kernel) ⟨Nat.le_of_ble_eq_true rfl, Nat.le_of_ble_eq_true rfl⟩ ⟨Nat.le_of_ble_eq_true rfl, Nat.le_of_ble_eq_true rfl⟩ hl.1 rfl rfl (Nat.le_of_ble_eq_true rfl) dX6_set_120 ?_
                  refine lv_goto (tgt := 128) hx hb dX6_set_123 (by decide) ?_
                  obtain ⟨z29, ez29, hf⟩ := ob_e hf
                  refine my_callMl (As := [.int a0, .long (f_X6_opposite r26)]) (n := 2) (rest := []) (wr := []) ⟨hx, hb, hml, hown, hts⟩ hK hP hD hS hA [0, 1, 2, 3, 4, 5] [] rfl rfl (by decide) (by decide) (by decide) (m_X6_becomes l D cC cI cJ h0 h1 h2 h3 h4 h5 (z1.2.1, (z1.2.2.1, (z1.2.2.2.1, (z1.2.2.2.2.1, (z1.2.2.2.2.2.1, (z1.2.2.2.2.2.2.1, (z1.2.2.2.2.2.2.2.1, 0))))))) H.size a0 (f_X6_opposite r26) _ ez29) gX6_set_X6_becomes rfl ⟨rfl, rfl⟩ (ci := 5) rfl rfl (by decide +kernel) ⟨Nat.le_of_ble_eq_true rfl, Nat.le_of_ble_eq_true rfl⟩ ⟨Nat.le_of_ble_eq_true rfl, Nat.le_of_ble_eq_true rfl⟩ hl.1 rfl rfl (Nat.le_of_ble_eq_true rfl) dX6_set_128 (fun r9 u9 H locs hw hP hD hS => ?_)
                  obtain ⟨rfl, rfl⟩ := hw
                  have hP : va_P D vwCl [(h0, .inr (5, [.ref h1, .ref h2, .ref h3, .int z29.2.2.2.2.1, .ref h4, .ref h5, .int z29.2.2.2.2.2.2.2.1, .int z29.2.2.2.2.2.2.2.2])), (h1, .inl (cJ, 8, .inr (.inl z29.2.1))), (h2, .inl (cI, 8, .inl z29.2.2.1)), (h3, .inl (cJ, 8, .inr (.inl z29.2.2.2.1))), (h4, .inl (cC, 40, .inl z29.2.2.2.2.2.1)), (h5, .inl (cI, 40, .inl z29.2.2.2.2.2.2.1))] H := hP.sub [0, 1, 2, 3, 4, 5] rfl
                  have hD : va_D A [(h0, .inr (5, [.ref h1, .ref h2, .ref h3, .int z29.2.2.2.2.1, .ref h4, .ref h5, .int z29.2.2.2.2.2.2.2.1, .int z29.2.2.2.2.2.2.2.2])), (h1, .inl (cJ, 8, .inr (.inl z29.2.1))), (h2, .inl (cI, 8, .inl z29.2.2.1)), (h3, .inl (cJ, 8, .inr (.inl z29.2.2.2.1))), (h4, .inl (cC, 40, .inl z29.2.2.2.2.2.1)), (h5, .inl (cI, 40, .inl z29.2.2.2.2.2.2.1))] := hD.sub [0, 1, 2, 3, 4, 5] (by decide) rfl
                  have hP9 : va_P D vwCl (wM cC cI cJ h0 h1 h2 h3 h4 h5 z29.2) _ := hP
                  have hD9 : va_D A (wM cC cI cJ h0 h1 h2 h3 h4 h5 z29.2) := hD
                  have hf := Option.some.inj hf
                  have hf1 := congrArg Prod.fst hf
                  have hf2 := congrArg Prod.snd hf
                  exact W.lret (v := z29.1) hx hb hr (fun t ht hW => ⟨⟨z29.1, z29.2, rfl, ⟨hf1, hf2⟩, by rw [ht]; exact hP9, va_K.moved hW.alike hK, hD9⟩, hS.F ht⟩) hS.2.2 dX6_set_131
            · rw [if_pos c20] at hf
              refine lv_lconst (v := 0) hx hb dX6_set_85 (by decide) ?_
              refine lv_goto (tgt := 110) hx hb dX6_set_86 (by decide) ?_
              refine lv_lstore (lv' := [(5, .long 0), (4, .int (a2 - 128)), (0, .ref h0), (1, .int a0), (2, .int a1), (3, .int a2)]) hx hb dX6_set_110 hl (by decide) rfl (fun ls hl => ?_)
              refine lv_aload_n hx hb dX6_set_112 rfl (lv_at hl 2 rfl) ?_
              refine lv_iload_n hx hb dX6_set_113 rfl (lv_at hl 3 rfl) ?_
              refine lv_iload_n hx hb dX6_set_114 rfl (lv_at hl 4 rfl) ?_
              refine my_if_ge (tgt := 126) hx hb dX6_set_115 (by decide) (fun c30 => ?_) (fun c30 => ?_)
              · rw [if_neg c30] at hf
                refine lv_lload hx hb dX6_set_126 (lv_at hl 0 rfl) ?_
                obtain ⟨z31, ez31, hf⟩ := ob_e hf
                refine my_callMl (As := [.int a0, .long 0]) (n := 2) (rest := []) (wr := []) ⟨hx, hb, hml, hown, hts⟩ hK hP hD hS hA [0, 1, 2, 3, 4, 5] [] rfl rfl (by decide) (by decide) (by decide) (m_X6_becomes l D cC cI cJ h0 h1 h2 h3 h4 h5 (z1.2.1, (z1.2.2.1, (z1.2.2.2.1, (z1.2.2.2.2.1, (z1.2.2.2.2.2.1, (z1.2.2.2.2.2.2.1, (z1.2.2.2.2.2.2.2.1, 0))))))) H.size a0 0 _ ez31) gX6_set_X6_becomes rfl ⟨rfl, rfl⟩ (ci := 5) rfl rfl (by decide +kernel) ⟨Nat.le_of_ble_eq_true rfl, Nat.le_of_ble_eq_true rfl⟩ ⟨Nat.le_of_ble_eq_true rfl, Nat.le_of_ble_eq_true rfl⟩ hl.1 rfl rfl (Nat.le_of_ble_eq_true rfl) dX6_set_128 (fun r9 u9 H locs hw hP hD hS => ?_)
                obtain ⟨rfl, rfl⟩ := hw
                have hP : va_P D vwCl [(h0, .inr (5, [.ref h1, .ref h2, .ref h3, .int z31.2.2.2.2.1, .ref h4, .ref h5, .int z31.2.2.2.2.2.2.2.1, .int z31.2.2.2.2.2.2.2.2])), (h1, .inl (cJ, 8, .inr (.inl z31.2.1))), (h2, .inl (cI, 8, .inl z31.2.2.1)), (h3, .inl (cJ, 8, .inr (.inl z31.2.2.2.1))), (h4, .inl (cC, 40, .inl z31.2.2.2.2.2.1)), (h5, .inl (cI, 40, .inl z31.2.2.2.2.2.2.1))] H := hP.sub [0, 1, 2, 3, 4, 5] rfl
                have hD : va_D A [(h0, .inr (5, [.ref h1, .ref h2, .ref h3, .int z31.2.2.2.2.1, .ref h4, .ref h5, .int z31.2.2.2.2.2.2.2.1, .int z31.2.2.2.2.2.2.2.2])), (h1, .inl (cJ, 8, .inr (.inl z31.2.1))), (h2, .inl (cI, 8, .inl z31.2.2.1)), (h3, .inl (cJ, 8, .inr (.inl z31.2.2.2.1))), (h4, .inl (cC, 40, .inl z31.2.2.2.2.2.1)), (h5, .inl (cI, 40, .inl z31.2.2.2.2.2.2.1))] := hD.sub [0, 1, 2, 3, 4, 5] (by decide) rfl
                have hP9 : va_P D vwCl (wM cC cI cJ h0 h1 h2 h3 h4 h5 z31.2) _ := hP
                have hD9 : va_D A (wM cC cI cJ h0 h1 h2 h3 h4 h5 z31.2) := hD
                have hf := Option.some.inj hf
                have hf1 := congrArg Prod.fst hf
                have hf2 := congrArg Prod.snd hf
                exact W.lret (v := z31.1) hx hb hr (fun t ht hW => ⟨⟨z31.1, z31.2, rfl, ⟨hf1, hf2⟩, by rw [ht]; exact hP9, va_K.moved hW.alike hK, hD9⟩, hS.F ht⟩) hS.2.2 dX6_set_131
              · rw [if_pos c30] at hf
                refine lv_lload hx hb dX6_set_118 (lv_at hl 0 rfl) ?_
                refine my_callPl (As := [.long 0]) (n := 1) (rest := [.int a0, .ref h0]) ⟨hx, hb, hml, hown, hts⟩ (m_X6_opposite l 0 _ rfl) gX6_set_X6_opposite rfl ⟨rfl, rfl⟩ (by decide +kernel) ⟨Nat.le_of_ble_eq_true rfl, Nat.le_of_ble_eq_true rfl⟩ ⟨Nat.le_of_ble_eq_true rfl, Nat.le_of_ble_eq_true rfl⟩ hl.1 rfl rfl (Nat.le_of_ble_eq_true rfl) dX6_set_120 ?_
                refine lv_goto (tgt := 128) hx hb dX6_set_123 (by decide) ?_
                obtain ⟨z32, ez32, hf⟩ := ob_e hf
                refine my_callMl (As := [.int a0, .long (f_X6_opposite 0)]) (n := 2) (rest := []) (wr := []) ⟨hx, hb, hml, hown, hts⟩ hK hP hD hS hA [0, 1, 2, 3, 4, 5] [] rfl rfl (by decide) (by decide) (by decide) (m_X6_becomes l D cC cI cJ h0 h1 h2 h3 h4 h5 (z1.2.1, (z1.2.2.1, (z1.2.2.2.1, (z1.2.2.2.2.1, (z1.2.2.2.2.2.1, (z1.2.2.2.2.2.2.1, (z1.2.2.2.2.2.2.2.1, 0))))))) H.size a0 (f_X6_opposite 0) _ ez32) gX6_set_X6_becomes rfl ⟨rfl, rfl⟩ (ci := 5) rfl rfl (by decide +kernel) ⟨Nat.le_of_ble_eq_true rfl, Nat.le_of_ble_eq_true rfl⟩ ⟨Nat.le_of_ble_eq_true rfl, Nat.le_of_ble_eq_true rfl⟩ hl.1 rfl rfl (Nat.le_of_ble_eq_true rfl) dX6_set_128 (fun r9 u9 H locs hw hP hD hS => ?_)
                obtain ⟨rfl, rfl⟩ := hw
                have hP : va_P D vwCl [(h0, .inr (5, [.ref h1, .ref h2, .ref h3, .int z32.2.2.2.2.1, .ref h4, .ref h5, .int z32.2.2.2.2.2.2.2.1, .int z32.2.2.2.2.2.2.2.2])), (h1, .inl (cJ, 8, .inr (.inl z32.2.1))), (h2, .inl (cI, 8, .inl z32.2.2.1)), (h3, .inl (cJ, 8, .inr (.inl z32.2.2.2.1))), (h4, .inl (cC, 40, .inl z32.2.2.2.2.2.1)), (h5, .inl (cI, 40, .inl z32.2.2.2.2.2.2.1))] H := hP.sub [0, 1, 2, 3, 4, 5] rfl
                have hD : va_D A [(h0, .inr (5, [.ref h1, .ref h2, .ref h3, .int z32.2.2.2.2.1, .ref h4, .ref h5, .int z32.2.2.2.2.2.2.2.1, .int z32.2.2.2.2.2.2.2.2])), (h1, .inl (cJ, 8, .inr (.inl z32.2.1))), (h2, .inl (cI, 8, .inl z32.2.2.1)), (h3, .inl (cJ, 8, .inr (.inl z32.2.2.2.1))), (h4, .inl (cC, 40, .inl z32.2.2.2.2.2.1)), (h5, .inl (cI, 40, .inl z32.2.2.2.2.2.2.1))] := hD.sub [0, 1, 2, 3, 4, 5] (by decide) rfl
                have hP9 : va_P D vwCl (wM cC cI cJ h0 h1 h2 h3 h4 h5 z32.2) _ := hP
                have hD9 : va_D A (wM cC cI cJ h0 h1 h2 h3 h4 h5 z32.2) := hD
                have hf := Option.some.inj hf
                have hf1 := congrArg Prod.fst hf
                have hf2 := congrArg Prod.snd hf
                exact W.lret (v := z32.1) hx hb hr (fun t ht hW => ⟨⟨z32.1, z32.2, rfl, ⟨hf1, hf2⟩, by rw [ht]; exact hP9, va_K.moved hW.alike hK, hD9⟩, hS.F ht⟩) hS.2.2 dX6_set_131
        · rw [if_pos c5] at hf
          refine lv_iload_n hx hb dX6_set_51 rfl (lv_at hl 3 rfl) ?_
          refine lv_sipush (v := 1074) hx hb dX6_set_52 (by decide) ?_
          refine lv_isub hx hb dX6_set_55 ?_
          refine lv_goto (tgt := 79) hx hb dX6_set_56 (by decide) ?_
          refine lv_istore (lv' := [(4, .int (a2 - 1074)), (0, .ref h0), (1, .int a0), (2, .int a1), (3, .int a2)]) hx hb dX6_set_79 hl (by decide) rfl (fun ls hl => ?_)
          refine lv_iload_n hx hb dX6_set_81 rfl (lv_at hl 3 rfl) ?_
          refine my_if_ne (tgt := 89) hx hb dX6_set_82 (by decide) (fun c33 => ?_) (fun c33 => ?_)
          · rw [if_neg c33] at hf
            refine lv_iload_n hx hb dX6_set_89 rfl (lv_at hl 3 rfl) ?_
            refine my_if_ge (tgt := 99) hx hb dX6_set_90 (by decide) (fun c34 => ?_) (fun c34 => ?_)
            · rw [if_neg c34] at hf
              refine lv_iload_n hx hb dX6_set_99 rfl (lv_at hl 3 rfl) ?_
              refine lv_i2l (v := (a1.toInt64)) hx hb dX6_set_100 rfl ?_
              refine lv_iload hx hb dX6_set_101 (lv_at hl 0 rfl) ?_
              refine lv_sipush (v := 1074) hx hb dX6_set_103 (by decide) ?_
              refine lv_iadd hx hb dX6_set_106 ?_
              obtain ⟨r35, er35, hf⟩ := ob_e hf
              refine my_callPl (As := [.long (a1.toInt64), .int ((a2 - 1074) + 1074)]) (n := 2) (rest := []) ⟨hx, hb, hml, hown, hts⟩ (m_X6_made l (a1.toInt64) ((a2 - 1074) + 1074) _ er35) gX6_set_X6_made rfl ⟨rfl, rfl⟩ (by decide +kernel) ⟨Nat.le_of_ble_eq_true rfl, Nat.le_of_ble_eq_true rfl⟩ ⟨Nat.le_of_ble_eq_true rfl, Nat.le_of_ble_eq_true rfl⟩ hl.1 rfl rfl (Nat.le_of_ble_eq_true rfl) dX6_set_107 ?_
              refine lv_lstore (lv' := [(5, .long r35), (4, .int (a2 - 1074)), (0, .ref h0), (1, .int a0), (2, .int a1), (3, .int a2)]) hx hb dX6_set_110 hl (by decide) rfl (fun ls hl => ?_)
              refine lv_aload_n hx hb dX6_set_112 rfl (lv_at hl 2 rfl) ?_
              refine lv_iload_n hx hb dX6_set_113 rfl (lv_at hl 3 rfl) ?_
              refine lv_iload_n hx hb dX6_set_114 rfl (lv_at hl 4 rfl) ?_
              refine my_if_ge (tgt := 126) hx hb dX6_set_115 (by decide) (fun c36 => ?_) (fun c36 => ?_)
              · rw [if_neg c36] at hf
                refine lv_lload hx hb dX6_set_126 (lv_at hl 0 rfl) ?_
                obtain ⟨z37, ez37, hf⟩ := ob_e hf
                refine my_callMl (As := [.int a0, .long r35]) (n := 2) (rest := []) (wr := []) ⟨hx, hb, hml, hown, hts⟩ hK hP hD hS hA [0, 1, 2, 3, 4, 5] [] rfl rfl (by decide) (by decide) (by decide) (m_X6_becomes l D cC cI cJ h0 h1 h2 h3 h4 h5 (z1.2.1, (z1.2.2.1, (z1.2.2.2.1, (z1.2.2.2.2.1, (z1.2.2.2.2.2.1, (z1.2.2.2.2.2.2.1, (z1.2.2.2.2.2.2.2.1, 0))))))) H.size a0 r35 _ ez37) gX6_set_X6_becomes rfl ⟨rfl, rfl⟩ (ci := 5) rfl rfl (by decide +kernel) ⟨Nat.le_of_ble_eq_true rfl, Nat.le_of_ble_eq_true rfl⟩ ⟨Nat.le_of_ble_eq_true rfl, Nat.le_of_ble_eq_true rfl⟩ hl.1 rfl rfl (Nat.le_of_ble_eq_true rfl) dX6_set_128 (fun r9 u9 H locs hw hP hD hS => ?_)
                obtain ⟨rfl, rfl⟩ := hw
                have hP : va_P D vwCl [(h0, .inr (5, [.ref h1, .ref h2, .ref h3, .int z37.2.2.2.2.1, .ref h4, .ref h5, .int z37.2.2.2.2.2.2.2.1, .int z37.2.2.2.2.2.2.2.2])), (h1, .inl (cJ, 8, .inr (.inl z37.2.1))), (h2, .inl (cI, 8, .inl z37.2.2.1)), (h3, .inl (cJ, 8, .inr (.inl z37.2.2.2.1))), (h4, .inl (cC, 40, .inl z37.2.2.2.2.2.1)), (h5, .inl (cI, 40, .inl z37.2.2.2.2.2.2.1))] H := hP.sub [0, 1, 2, 3, 4, 5] rfl
                have hD : va_D A [(h0, .inr (5, [.ref h1, .ref h2, .ref h3, .int z37.2.2.2.2.1, .ref h4, .ref h5, .int z37.2.2.2.2.2.2.2.1, .int z37.2.2.2.2.2.2.2.2])), (h1, .inl (cJ, 8, .inr (.inl z37.2.1))), (h2, .inl (cI, 8, .inl z37.2.2.1)), (h3, .inl (cJ, 8, .inr (.inl z37.2.2.2.1))), (h4, .inl (cC, 40, .inl z37.2.2.2.2.2.1)), (h5, .inl (cI, 40, .inl z37.2.2.2.2.2.2.1))] := hD.sub [0, 1, 2, 3, 4, 5] (by decide) rfl
                have hP9 : va_P D vwCl (wM cC cI cJ h0 h1 h2 h3 h4 h5 z37.2) _ := hP
                have hD9 : va_D A (wM cC cI cJ h0 h1 h2 h3 h4 h5 z37.2) := hD
                have hf := Option.some.inj hf
                have hf1 := congrArg Prod.fst hf
                have hf2 := congrArg Prod.snd hf
                exact W.lret (v := z37.1) hx hb hr (fun t ht hW => ⟨⟨z37.1, z37.2, rfl, ⟨hf1, hf2⟩, by rw [ht]; exact hP9, va_K.moved hW.alike hK, hD9⟩, hS.F ht⟩) hS.2.2 dX6_set_131
              · rw [if_pos c36] at hf
                refine lv_lload hx hb dX6_set_118 (lv_at hl 0 rfl) ?_
                refine my_callPl (As := [.long r35]) (n := 1) (rest := [.int a0, .ref h0]) ⟨hx, hb, hml, hown, hts⟩ (m_X6_opposite l r35 _ rfl) gX6_set_X6_opposite rfl ⟨rfl, rfl⟩ (by decide +kernel) ⟨Nat.le_of_ble_eq_true rfl, Nat.le_of_ble_eq_true rfl⟩ ⟨Nat.le_of_ble_eq_true rfl, Nat.le_of_ble_eq_true rfl⟩ hl.1 rfl rfl (Nat.le_of_ble_eq_true rfl) dX6_set_120 ?_
                refine lv_goto (tgt := 128) hx hb dX6_set_123 (by decide) ?_
                obtain ⟨z38, ez38, hf⟩ := ob_e hf
                refine my_callMl (As := [.int a0, .long (f_X6_opposite r35)]) (n := 2) (rest := []) (wr := []) ⟨hx, hb, hml, hown, hts⟩ hK hP hD hS hA [0, 1, 2, 3, 4, 5] [] rfl rfl (by decide) (by decide) (by decide) (m_X6_becomes l D cC cI cJ h0 h1 h2 h3 h4 h5 (z1.2.1, (z1.2.2.1, (z1.2.2.2.1, (z1.2.2.2.2.1, (z1.2.2.2.2.2.1, (z1.2.2.2.2.2.2.1, (z1.2.2.2.2.2.2.2.1, 0))))))) H.size a0 (f_X6_opposite r35) _ ez38) gX6_set_X6_becomes rfl ⟨rfl, rfl⟩ (ci := 5) rfl rfl (by decide +kernel) ⟨Nat.le_of_ble_eq_true rfl, Nat.le_of_ble_eq_true rfl⟩ ⟨Nat.le_of_ble_eq_true rfl, Nat.le_of_ble_eq_true rfl⟩ hl.1 rfl rfl (Nat.le_of_ble_eq_true rfl) dX6_set_128 (fun r9 u9 H locs hw hP hD hS => ?_)
                obtain ⟨rfl, rfl⟩ := hw
                have hP : va_P D vwCl [(h0, .inr (5, [.ref h1, .ref h2, .ref h3, .int z38.2.2.2.2.1, .ref h4, .ref h5, .int z38.2.2.2.2.2.2.2.1, .int z38.2.2.2.2.2.2.2.2])), (h1, .inl (cJ, 8, .inr (.inl z38.2.1))), (h2, .inl (cI, 8, .inl z38.2.2.1)), (h3, .inl (cJ, 8, .inr (.inl z38.2.2.2.1))), (h4, .inl (cC, 40, .inl z38.2.2.2.2.2.1)), (h5, .inl (cI, 40, .inl z38.2.2.2.2.2.2.1))] H := hP.sub [0, 1, 2, 3, 4, 5] rfl
                have hD : va_D A [(h0, .inr (5, [.ref h1, .ref h2, .ref h3, .int z38.2.2.2.2.1, .ref h4, .ref h5, .int z38.2.2.2.2.2.2.2.1, .int z38.2.2.2.2.2.2.2.2])), (h1, .inl (cJ, 8, .inr (.inl z38.2.1))), (h2, .inl (cI, 8, .inl z38.2.2.1)), (h3, .inl (cJ, 8, .inr (.inl z38.2.2.2.1))), (h4, .inl (cC, 40, .inl z38.2.2.2.2.2.1)), (h5, .inl (cI, 40, .inl z38.2.2.2.2.2.2.1))] := hD.sub [0, 1, 2, 3, 4, 5] (by decide) rfl
                have hP9 : va_P D vwCl (wM cC cI cJ h0 h1 h2 h3 h4 h5 z38.2) _ := hP
                have hD9 : va_D A (wM cC cI cJ h0 h1 h2 h3 h4 h5 z38.2) := hD
                have hf := Option.some.inj hf
                have hf1 := congrArg Prod.fst hf
                have hf2 := congrArg Prod.snd hf
                exact W.lret (v := z38.1) hx hb hr (fun t ht hW => ⟨⟨z38.1, z38.2, rfl, ⟨hf1, hf2⟩, by rw [ht]; exact hP9, va_K.moved hW.alike hK, hD9⟩, hS.F ht⟩) hS.2.2 dX6_set_131
            · rw [if_pos c34] at hf
              refine lv_iload_n hx hb dX6_set_93 rfl (lv_at hl 3 rfl) ?_
              refine lv_ineg hx hb dX6_set_94 ?_
              refine lv_i2l (v := ((-a1).toInt64)) hx hb dX6_set_95 rfl ?_
              refine lv_goto (tgt := 101) hx hb dX6_set_96 (by decide) ?_
              refine lv_iload hx hb dX6_set_101 (lv_at hl 0 rfl) ?_
              refine lv_sipush (v := 1074) hx hb dX6_set_103 (by decide) ?_
              refine lv_iadd hx hb dX6_set_106 ?_
              obtain ⟨r39, er39, hf⟩ := ob_e hf
              refine my_callPl (As := [.long ((-a1).toInt64), .int ((a2 - 1074) + 1074)]) (n := 2) (rest := []) ⟨hx, hb, hml, hown, hts⟩ (m_X6_made l ((-a1).toInt64) ((a2 - 1074) + 1074) _ er39) gX6_set_X6_made rfl ⟨rfl, rfl⟩ (by decide +kernel) ⟨Nat.le_of_ble_eq_true rfl, Nat.le_of_ble_eq_true rfl⟩ ⟨Nat.le_of_ble_eq_true rfl, Nat.le_of_ble_eq_true rfl⟩ hl.1 rfl rfl (Nat.le_of_ble_eq_true rfl) dX6_set_107 ?_
              refine lv_lstore (lv' := [(5, .long r39), (4, .int (a2 - 1074)), (0, .ref h0), (1, .int a0), (2, .int a1), (3, .int a2)]) hx hb dX6_set_110 hl (by decide) rfl (fun ls hl => ?_)
              refine lv_aload_n hx hb dX6_set_112 rfl (lv_at hl 2 rfl) ?_
              refine lv_iload_n hx hb dX6_set_113 rfl (lv_at hl 3 rfl) ?_
              refine lv_iload_n hx hb dX6_set_114 rfl (lv_at hl 4 rfl) ?_
              refine my_if_ge (tgt := 126) hx hb dX6_set_115 (by decide) (fun c40 => ?_) (fun c40 => ?_)
              · rw [if_neg c40] at hf
                refine lv_lload hx hb dX6_set_126 (lv_at hl 0 rfl) ?_
                obtain ⟨z41, ez41, hf⟩ := ob_e hf
                refine my_callMl (As := [.int a0, .long r39]) (n := 2) (rest := []) (wr := []) ⟨hx, hb, hml, hown, hts⟩ hK hP hD hS hA [0, 1, 2, 3, 4, 5] [] rfl rfl (by decide) (by decide) (by decide) (m_X6_becomes l D cC cI cJ h0 h1 h2 h3 h4 h5 (z1.2.1, (z1.2.2.1, (z1.2.2.2.1, (z1.2.2.2.2.1, (z1.2.2.2.2.2.1, (z1.2.2.2.2.2.2.1, (z1.2.2.2.2.2.2.2.1, 0))))))) H.size a0 r39 _ ez41) gX6_set_X6_becomes rfl ⟨rfl, rfl⟩ (ci := 5) rfl rfl (by decide +kernel) ⟨Nat.le_of_ble_eq_true rfl, Nat.le_of_ble_eq_true rfl⟩ ⟨Nat.le_of_ble_eq_true rfl, Nat.le_of_ble_eq_true rfl⟩ hl.1 rfl rfl (Nat.le_of_ble_eq_true rfl) dX6_set_128 (fun r9 u9 H locs hw hP hD hS => ?_)
                obtain ⟨rfl, rfl⟩ := hw
                have hP : va_P D vwCl [(h0, .inr (5, [.ref h1, .ref h2, .ref h3, .int z41.2.2.2.2.1, .ref h4, .ref h5, .int z41.2.2.2.2.2.2.2.1, .int z41.2.2.2.2.2.2.2.2])), (h1, .inl (cJ, 8, .inr (.inl z41.2.1))), (h2, .inl (cI, 8, .inl z41.2.2.1)), (h3, .inl (cJ, 8, .inr (.inl z41.2.2.2.1))), (h4, .inl (cC, 40, .inl z41.2.2.2.2.2.1)), (h5, .inl (cI, 40, .inl z41.2.2.2.2.2.2.1))] H := hP.sub [0, 1, 2, 3, 4, 5] rfl
                have hD : va_D A [(h0, .inr (5, [.ref h1, .ref h2, .ref h3, .int z41.2.2.2.2.1, .ref h4, .ref h5, .int z41.2.2.2.2.2.2.2.1, .int z41.2.2.2.2.2.2.2.2])), (h1, .inl (cJ, 8, .inr (.inl z41.2.1))), (h2, .inl (cI, 8, .inl z41.2.2.1)), (h3, .inl (cJ, 8, .inr (.inl z41.2.2.2.1))), (h4, .inl (cC, 40, .inl z41.2.2.2.2.2.1)), (h5, .inl (cI, 40, .inl z41.2.2.2.2.2.2.1))] := hD.sub [0, 1, 2, 3, 4, 5] (by decide) rfl
                have hP9 : va_P D vwCl (wM cC cI cJ h0 h1 h2 h3 h4 h5 z41.2) _ := hP
                have hD9 : va_D A (wM cC cI cJ h0 h1 h2 h3 h4 h5 z41.2) := hD
                have hf := Option.some.inj hf
                have hf1 := congrArg Prod.fst hf
                have hf2 := congrArg Prod.snd hf
                exact W.lret (v := z41.1) hx hb hr (fun t ht hW => ⟨⟨z41.1, z41.2, rfl, ⟨hf1, hf2⟩, by rw [ht]; exact hP9, va_K.moved hW.alike hK, hD9⟩, hS.F ht⟩) hS.2.2 dX6_set_131
              · rw [if_pos c40] at hf
                refine lv_lload hx hb dX6_set_118 (lv_at hl 0 rfl) ?_
                refine my_callPl (As := [.long r39]) (n := 1) (rest := [.int a0, .ref h0]) ⟨hx, hb, hml, hown, hts⟩ (m_X6_opposite l r39 _ rfl) gX6_set_X6_opposite rfl ⟨rfl, rfl⟩ (by decide +kernel) ⟨Nat.le_of_ble_eq_true rfl, Nat.le_of_ble_eq_true rfl⟩ ⟨Nat.le_of_ble_eq_true rfl, Nat.le_of_ble_eq_true rfl⟩ hl.1 rfl rfl (Nat.le_of_ble_eq_true rfl) dX6_set_120 ?_
                refine lv_goto (tgt := 128) hx hb dX6_set_123 (by decide) ?_
                obtain ⟨z42, ez42, hf⟩ := ob_e hf
                refine my_callMl (As := [.int a0, .long (f_X6_opposite r39)]) (n := 2) (rest := []) (wr := []) ⟨hx, hb, hml, hown, hts⟩ hK hP hD hS hA [0, 1, 2, 3, 4, 5] [] rfl rfl (by decide) (by decide) (by decide) (m_X6_becomes l D cC cI cJ h0 h1 h2 h3 h4 h5 (z1.2.1, (z1.2.2.1, (z1.2.2.2.1, (z1.2.2.2.2.1, (z1.2.2.2.2.2.1, (z1.2.2.2.2.2.2.1, (z1.2.2.2.2.2.2.2.1, 0))))))) H.size a0 (f_X6_opposite r39) _ ez42) gX6_set_X6_becomes rfl ⟨rfl, rfl⟩ (ci := 5) rfl rfl (by decide +kernel) ⟨Nat.le_of_ble_eq_true rfl, Nat.le_of_ble_eq_true rfl⟩ ⟨Nat.le_of_ble_eq_true rfl, Nat.le_of_ble_eq_true rfl⟩ hl.1 rfl rfl (Nat.le_of_ble_eq_true rfl) dX6_set_128 (fun r9 u9 H locs hw hP hD hS => ?_)
                obtain ⟨rfl, rfl⟩ := hw
                have hP : va_P D vwCl [(h0, .inr (5, [.ref h1, .ref h2, .ref h3, .int z42.2.2.2.2.1, .ref h4, .ref h5, .int z42.2.2.2.2.2.2.2.1, .int z42.2.2.2.2.2.2.2.2])), (h1, .inl (cJ, 8, .inr (.inl z42.2.1))), (h2, .inl (cI, 8, .inl z42.2.2.1)), (h3, .inl (cJ, 8, .inr (.inl z42.2.2.2.1))), (h4, .inl (cC, 40, .inl z42.2.2.2.2.2.1)), (h5, .inl (cI, 40, .inl z42.2.2.2.2.2.2.1))] H := hP.sub [0, 1, 2, 3, 4, 5] rfl
                have hD : va_D A [(h0, .inr (5, [.ref h1, .ref h2, .ref h3, .int z42.2.2.2.2.1, .ref h4, .ref h5, .int z42.2.2.2.2.2.2.2.1, .int z42.2.2.2.2.2.2.2.2])), (h1, .inl (cJ, 8, .inr (.inl z42.2.1))), (h2, .inl (cI, 8, .inl z42.2.2.1)), (h3, .inl (cJ, 8, .inr (.inl z42.2.2.2.1))), (h4, .inl (cC, 40, .inl z42.2.2.2.2.2.1)), (h5, .inl (cI, 40, .inl z42.2.2.2.2.2.2.1))] := hD.sub [0, 1, 2, 3, 4, 5] (by decide) rfl
                have hP9 : va_P D vwCl (wM cC cI cJ h0 h1 h2 h3 h4 h5 z42.2) _ := hP
                have hD9 : va_D A (wM cC cI cJ h0 h1 h2 h3 h4 h5 z42.2) := hD
                have hf := Option.some.inj hf
                have hf1 := congrArg Prod.fst hf
                have hf2 := congrArg Prod.snd hf
                exact W.lret (v := z42.1) hx hb hr (fun t ht hW => ⟨⟨z42.1, z42.2, rfl, ⟨hf1, hf2⟩, by rw [ht]; exact hP9, va_K.moved hW.alike hK, hD9⟩, hS.F ht⟩) hS.2.2 dX6_set_131
          · rw [if_pos c33] at hf
            refine lv_lconst (v := 0) hx hb dX6_set_85 (by decide) ?_
            refine lv_goto (tgt := 110) hx hb dX6_set_86 (by decide) ?_
            refine lv_lstore (lv' := [(5, .long 0), (4, .int (a2 - 1074)), (0, .ref h0), (1, .int a0), (2, .int a1), (3, .int a2)]) hx hb dX6_set_110 hl (by decide) rfl (fun ls hl => ?_)
            refine lv_aload_n hx hb dX6_set_112 rfl (lv_at hl 2 rfl) ?_
            refine lv_iload_n hx hb dX6_set_113 rfl (lv_at hl 3 rfl) ?_
            refine lv_iload_n hx hb dX6_set_114 rfl (lv_at hl 4 rfl) ?_
            refine my_if_ge (tgt := 126) hx hb dX6_set_115 (by decide) (fun c43 => ?_) (fun c43 => ?_)
            · rw [if_neg c43] at hf
              refine lv_lload hx hb dX6_set_126 (lv_at hl 0 rfl) ?_
              obtain ⟨z44, ez44, hf⟩ := ob_e hf
              refine my_callMl (As := [.int a0, .long 0]) (n := 2) (rest := []) (wr := []) ⟨hx, hb, hml, hown, hts⟩ hK hP hD hS hA [0, 1, 2, 3, 4, 5] [] rfl rfl (by decide) (by decide) (by decide) (m_X6_becomes l D cC cI cJ h0 h1 h2 h3 h4 h5 (z1.2.1, (z1.2.2.1, (z1.2.2.2.1, (z1.2.2.2.2.1, (z1.2.2.2.2.2.1, (z1.2.2.2.2.2.2.1, (z1.2.2.2.2.2.2.2.1, 0))))))) H.size a0 0 _ ez44) gX6_set_X6_becomes rfl ⟨rfl, rfl⟩ (ci := 5) rfl rfl (by decide +kernel) ⟨Nat.le_of_ble_eq_true rfl, Nat.le_of_ble_eq_true rfl⟩ ⟨Nat.le_of_ble_eq_true rfl, Nat.le_of_ble_eq_true rfl⟩ hl.1 rfl rfl (Nat.le_of_ble_eq_true rfl) dX6_set_128 (fun r9 u9 H locs hw hP hD hS => ?_)
              obtain ⟨rfl, rfl⟩ := hw
              have hP : va_P D vwCl [(h0, .inr (5, [.ref h1, .ref h2, .ref h3, .int z44.2.2.2.2.1, .ref h4, .ref h5, .int z44.2.2.2.2.2.2.2.1, .int z44.2.2.2.2.2.2.2.2])), (h1, .inl (cJ, 8, .inr (.inl z44.2.1))), (h2, .inl (cI, 8, .inl z44.2.2.1)), (h3, .inl (cJ, 8, .inr (.inl z44.2.2.2.1))), (h4, .inl (cC, 40, .inl z44.2.2.2.2.2.1)), (h5, .inl (cI, 40, .inl z44.2.2.2.2.2.2.1))] H := hP.sub [0, 1, 2, 3, 4, 5] rfl
              have hD : va_D A [(h0, .inr (5, [.ref h1, .ref h2, .ref h3, .int z44.2.2.2.2.1, .ref h4, .ref h5, .int z44.2.2.2.2.2.2.2.1, .int z44.2.2.2.2.2.2.2.2])), (h1, .inl (cJ, 8, .inr (.inl z44.2.1))), (h2, .inl (cI, 8, .inl z44.2.2.1)), (h3, .inl (cJ, 8, .inr (.inl z44.2.2.2.1))), (h4, .inl (cC, 40, .inl z44.2.2.2.2.2.1)), (h5, .inl (cI, 40, .inl z44.2.2.2.2.2.2.1))] := hD.sub [0, 1, 2, 3, 4, 5] (by decide) rfl
              have hP9 : va_P D vwCl (wM cC cI cJ h0 h1 h2 h3 h4 h5 z44.2) _ := hP
              have hD9 : va_D A (wM cC cI cJ h0 h1 h2 h3 h4 h5 z44.2) := hD
              have hf := Option.some.inj hf
              have hf1 := congrArg Prod.fst hf
              have hf2 := congrArg Prod.snd hf
              exact W.lret (v := z44.1) hx hb hr (fun t ht hW => ⟨⟨z44.1, z44.2, rfl, ⟨hf1, hf2⟩, by rw [ht]; exact hP9, va_K.moved hW.alike hK, hD9⟩, hS.F ht⟩) hS.2.2 dX6_set_131
            · rw [if_pos c43] at hf
              refine lv_lload hx hb dX6_set_118 (lv_at hl 0 rfl) ?_
              refine my_callPl (As := [.long 0]) (n := 1) (rest := [.int a0, .ref h0]) ⟨hx, hb, hml, hown, hts⟩ (m_X6_opposite l 0 _ rfl) gX6_set_X6_opposite rfl ⟨rfl, rfl⟩ (by decide +kernel) ⟨Nat.le_of_ble_eq_true rfl, Nat.le_of_ble_eq_true rfl⟩ ⟨Nat.le_of_ble_eq_true rfl, Nat.le_of_ble_eq_true rfl⟩ hl.1 rfl rfl (Nat.le_of_ble_eq_true rfl) dX6_set_120 ?_
              refine lv_goto (tgt := 128) hx hb dX6_set_123 (by decide) ?_
              obtain ⟨z45, ez45, hf⟩ := ob_e hf
              refine my_callMl (As := [.int a0, .long (f_X6_opposite 0)]) (n := 2) (rest := []) (wr := []) ⟨hx, hb, hml, hown, hts⟩ hK hP hD hS hA [0, 1, 2, 3, 4, 5] [] rfl rfl (by decide) (by decide) (by decide) (m_X6_becomes l D cC cI cJ h0 h1 h2 h3 h4 h5 (z1.2.1, (z1.2.2.1, (z1.2.2.2.1, (z1.2.2.2.2.1, (z1.2.2.2.2.2.1, (z1.2.2.2.2.2.2.1, (z1.2.2.2.2.2.2.2.1, 0))))))) H.size a0 (f_X6_opposite 0) _ ez45) gX6_set_X6_becomes rfl ⟨rfl, rfl⟩ (ci := 5) rfl rfl (by decide +kernel) ⟨Nat.le_of_ble_eq_true rfl, Nat.le_of_ble_eq_true rfl⟩ ⟨Nat.le_of_ble_eq_true rfl, Nat.le_of_ble_eq_true rfl⟩ hl.1 rfl rfl (Nat.le_of_ble_eq_true rfl) dX6_set_128 (fun r9 u9 H locs hw hP hD hS => ?_)
              obtain ⟨rfl, rfl⟩ := hw
              have hP : va_P D vwCl [(h0, .inr (5, [.ref h1, .ref h2, .ref h3, .int z45.2.2.2.2.1, .ref h4, .ref h5, .int z45.2.2.2.2.2.2.2.1, .int z45.2.2.2.2.2.2.2.2])), (h1, .inl (cJ, 8, .inr (.inl z45.2.1))), (h2, .inl (cI, 8, .inl z45.2.2.1)), (h3, .inl (cJ, 8, .inr (.inl z45.2.2.2.1))), (h4, .inl (cC, 40, .inl z45.2.2.2.2.2.1)), (h5, .inl (cI, 40, .inl z45.2.2.2.2.2.2.1))] H := hP.sub [0, 1, 2, 3, 4, 5] rfl
              have hD : va_D A [(h0, .inr (5, [.ref h1, .ref h2, .ref h3, .int z45.2.2.2.2.1, .ref h4, .ref h5, .int z45.2.2.2.2.2.2.2.1, .int z45.2.2.2.2.2.2.2.2])), (h1, .inl (cJ, 8, .inr (.inl z45.2.1))), (h2, .inl (cI, 8, .inl z45.2.2.1)), (h3, .inl (cJ, 8, .inr (.inl z45.2.2.2.1))), (h4, .inl (cC, 40, .inl z45.2.2.2.2.2.1)), (h5, .inl (cI, 40, .inl z45.2.2.2.2.2.2.1))] := hD.sub [0, 1, 2, 3, 4, 5] (by decide) rfl
              have hP9 : va_P D vwCl (wM cC cI cJ h0 h1 h2 h3 h4 h5 z45.2) _ := hP
              have hD9 : va_D A (wM cC cI cJ h0 h1 h2 h3 h4 h5 z45.2) := hD
              have hf := Option.some.inj hf
              have hf1 := congrArg Prod.fst hf
              have hf2 := congrArg Prod.snd hf
              exact W.lret (v := z45.1) hx hb hr (fun t ht hW => ⟨⟨z45.1, z45.2, rfl, ⟨hf1, hf2⟩, by rw [ht]; exact hP9, va_K.moved hW.alike hK, hD9⟩, hS.F ht⟩) hS.2.2 dX6_set_131

set_option maxHeartbeats 4000000 in
set_option maxRecDepth 100000 in
theorem m_X6_end (l : Launch) (D : va_G) (cC cI cJ : ClassId) (h0 h1 h2 h3 h4 h5 : Nat) (u : StM) (sz : Nat) (a0 : Int32) (a1 : Bool) (res : Int64 × StM) (hf : f_X6_end u a0 a1 = some res) : Met l yX6_end wsX6_end rmX6_end (my_PcM D vwCl (KT cC cI cJ) sz (wM cC cI cJ h0 h1 h2 h3 h4 h5 u) [.ref h0, .int a0, .int (b2i a1)]) (va_Ql (fun r v => r = res.1 ∧ v = res.2) (my_B D vwCl (KT cC cI cJ) (va_A (wM cC cI cJ h0 h1 h2 h3 h4 h5 u) sz) (fun v : StM => (wM cC cI cJ h0 h1 h2 h3 h4 h5 v))) (va_A (wM cC cI cJ h0 h1 h2 h3 h4 h5 u) sz)) 0 0 (va_A (wM cC cI cJ h0 h1 h2 h3 h4 h5 u) sz) := by
  refine Met.ofW (cc := cX6_end) (maxL := 3) (ret := (some .long)) (by decide) rfl ?_
  intro p e s m args below meth c s₁ B hml hv
  obtain ⟨rfl, hsz, hP, hK, hD0⟩ := hv
  have hx := B.exec
  have hb := B.bytes
  have hr := B.returns
  have hts : ∀ w ∈ wsX6_end, w.before ([.ref h0, .int a0, .int (b2i a1)] : List Value).toArray s = true := atoms_spec (ws := wsX6_end) B.pre
  have hown : s.vm.findClass RX6 = some m.cls := findClass_of_methodNamed B.named
  have hlk : meth.locks = false := B.notSynchronized
  subst hsz
  have hD := hD0.self (sz := s.heap.size)
  generalize hAe : va_A (wM cC cI cJ h0 h1 h2 h3 h4 h5 u) s.heap.size = A at hD ⊢
  have hA : ∀ q : Nat, s.heap.size ≤ q → A q := fun q h => by rw [← hAe]; exact Or.inr h
  have hS : va_S A s.heap s.heap [] := va_S.rf
  have hP : va_P D vwCl [(h0, .inr (5, [.ref h1, .ref h2, .ref h3, .int u.2.2.2.1, .ref h4, .ref h5, .int u.2.2.2.2.2.2.1, .int u.2.2.2.2.2.2.2])), (h1, .inl (cJ, 8, .inr (.inl u.1))), (h2, .inl (cI, 8, .inl u.2.1)), (h3, .inl (cJ, 8, .inr (.inl u.2.2.1))), (h4, .inl (cC, 40, .inl u.2.2.2.2.1)), (h5, .inl (cI, 40, .inl u.2.2.2.2.2.1))] s.heap := hP
  have hD : va_D A [(h0, .inr (5, [.ref h1, .ref h2, .ref h3, .int u.2.2.2.1, .ref h4, .ref h5, .int u.2.2.2.2.2.2.1, .int u.2.2.2.2.2.2.2])), (h1, .inl (cJ, 8, .inr (.inl u.1))), (h2, .inl (cI, 8, .inl u.2.1)), (h3, .inl (cJ, 8, .inr (.inl u.2.2.1))), (h4, .inl (cC, 40, .inl u.2.2.2.2.1)), (h5, .inl (cI, 40, .inl u.2.2.2.2.2.1))] := hD
  have q1 := hts (.constantLong RX6 49 (9218868437227405312)) (by decide +kernel)
  have hl := lv_entry ([.ref h0, .int a0, .int (b2i a1)]) (n := 3) (Nat.le_of_ble_eq_true rfl)
  rw [lg_entry_eq]
  generalize (lg_sl ([.ref h0, .int a0, .int (b2i a1)]) ++ List.replicate (3 - (lg_sl ([.ref h0, .int a0, .int (b2i a1)])).length) Slot.unset).toArray = ls at hl ⊢
  have hl : lv_has ls 3 [(0, .ref h0), (1, .int a0), (2, .int (b2i a1))] := hl
  unfold f_X6_end at hf
  refine lv_aload_n hx hb dX6_end_0 rfl (lv_at hl 0 rfl) ?_
  refine lv_iload_n hx hb dX6_end_1 rfl (lv_at hl 1 rfl) ?_
  obtain ⟨z1, ez1, hf⟩ := ob_e hf
  refine my_callMi (As := [.int a0]) (n := 1) (rest := []) (wr := []) ⟨hx, hb, hml, hown, hts⟩ hK hP hD hS hA [0, 1, 2, 3, 4, 5] [] rfl rfl (by decide) (by decide) (by decide) (m_X6_lacks l D cC cI cJ h0 h1 h2 h3 h4 h5 u s.heap.size a0 _ ez1) gX6_end_X6_lacks rfl ⟨rfl, rfl⟩ (ci := 5) rfl rfl (by decide +kernel) ⟨Nat.le_of_ble_eq_true rfl, Nat.le_of_ble_eq_true rfl⟩ ⟨Nat.le_of_ble_eq_true rfl, Nat.le_of_ble_eq_true rfl⟩ hl.1 rfl rfl (Nat.le_of_ble_eq_true rfl) dX6_end_2 (fun r9 u9 H locs hw hP hD hS => ?_)
  obtain ⟨rfl, rfl⟩ := hw
  have hP : va_P D vwCl [(h0, .inr (5, [.ref h1, .ref h2, .ref h3, .int z1.2.2.2.2.1, .ref h4, .ref h5, .int z1.2.2.2.2.2.2.2.1, .int z1.2.2.2.2.2.2.2.2])), (h1, .inl (cJ, 8, .inr (.inl z1.2.1))), (h2, .inl (cI, 8, .inl z1.2.2.1)), (h3, .inl (cJ, 8, .inr (.inl z1.2.2.2.1))), (h4, .inl (cC, 40, .inl z1.2.2.2.2.2.1)), (h5, .inl (cI, 40, .inl z1.2.2.2.2.2.2.1))] H := hP.sub [0, 1, 2, 3, 4, 5] rfl
  have hD : va_D A [(h0, .inr (5, [.ref h1, .ref h2, .ref h3, .int z1.2.2.2.2.1, .ref h4, .ref h5, .int z1.2.2.2.2.2.2.2.1, .int z1.2.2.2.2.2.2.2.2])), (h1, .inl (cJ, 8, .inr (.inl z1.2.1))), (h2, .inl (cI, 8, .inl z1.2.2.1)), (h3, .inl (cJ, 8, .inr (.inl z1.2.2.2.1))), (h4, .inl (cC, 40, .inl z1.2.2.2.2.2.1)), (h5, .inl (cI, 40, .inl z1.2.2.2.2.2.2.1))] := hD.sub [0, 1, 2, 3, 4, 5] (by decide) rfl
  refine my_bz_eq (x := z1.1) (tgt := 10) hx hb dX6_end_5 (by decide) (fun c2 => ?_) (fun c2 => ?_)
  · rw [if_pos c2] at hf
    refine lv_aload_n hx hb dX6_end_10 rfl (lv_at hl 0 rfl) ?_
    refine lv_iload_n hx hb dX6_end_11 rfl (lv_at hl 1 rfl) ?_
    refine lv_iload_n hx hb dX6_end_12 rfl (lv_at hl 2 rfl) ?_
    refine my_bz_eq (x := a1) (tgt := 22) hx hb dX6_end_13 (by decide) (fun c3 => ?_) (fun c3 => ?_)
    · rw [if_pos c3] at hf
      refine lv_ldc2 (v := 9218868437227405312) hx hb hown q1 dX6_end_22 ?_
      refine my_callPl (As := [.long 9218868437227405312]) (n := 1) (rest := [.int a0, .ref h0]) ⟨hx, hb, hml, hown, hts⟩ (m_X6_opposite l 9218868437227405312 _ rfl) gX6_end_X6_opposite rfl ⟨rfl, rfl⟩ (by decide +kernel) ⟨Nat.le_of_ble_eq_true rfl, Nat.le_of_ble_eq_true rfl⟩ ⟨Nat.le_of_ble_eq_true rfl, Nat.le_of_ble_eq_true rfl⟩ hl.1 rfl rfl (Nat.le_of_ble_eq_true rfl) dX6_end_25 ?_
      obtain ⟨z4, ez4, hf⟩ := ob_e hf
      refine my_callMl (As := [.int a0, .long (f_X6_opposite 9218868437227405312)]) (n := 2) (rest := []) (wr := []) ⟨hx, hb, hml, hown, hts⟩ hK hP hD hS hA [0, 1, 2, 3, 4, 5] [] rfl rfl (by decide) (by decide) (by decide) (m_X6_becomes l D cC cI cJ h0 h1 h2 h3 h4 h5 z1.2 H.size a0 (f_X6_opposite 9218868437227405312) _ ez4) gX6_end_X6_becomes rfl ⟨rfl, rfl⟩ (ci := 5) rfl rfl (by decide +kernel) ⟨Nat.le_of_ble_eq_true rfl, Nat.le_of_ble_eq_true rfl⟩ ⟨Nat.le_of_ble_eq_true rfl, Nat.le_of_ble_eq_true rfl⟩ hl.1 rfl rfl (Nat.le_of_ble_eq_true rfl) dX6_end_28 (fun r9 u9 H locs hw hP hD hS => ?_)
      obtain ⟨rfl, rfl⟩ := hw
      have hP : va_P D vwCl [(h0, .inr (5, [.ref h1, .ref h2, .ref h3, .int z4.2.2.2.2.1, .ref h4, .ref h5, .int z4.2.2.2.2.2.2.2.1, .int z4.2.2.2.2.2.2.2.2])), (h1, .inl (cJ, 8, .inr (.inl z4.2.1))), (h2, .inl (cI, 8, .inl z4.2.2.1)), (h3, .inl (cJ, 8, .inr (.inl z4.2.2.2.1))), (h4, .inl (cC, 40, .inl z4.2.2.2.2.2.1)), (h5, .inl (cI, 40, .inl z4.2.2.2.2.2.2.1))] H := hP.sub [0, 1, 2, 3, 4, 5] rfl
      have hD : va_D A [(h0, .inr (5, [.ref h1, .ref h2, .ref h3, .int z4.2.2.2.2.1, .ref h4, .ref h5, .int z4.2.2.2.2.2.2.2.1, .int z4.2.2.2.2.2.2.2.2])), (h1, .inl (cJ, 8, .inr (.inl z4.2.1))), (h2, .inl (cI, 8, .inl z4.2.2.1)), (h3, .inl (cJ, 8, .inr (.inl z4.2.2.2.1))), (h4, .inl (cC, 40, .inl z4.2.2.2.2.2.1)), (h5, .inl (cI, 40, .inl z4.2.2.2.2.2.2.1))] := hD.sub [0, 1, 2, 3, 4, 5] (by decide) rfl
      have hP9 : va_P D vwCl (wM cC cI cJ h0 h1 h2 h3 h4 h5 z4.2) _ := hP
      have hD9 : va_D A (wM cC cI cJ h0 h1 h2 h3 h4 h5 z4.2) := hD
      have hf := Option.some.inj hf
      have hf1 := congrArg Prod.fst hf
      have hf2 := congrArg Prod.snd hf
      exact W.lret (v := z4.1) hx hb hr (fun t ht hW => ⟨⟨z4.1, z4.2, rfl, ⟨hf1, hf2⟩, by rw [ht]; exact hP9, va_K.moved hW.alike hK, hD9⟩, hS.F ht⟩) hS.2.2 dX6_end_31
    · rw [if_neg c3] at hf
      refine lv_ldc2 (v := 9218868437227405312) hx hb hown q1 dX6_end_16 ?_
      refine lv_goto (tgt := 28) hx hb dX6_end_19 (by decide) ?_
      obtain ⟨z5, ez5, hf⟩ := ob_e hf
      refine my_callMl (As := [.int a0, .long 9218868437227405312]) (n := 2) (rest := []) (wr := []) ⟨hx, hb, hml, hown, hts⟩ hK hP hD hS hA [0, 1, 2, 3, 4, 5] [] rfl rfl (by decide) (by decide) (by decide) (m_X6_becomes l D cC cI cJ h0 h1 h2 h3 h4 h5 z1.2 H.size a0 9218868437227405312 _ ez5) gX6_end_X6_becomes rfl ⟨rfl, rfl⟩ (ci := 5) rfl rfl (by decide +kernel) ⟨Nat.le_of_ble_eq_true rfl, Nat.le_of_ble_eq_true rfl⟩ ⟨Nat.le_of_ble_eq_true rfl, Nat.le_of_ble_eq_true rfl⟩ hl.1 rfl rfl (Nat.le_of_ble_eq_true rfl) dX6_end_28 (fun r9 u9 H locs hw hP hD hS => ?_)
      obtain ⟨rfl, rfl⟩ := hw
      have hP : va_P D vwCl [(h0, .inr (5, [.ref h1, .ref h2, .ref h3, .int z5.2.2.2.2.1, .ref h4, .ref h5, .int z5.2.2.2.2.2.2.2.1, .int z5.2.2.2.2.2.2.2.2])), (h1, .inl (cJ, 8, .inr (.inl z5.2.1))), (h2, .inl (cI, 8, .inl z5.2.2.1)), (h3, .inl (cJ, 8, .inr (.inl z5.2.2.2.1))), (h4, .inl (cC, 40, .inl z5.2.2.2.2.2.1)), (h5, .inl (cI, 40, .inl z5.2.2.2.2.2.2.1))] H := hP.sub [0, 1, 2, 3, 4, 5] rfl
      have hD : va_D A [(h0, .inr (5, [.ref h1, .ref h2, .ref h3, .int z5.2.2.2.2.1, .ref h4, .ref h5, .int z5.2.2.2.2.2.2.2.1, .int z5.2.2.2.2.2.2.2.2])), (h1, .inl (cJ, 8, .inr (.inl z5.2.1))), (h2, .inl (cI, 8, .inl z5.2.2.1)), (h3, .inl (cJ, 8, .inr (.inl z5.2.2.2.1))), (h4, .inl (cC, 40, .inl z5.2.2.2.2.2.1)), (h5, .inl (cI, 40, .inl z5.2.2.2.2.2.2.1))] := hD.sub [0, 1, 2, 3, 4, 5] (by decide) rfl
      have hP9 : va_P D vwCl (wM cC cI cJ h0 h1 h2 h3 h4 h5 z5.2) _ := hP
      have hD9 : va_D A (wM cC cI cJ h0 h1 h2 h3 h4 h5 z5.2) := hD
      have hf := Option.some.inj hf
      have hf1 := congrArg Prod.fst hf
      have hf2 := congrArg Prod.snd hf
      exact W.lret (v := z5.1) hx hb hr (fun t ht hW => ⟨⟨z5.1, z5.2, rfl, ⟨hf1, hf2⟩, by rw [ht]; exact hP9, va_K.moved hW.alike hK, hD9⟩, hS.F ht⟩) hS.2.2 dX6_end_31
  · rw [if_neg c2] at hf
    refine lv_lconst (v := 0) hx hb dX6_end_8 (by decide) ?_
    have hP9 : va_P D vwCl (wM cC cI cJ h0 h1 h2 h3 h4 h5 z1.2) _ := hP
    have hD9 : va_D A (wM cC cI cJ h0 h1 h2 h3 h4 h5 z1.2) := hD
    have hf := Option.some.inj hf
    have hf1 := congrArg Prod.fst hf
    have hf2 := congrArg Prod.snd hf
    exact W.lret (v := 0) hx hb hr (fun t ht hW => ⟨⟨0, z1.2, rfl, ⟨hf1, hf2⟩, by rw [ht]; exact hP9, va_K.moved hW.alike hK, hD9⟩, hS.F ht⟩) hS.2.2 dX6_end_9

set_option maxHeartbeats 4000000 in
set_option maxRecDepth 100000 in
theorem m_X6_copy (l : Launch) (D : va_G) (cC cI cJ : ClassId) (h0 h1 h2 h3 h4 h5 : Nat) (u : StM) (sz : Nat) (a0 : Int32) (a1 : Int32) (res : Int64 × StM) (hf : f_X6_copy u a0 a1 = some res) : Met l yX6_copy wsX6_copy rmX6_copy (my_PcM D vwCl (KT cC cI cJ) sz (wM cC cI cJ h0 h1 h2 h3 h4 h5 u) [.ref h0, .int a0, .int a1]) (va_Ql (fun r v => r = res.1 ∧ v = res.2) (my_B D vwCl (KT cC cI cJ) (va_A (wM cC cI cJ h0 h1 h2 h3 h4 h5 u) sz) (fun v : StM => (wM cC cI cJ h0 h1 h2 h3 h4 h5 v))) (va_A (wM cC cI cJ h0 h1 h2 h3 h4 h5 u) sz)) 0 0 (va_A (wM cC cI cJ h0 h1 h2 h3 h4 h5 u) sz) := by
  refine Met.ofW (cc := cX6_copy) (maxL := 3) (ret := (some .long)) (by decide) rfl ?_
  intro p e s m args below meth c s₁ B hml hv
  obtain ⟨rfl, hsz, hP, hK, hD0⟩ := hv
  have hx := B.exec
  have hb := B.bytes
  have hr := B.returns
  have hts : ∀ w ∈ wsX6_copy, w.before ([.ref h0, .int a0, .int a1] : List Value).toArray s = true := atoms_spec (ws := wsX6_copy) B.pre
  have hown : s.vm.findClass RX6 = some m.cls := findClass_of_methodNamed B.named
  have hlk : meth.locks = false := B.notSynchronized
  subst hsz
  have hD := hD0.self (sz := s.heap.size)
  generalize hAe : va_A (wM cC cI cJ h0 h1 h2 h3 h4 h5 u) s.heap.size = A at hD ⊢
  have hA : ∀ q : Nat, s.heap.size ≤ q → A q := fun q h => by rw [← hAe]; exact Or.inr h
  have hS : va_S A s.heap s.heap [] := va_S.rf
  have hP : va_P D vwCl [(h0, .inr (5, [.ref h1, .ref h2, .ref h3, .int u.2.2.2.1, .ref h4, .ref h5, .int u.2.2.2.2.2.2.1, .int u.2.2.2.2.2.2.2])), (h1, .inl (cJ, 8, .inr (.inl u.1))), (h2, .inl (cI, 8, .inl u.2.1)), (h3, .inl (cJ, 8, .inr (.inl u.2.2.1))), (h4, .inl (cC, 40, .inl u.2.2.2.2.1)), (h5, .inl (cI, 40, .inl u.2.2.2.2.2.1))] s.heap := hP
  have hD : va_D A [(h0, .inr (5, [.ref h1, .ref h2, .ref h3, .int u.2.2.2.1, .ref h4, .ref h5, .int u.2.2.2.2.2.2.1, .int u.2.2.2.2.2.2.2])), (h1, .inl (cJ, 8, .inr (.inl u.1))), (h2, .inl (cI, 8, .inl u.2.1)), (h3, .inl (cJ, 8, .inr (.inl u.2.2.1))), (h4, .inl (cC, 40, .inl u.2.2.2.2.1)), (h5, .inl (cI, 40, .inl u.2.2.2.2.2.1))] := hD
  have q1 := hts (.fieldLink RX6 9 "DoublelineModel" "codes" "[J") (by decide +kernel)
  have q2 : ∀ w ∈ u_ws RX6 TX6 8, w ∈ wsX6_copy := by decide +kernel
  have hl := lv_entry ([.ref h0, .int a0, .int a1]) (n := 3) (Nat.le_of_ble_eq_true rfl)
  rw [lg_entry_eq]
  generalize (lg_sl ([.ref h0, .int a0, .int a1]) ++ List.replicate (3 - (lg_sl ([.ref h0, .int a0, .int a1])).length) Slot.unset).toArray = ls at hl ⊢
  have hl : lv_has ls 3 [(0, .ref h0), (1, .int a0), (2, .int a1)] := hl
  unfold f_X6_copy at hf
  refine lv_aload_n hx hb dX6_copy_0 rfl (lv_at hl 0 rfl) ?_
  refine lv_iload_n hx hb dX6_copy_1 rfl (lv_at hl 1 rfl) ?_
  refine lv_iload_n hx hb dX6_copy_2 rfl (lv_at hl 2 rfl) ?_
  obtain ⟨z1, ez1, hf⟩ := ob_e hf
  refine my_callMi (As := [.int a0, .int a1]) (n := 2) (rest := []) (wr := []) ⟨hx, hb, hml, hown, hts⟩ hK hP hD hS hA [0, 1, 2, 3, 4, 5] [] rfl rfl (by decide) (by decide) (by decide) (m_X6_lacks_ l D cC cI cJ h0 h1 h2 h3 h4 h5 u s.heap.size a0 a1 _ ez1) gX6_copy_X6_lacks_ rfl ⟨rfl, rfl⟩ (ci := 5) rfl rfl (by decide +kernel) ⟨Nat.le_of_ble_eq_true rfl, Nat.le_of_ble_eq_true rfl⟩ ⟨Nat.le_of_ble_eq_true rfl, Nat.le_of_ble_eq_true rfl⟩ hl.1 rfl rfl (Nat.le_of_ble_eq_true rfl) dX6_copy_3 (fun r9 u9 H locs hw hP hD hS => ?_)
  obtain ⟨rfl, rfl⟩ := hw
  have hP : va_P D vwCl [(h0, .inr (5, [.ref h1, .ref h2, .ref h3, .int z1.2.2.2.2.1, .ref h4, .ref h5, .int z1.2.2.2.2.2.2.2.1, .int z1.2.2.2.2.2.2.2.2])), (h1, .inl (cJ, 8, .inr (.inl z1.2.1))), (h2, .inl (cI, 8, .inl z1.2.2.1)), (h3, .inl (cJ, 8, .inr (.inl z1.2.2.2.1))), (h4, .inl (cC, 40, .inl z1.2.2.2.2.2.1)), (h5, .inl (cI, 40, .inl z1.2.2.2.2.2.2.1))] H := hP.sub [0, 1, 2, 3, 4, 5] rfl
  have hD : va_D A [(h0, .inr (5, [.ref h1, .ref h2, .ref h3, .int z1.2.2.2.2.1, .ref h4, .ref h5, .int z1.2.2.2.2.2.2.2.1, .int z1.2.2.2.2.2.2.2.2])), (h1, .inl (cJ, 8, .inr (.inl z1.2.1))), (h2, .inl (cI, 8, .inl z1.2.2.1)), (h3, .inl (cJ, 8, .inr (.inl z1.2.2.2.1))), (h4, .inl (cC, 40, .inl z1.2.2.2.2.2.1)), (h5, .inl (cI, 40, .inl z1.2.2.2.2.2.2.1))] := hD.sub [0, 1, 2, 3, 4, 5] (by decide) rfl
  refine my_bz_eq (x := z1.1) (tgt := 11) hx hb dX6_copy_6 (by decide) (fun c2 => ?_) (fun c2 => ?_)
  · rw [if_pos c2] at hf
    refine lv_aload_n hx hb dX6_copy_11 rfl (lv_at hl 0 rfl) ?_
    refine lv_iload_n hx hb dX6_copy_12 rfl (lv_at hl 2 rfl) ?_
    refine lv_aload_n hx hb dX6_copy_13 rfl (lv_at hl 0 rfl) ?_
    refine va_get (D := D) (ci := 5) (v := .ref h1) (C := RX6) (T := TX6) (N := 8) hx hb hts q2 hown hK hP 0 rfl rfl 0 (by decide) q1 (fun _ h9 => h9) rfl dX6_copy_14 ?_
    refine lv_iload_n hx hb dX6_copy_17 rfl (lv_at hl 1 rfl) ?_
    obtain ⟨g3, hf⟩ := og_e hf
    refine va_lald hx hb hK hP 1 2 rfl rfl g3 dX6_copy_18 ?_
    obtain ⟨z4, ez4, hf⟩ := ob_e hf
    refine my_callMl (As := [.int a1, .long (z1.2.1 a0.toNatClampNeg)]) (n := 2) (rest := []) (wr := []) ⟨hx, hb, hml, hown, hts⟩ hK hP hD hS hA [0, 1, 2, 3, 4, 5] [] rfl rfl (by decide) (by decide) (by decide) (m_X6_becomes l D cC cI cJ h0 h1 h2 h3 h4 h5 z1.2 H.size a1 (z1.2.1 a0.toNatClampNeg) _ ez4) gX6_copy_X6_becomes rfl ⟨rfl, rfl⟩ (ci := 5) rfl rfl (by decide +kernel) ⟨Nat.le_of_ble_eq_true rfl, Nat.le_of_ble_eq_true rfl⟩ ⟨Nat.le_of_ble_eq_true rfl, Nat.le_of_ble_eq_true rfl⟩ hl.1 rfl rfl (Nat.le_of_ble_eq_true rfl) dX6_copy_19 (fun r9 u9 H locs hw hP hD hS => ?_)
    obtain ⟨rfl, rfl⟩ := hw
    have hP : va_P D vwCl [(h0, .inr (5, [.ref h1, .ref h2, .ref h3, .int z4.2.2.2.2.1, .ref h4, .ref h5, .int z4.2.2.2.2.2.2.2.1, .int z4.2.2.2.2.2.2.2.2])), (h1, .inl (cJ, 8, .inr (.inl z4.2.1))), (h2, .inl (cI, 8, .inl z4.2.2.1)), (h3, .inl (cJ, 8, .inr (.inl z4.2.2.2.1))), (h4, .inl (cC, 40, .inl z4.2.2.2.2.2.1)), (h5, .inl (cI, 40, .inl z4.2.2.2.2.2.2.1))] H := hP.sub [0, 1, 2, 3, 4, 5] rfl
    have hD : va_D A [(h0, .inr (5, [.ref h1, .ref h2, .ref h3, .int z4.2.2.2.2.1, .ref h4, .ref h5, .int z4.2.2.2.2.2.2.2.1, .int z4.2.2.2.2.2.2.2.2])), (h1, .inl (cJ, 8, .inr (.inl z4.2.1))), (h2, .inl (cI, 8, .inl z4.2.2.1)), (h3, .inl (cJ, 8, .inr (.inl z4.2.2.2.1))), (h4, .inl (cC, 40, .inl z4.2.2.2.2.2.1)), (h5, .inl (cI, 40, .inl z4.2.2.2.2.2.2.1))] := hD.sub [0, 1, 2, 3, 4, 5] (by decide) rfl
    have hP9 : va_P D vwCl (wM cC cI cJ h0 h1 h2 h3 h4 h5 z4.2) _ := hP
    have hD9 : va_D A (wM cC cI cJ h0 h1 h2 h3 h4 h5 z4.2) := hD
    have hf := Option.some.inj hf
    have hf1 := congrArg Prod.fst hf
    have hf2 := congrArg Prod.snd hf
    exact W.lret (v := z4.1) hx hb hr (fun t ht hW => ⟨⟨z4.1, z4.2, rfl, ⟨hf1, hf2⟩, by rw [ht]; exact hP9, va_K.moved hW.alike hK, hD9⟩, hS.F ht⟩) hS.2.2 dX6_copy_22
  · rw [if_neg c2] at hf
    refine lv_lconst (v := 0) hx hb dX6_copy_9 (by decide) ?_
    have hP9 : va_P D vwCl (wM cC cI cJ h0 h1 h2 h3 h4 h5 z1.2) _ := hP
    have hD9 : va_D A (wM cC cI cJ h0 h1 h2 h3 h4 h5 z1.2) := hD
    have hf := Option.some.inj hf
    have hf1 := congrArg Prod.fst hf
    have hf2 := congrArg Prod.snd hf
    exact W.lret (v := 0) hx hb hr (fun t ht hW => ⟨⟨0, z1.2, rfl, ⟨hf1, hf2⟩, by rw [ht]; exact hP9, va_K.moved hW.alike hK, hD9⟩, hS.F ht⟩) hS.2.2 dX6_copy_10

set_option maxHeartbeats 4000000 in
set_option maxRecDepth 100000 in
theorem m_X6_negate (l : Launch) (D : va_G) (cC cI cJ : ClassId) (h0 h1 h2 h3 h4 h5 : Nat) (u : StM) (sz : Nat) (a0 : Int32) (a1 : Int32) (res : Int64 × StM) (hf : f_X6_negate u a0 a1 = some res) : Met l yX6_negate wsX6_negate rmX6_negate (my_PcM D vwCl (KT cC cI cJ) sz (wM cC cI cJ h0 h1 h2 h3 h4 h5 u) [.ref h0, .int a0, .int a1]) (va_Ql (fun r v => r = res.1 ∧ v = res.2) (my_B D vwCl (KT cC cI cJ) (va_A (wM cC cI cJ h0 h1 h2 h3 h4 h5 u) sz) (fun v : StM => (wM cC cI cJ h0 h1 h2 h3 h4 h5 v))) (va_A (wM cC cI cJ h0 h1 h2 h3 h4 h5 u) sz)) 0 0 (va_A (wM cC cI cJ h0 h1 h2 h3 h4 h5 u) sz) := by
  refine Met.ofW (cc := cX6_negate) (maxL := 3) (ret := (some .long)) (by decide) rfl ?_
  intro p e s m args below meth c s₁ B hml hv
  obtain ⟨rfl, hsz, hP, hK, hD0⟩ := hv
  have hx := B.exec
  have hb := B.bytes
  have hr := B.returns
  have hts : ∀ w ∈ wsX6_negate, w.before ([.ref h0, .int a0, .int a1] : List Value).toArray s = true := atoms_spec (ws := wsX6_negate) B.pre
  have hown : s.vm.findClass RX6 = some m.cls := findClass_of_methodNamed B.named
  have hlk : meth.locks = false := B.notSynchronized
  subst hsz
  have hD := hD0.self (sz := s.heap.size)
  generalize hAe : va_A (wM cC cI cJ h0 h1 h2 h3 h4 h5 u) s.heap.size = A at hD ⊢
  have hA : ∀ q : Nat, s.heap.size ≤ q → A q := fun q h => by rw [← hAe]; exact Or.inr h
  have hS : va_S A s.heap s.heap [] := va_S.rf
  have hP : va_P D vwCl [(h0, .inr (5, [.ref h1, .ref h2, .ref h3, .int u.2.2.2.1, .ref h4, .ref h5, .int u.2.2.2.2.2.2.1, .int u.2.2.2.2.2.2.2])), (h1, .inl (cJ, 8, .inr (.inl u.1))), (h2, .inl (cI, 8, .inl u.2.1)), (h3, .inl (cJ, 8, .inr (.inl u.2.2.1))), (h4, .inl (cC, 40, .inl u.2.2.2.2.1)), (h5, .inl (cI, 40, .inl u.2.2.2.2.2.1))] s.heap := hP
  have hD : va_D A [(h0, .inr (5, [.ref h1, .ref h2, .ref h3, .int u.2.2.2.1, .ref h4, .ref h5, .int u.2.2.2.2.2.2.1, .int u.2.2.2.2.2.2.2])), (h1, .inl (cJ, 8, .inr (.inl u.1))), (h2, .inl (cI, 8, .inl u.2.1)), (h3, .inl (cJ, 8, .inr (.inl u.2.2.1))), (h4, .inl (cC, 40, .inl u.2.2.2.2.1)), (h5, .inl (cI, 40, .inl u.2.2.2.2.2.1))] := hD
  have q1 := hts (.fieldLink RX6 9 "DoublelineModel" "codes" "[J") (by decide +kernel)
  have q2 : ∀ w ∈ u_ws RX6 TX6 8, w ∈ wsX6_negate := by decide +kernel
  have hl := lv_entry ([.ref h0, .int a0, .int a1]) (n := 3) (Nat.le_of_ble_eq_true rfl)
  rw [lg_entry_eq]
  generalize (lg_sl ([.ref h0, .int a0, .int a1]) ++ List.replicate (3 - (lg_sl ([.ref h0, .int a0, .int a1])).length) Slot.unset).toArray = ls at hl ⊢
  have hl : lv_has ls 3 [(0, .ref h0), (1, .int a0), (2, .int a1)] := hl
  unfold f_X6_negate at hf
  refine lv_aload_n hx hb dX6_negate_0 rfl (lv_at hl 0 rfl) ?_
  refine lv_iload_n hx hb dX6_negate_1 rfl (lv_at hl 1 rfl) ?_
  refine lv_iload_n hx hb dX6_negate_2 rfl (lv_at hl 2 rfl) ?_
  obtain ⟨z1, ez1, hf⟩ := ob_e hf
  refine my_callMi (As := [.int a0, .int a1]) (n := 2) (rest := []) (wr := []) ⟨hx, hb, hml, hown, hts⟩ hK hP hD hS hA [0, 1, 2, 3, 4, 5] [] rfl rfl (by decide) (by decide) (by decide) (m_X6_lacks_ l D cC cI cJ h0 h1 h2 h3 h4 h5 u s.heap.size a0 a1 _ ez1) gX6_negate_X6_lacks_ rfl ⟨rfl, rfl⟩ (ci := 5) rfl rfl (by decide +kernel) ⟨Nat.le_of_ble_eq_true rfl, Nat.le_of_ble_eq_true rfl⟩ ⟨Nat.le_of_ble_eq_true rfl, Nat.le_of_ble_eq_true rfl⟩ hl.1 rfl rfl (Nat.le_of_ble_eq_true rfl) dX6_negate_3 (fun r9 u9 H locs hw hP hD hS => ?_)
  obtain ⟨rfl, rfl⟩ := hw
  have hP : va_P D vwCl [(h0, .inr (5, [.ref h1, .ref h2, .ref h3, .int z1.2.2.2.2.1, .ref h4, .ref h5, .int z1.2.2.2.2.2.2.2.1, .int z1.2.2.2.2.2.2.2.2])), (h1, .inl (cJ, 8, .inr (.inl z1.2.1))), (h2, .inl (cI, 8, .inl z1.2.2.1)), (h3, .inl (cJ, 8, .inr (.inl z1.2.2.2.1))), (h4, .inl (cC, 40, .inl z1.2.2.2.2.2.1)), (h5, .inl (cI, 40, .inl z1.2.2.2.2.2.2.1))] H := hP.sub [0, 1, 2, 3, 4, 5] rfl
  have hD : va_D A [(h0, .inr (5, [.ref h1, .ref h2, .ref h3, .int z1.2.2.2.2.1, .ref h4, .ref h5, .int z1.2.2.2.2.2.2.2.1, .int z1.2.2.2.2.2.2.2.2])), (h1, .inl (cJ, 8, .inr (.inl z1.2.1))), (h2, .inl (cI, 8, .inl z1.2.2.1)), (h3, .inl (cJ, 8, .inr (.inl z1.2.2.2.1))), (h4, .inl (cC, 40, .inl z1.2.2.2.2.2.1)), (h5, .inl (cI, 40, .inl z1.2.2.2.2.2.2.1))] := hD.sub [0, 1, 2, 3, 4, 5] (by decide) rfl
  refine my_bz_eq (x := z1.1) (tgt := 11) hx hb dX6_negate_6 (by decide) (fun c2 => ?_) (fun c2 => ?_)
  · rw [if_pos c2] at hf
    refine lv_aload_n hx hb dX6_negate_11 rfl (lv_at hl 0 rfl) ?_
    refine lv_iload_n hx hb dX6_negate_12 rfl (lv_at hl 2 rfl) ?_
    refine lv_aload_n hx hb dX6_negate_13 rfl (lv_at hl 0 rfl) ?_
    refine va_get (D := D) (ci := 5) (v := .ref h1) (C := RX6) (T := TX6) (N := 8) hx hb hts q2 hown hK hP 0 rfl rfl 0 (by decide) q1 (fun _ h9 => h9) rfl dX6_negate_14 ?_
    refine lv_iload_n hx hb dX6_negate_17 rfl (lv_at hl 1 rfl) ?_
    obtain ⟨g3, hf⟩ := og_e hf
    refine va_lald hx hb hK hP 1 2 rfl rfl g3 dX6_negate_18 ?_
    refine my_callPl (As := [.long (z1.2.1 a0.toNatClampNeg)]) (n := 1) (rest := [.int a1, .ref h0]) ⟨hx, hb, hml, hown, hts⟩ (m_X6_opposite l (z1.2.1 a0.toNatClampNeg) _ rfl) gX6_negate_X6_opposite rfl ⟨rfl, rfl⟩ (by decide +kernel) ⟨Nat.le_of_ble_eq_true rfl, Nat.le_of_ble_eq_true rfl⟩ ⟨Nat.le_of_ble_eq_true rfl, Nat.le_of_ble_eq_true rfl⟩ hl.1 rfl rfl (Nat.le_of_ble_eq_true rfl) dX6_negate_19 ?_
    obtain ⟨z4, ez4, hf⟩ := ob_e hf
    refine my_callMl (As := [.int a1, .long (f_X6_opposite (z1.2.1 a0.toNatClampNeg))]) (n := 2) (rest := []) (wr := []) ⟨hx, hb, hml, hown, hts⟩ hK hP hD hS hA [0, 1, 2, 3, 4, 5] [] rfl rfl (by decide) (by decide) (by decide) (m_X6_becomes l D cC cI cJ h0 h1 h2 h3 h4 h5 z1.2 H.size a1 (f_X6_opposite (z1.2.1 a0.toNatClampNeg)) _ ez4) gX6_negate_X6_becomes rfl ⟨rfl, rfl⟩ (ci := 5) rfl rfl (by decide +kernel) ⟨Nat.le_of_ble_eq_true rfl, Nat.le_of_ble_eq_true rfl⟩ ⟨Nat.le_of_ble_eq_true rfl, Nat.le_of_ble_eq_true rfl⟩ hl.1 rfl rfl (Nat.le_of_ble_eq_true rfl) dX6_negate_22 (fun r9 u9 H locs hw hP hD hS => ?_)
    obtain ⟨rfl, rfl⟩ := hw
    have hP : va_P D vwCl [(h0, .inr (5, [.ref h1, .ref h2, .ref h3, .int z4.2.2.2.2.1, .ref h4, .ref h5, .int z4.2.2.2.2.2.2.2.1, .int z4.2.2.2.2.2.2.2.2])), (h1, .inl (cJ, 8, .inr (.inl z4.2.1))), (h2, .inl (cI, 8, .inl z4.2.2.1)), (h3, .inl (cJ, 8, .inr (.inl z4.2.2.2.1))), (h4, .inl (cC, 40, .inl z4.2.2.2.2.2.1)), (h5, .inl (cI, 40, .inl z4.2.2.2.2.2.2.1))] H := hP.sub [0, 1, 2, 3, 4, 5] rfl
    have hD : va_D A [(h0, .inr (5, [.ref h1, .ref h2, .ref h3, .int z4.2.2.2.2.1, .ref h4, .ref h5, .int z4.2.2.2.2.2.2.2.1, .int z4.2.2.2.2.2.2.2.2])), (h1, .inl (cJ, 8, .inr (.inl z4.2.1))), (h2, .inl (cI, 8, .inl z4.2.2.1)), (h3, .inl (cJ, 8, .inr (.inl z4.2.2.2.1))), (h4, .inl (cC, 40, .inl z4.2.2.2.2.2.1)), (h5, .inl (cI, 40, .inl z4.2.2.2.2.2.2.1))] := hD.sub [0, 1, 2, 3, 4, 5] (by decide) rfl
    have hP9 : va_P D vwCl (wM cC cI cJ h0 h1 h2 h3 h4 h5 z4.2) _ := hP
    have hD9 : va_D A (wM cC cI cJ h0 h1 h2 h3 h4 h5 z4.2) := hD
    have hf := Option.some.inj hf
    have hf1 := congrArg Prod.fst hf
    have hf2 := congrArg Prod.snd hf
    exact W.lret (v := z4.1) hx hb hr (fun t ht hW => ⟨⟨z4.1, z4.2, rfl, ⟨hf1, hf2⟩, by rw [ht]; exact hP9, va_K.moved hW.alike hK, hD9⟩, hS.F ht⟩) hS.2.2 dX6_negate_25
  · rw [if_neg c2] at hf
    refine lv_lconst (v := 0) hx hb dX6_negate_9 (by decide) ?_
    have hP9 : va_P D vwCl (wM cC cI cJ h0 h1 h2 h3 h4 h5 z1.2) _ := hP
    have hD9 : va_D A (wM cC cI cJ h0 h1 h2 h3 h4 h5 z1.2) := hD
    have hf := Option.some.inj hf
    have hf1 := congrArg Prod.fst hf
    have hf2 := congrArg Prod.snd hf
    exact W.lret (v := 0) hx hb hr (fun t ht hW => ⟨⟨0, z1.2, rfl, ⟨hf1, hf2⟩, by rw [ht]; exact hP9, va_K.moved hW.alike hK, hD9⟩, hS.F ht⟩) hS.2.2 dX6_negate_10

set_option maxHeartbeats 4000000 in
set_option maxRecDepth 100000 in
theorem m_X6_place (l : Launch) (D : va_G) (cC cI cJ : ClassId) (h0 h1 h2 h3 h4 h5 : Nat) (u : StM) (sz : Nat) (a0 : Int32) (res : Int64 × StM) (hf : f_X6_place u a0 = some res) : Met l yX6_place wsX6_place rmX6_place (my_PcM D vwCl (KT cC cI cJ) sz (wM cC cI cJ h0 h1 h2 h3 h4 h5 u) [.ref h0, .int a0]) (va_Ql (fun r v => r = res.1 ∧ v = res.2) (my_B D vwCl (KT cC cI cJ) (va_A (wM cC cI cJ h0 h1 h2 h3 h4 h5 u) sz) (fun v : StM => (wM cC cI cJ h0 h1 h2 h3 h4 h5 v))) (va_A (wM cC cI cJ h0 h1 h2 h3 h4 h5 u) sz)) 0 0 (va_A (wM cC cI cJ h0 h1 h2 h3 h4 h5 u) sz) := by
  refine Met.ofW (cc := cX6_place) (maxL := 2) (ret := (some .long)) (by decide) rfl ?_
  intro p e s m args below meth c s₁ B hml hv
  obtain ⟨rfl, hsz, hP, hK, hD0⟩ := hv
  have hx := B.exec
  have hb := B.bytes
  have hr := B.returns
  have hts : ∀ w ∈ wsX6_place, w.before ([.ref h0, .int a0] : List Value).toArray s = true := atoms_spec (ws := wsX6_place) B.pre
  have hown : s.vm.findClass RX6 = some m.cls := findClass_of_methodNamed B.named
  have hlk : meth.locks = false := B.notSynchronized
  subst hsz
  have hD := hD0.self (sz := s.heap.size)
  generalize hAe : va_A (wM cC cI cJ h0 h1 h2 h3 h4 h5 u) s.heap.size = A at hD ⊢
  have hA : ∀ q : Nat, s.heap.size ≤ q → A q := fun q h => by rw [← hAe]; exact Or.inr h
  have hS : va_S A s.heap s.heap [] := va_S.rf
  have hP : va_P D vwCl [(h0, .inr (5, [.ref h1, .ref h2, .ref h3, .int u.2.2.2.1, .ref h4, .ref h5, .int u.2.2.2.2.2.2.1, .int u.2.2.2.2.2.2.2])), (h1, .inl (cJ, 8, .inr (.inl u.1))), (h2, .inl (cI, 8, .inl u.2.1)), (h3, .inl (cJ, 8, .inr (.inl u.2.2.1))), (h4, .inl (cC, 40, .inl u.2.2.2.2.1)), (h5, .inl (cI, 40, .inl u.2.2.2.2.2.1))] s.heap := hP
  have hD : va_D A [(h0, .inr (5, [.ref h1, .ref h2, .ref h3, .int u.2.2.2.1, .ref h4, .ref h5, .int u.2.2.2.2.2.2.1, .int u.2.2.2.2.2.2.2])), (h1, .inl (cJ, 8, .inr (.inl u.1))), (h2, .inl (cI, 8, .inl u.2.1)), (h3, .inl (cJ, 8, .inr (.inl u.2.2.1))), (h4, .inl (cC, 40, .inl u.2.2.2.2.1)), (h5, .inl (cI, 40, .inl u.2.2.2.2.2.1))] := hD
  have q1 := hts (.fieldLink RX6 9 "DoublelineModel" "codes" "[J") (by decide +kernel)
  have q2 : ∀ w ∈ u_ws RX6 TX6 8, w ∈ wsX6_place := by decide +kernel
  have hl := lv_entry ([.ref h0, .int a0]) (n := 2) (Nat.le_of_ble_eq_true rfl)
  rw [lg_entry_eq]
  generalize (lg_sl ([.ref h0, .int a0]) ++ List.replicate (2 - (lg_sl ([.ref h0, .int a0])).length) Slot.unset).toArray = ls at hl ⊢
  have hl : lv_has ls 2 [(0, .ref h0), (1, .int a0)] := hl
  unfold f_X6_place at hf
  refine lv_aload_n hx hb dX6_place_0 rfl (lv_at hl 0 rfl) ?_
  refine lv_iload_n hx hb dX6_place_1 rfl (lv_at hl 1 rfl) ?_
  obtain ⟨z1, ez1, hf⟩ := ob_e hf
  refine my_callMi (As := [.int a0]) (n := 1) (rest := []) (wr := []) ⟨hx, hb, hml, hown, hts⟩ hK hP hD hS hA [0, 1, 2, 3, 4, 5] [] rfl rfl (by decide) (by decide) (by decide) (m_X6_lacks l D cC cI cJ h0 h1 h2 h3 h4 h5 u s.heap.size a0 _ ez1) gX6_place_X6_lacks rfl ⟨rfl, rfl⟩ (ci := 5) rfl rfl (by decide +kernel) ⟨Nat.le_of_ble_eq_true rfl, Nat.le_of_ble_eq_true rfl⟩ ⟨Nat.le_of_ble_eq_true rfl, Nat.le_of_ble_eq_true rfl⟩ hl.1 rfl rfl (Nat.le_of_ble_eq_true rfl) dX6_place_2 (fun r9 u9 H locs hw hP hD hS => ?_)
  obtain ⟨rfl, rfl⟩ := hw
  have hP : va_P D vwCl [(h0, .inr (5, [.ref h1, .ref h2, .ref h3, .int z1.2.2.2.2.1, .ref h4, .ref h5, .int z1.2.2.2.2.2.2.2.1, .int z1.2.2.2.2.2.2.2.2])), (h1, .inl (cJ, 8, .inr (.inl z1.2.1))), (h2, .inl (cI, 8, .inl z1.2.2.1)), (h3, .inl (cJ, 8, .inr (.inl z1.2.2.2.1))), (h4, .inl (cC, 40, .inl z1.2.2.2.2.2.1)), (h5, .inl (cI, 40, .inl z1.2.2.2.2.2.2.1))] H := hP.sub [0, 1, 2, 3, 4, 5] rfl
  have hD : va_D A [(h0, .inr (5, [.ref h1, .ref h2, .ref h3, .int z1.2.2.2.2.1, .ref h4, .ref h5, .int z1.2.2.2.2.2.2.2.1, .int z1.2.2.2.2.2.2.2.2])), (h1, .inl (cJ, 8, .inr (.inl z1.2.1))), (h2, .inl (cI, 8, .inl z1.2.2.1)), (h3, .inl (cJ, 8, .inr (.inl z1.2.2.2.1))), (h4, .inl (cC, 40, .inl z1.2.2.2.2.2.1)), (h5, .inl (cI, 40, .inl z1.2.2.2.2.2.2.1))] := hD.sub [0, 1, 2, 3, 4, 5] (by decide) rfl
  refine my_bz_eq (x := z1.1) (tgt := 10) hx hb dX6_place_5 (by decide) (fun c2 => ?_) (fun c2 => ?_)
  · rw [if_pos c2] at hf
    refine lv_aload_n hx hb dX6_place_10 rfl (lv_at hl 0 rfl) ?_
    refine va_get (D := D) (ci := 5) (v := .ref h1) (C := RX6) (T := TX6) (N := 8) hx hb hts q2 hown hK hP 0 rfl rfl 0 (by decide) q1 (fun _ h9 => h9) rfl dX6_place_11 ?_
    refine lv_iload_n hx hb dX6_place_14 rfl (lv_at hl 1 rfl) ?_
    obtain ⟨g3, hf⟩ := og_e hf
    refine va_lald hx hb hK hP 1 2 rfl rfl g3 dX6_place_15 ?_
    refine my_callPl (As := [.long (z1.2.1 a0.toNatClampNeg)]) (n := 1) (rest := []) ⟨hx, hb, hml, hown, hts⟩ (m_X6_placeOf l (z1.2.1 a0.toNatClampNeg) _ rfl) gX6_place_X6_placeOf rfl ⟨rfl, rfl⟩ (by decide +kernel) ⟨Nat.le_of_ble_eq_true rfl, Nat.le_of_ble_eq_true rfl⟩ ⟨Nat.le_of_ble_eq_true rfl, Nat.le_of_ble_eq_true rfl⟩ hl.1 rfl rfl (Nat.le_of_ble_eq_true rfl) dX6_place_16 ?_
    have hP9 : va_P D vwCl (wM cC cI cJ h0 h1 h2 h3 h4 h5 z1.2) _ := hP
    have hD9 : va_D A (wM cC cI cJ h0 h1 h2 h3 h4 h5 z1.2) := hD
    have hf := Option.some.inj hf
    have hf1 := congrArg Prod.fst hf
    have hf2 := congrArg Prod.snd hf
    exact W.lret (v := (f_X6_placeOf (z1.2.1 a0.toNatClampNeg))) hx hb hr (fun t ht hW => ⟨⟨(f_X6_placeOf (z1.2.1 a0.toNatClampNeg)), z1.2, rfl, ⟨hf1, hf2⟩, by rw [ht]; exact hP9, va_K.moved hW.alike hK, hD9⟩, hS.F ht⟩) hS.2.2 dX6_place_19
  · rw [if_neg c2] at hf
    refine lv_lconst (v := 0) hx hb dX6_place_8 (by decide) ?_
    have hP9 : va_P D vwCl (wM cC cI cJ h0 h1 h2 h3 h4 h5 z1.2) _ := hP
    have hD9 : va_D A (wM cC cI cJ h0 h1 h2 h3 h4 h5 z1.2) := hD
    have hf := Option.some.inj hf
    have hf1 := congrArg Prod.fst hf
    have hf2 := congrArg Prod.snd hf
    exact W.lret (v := 0) hx hb hr (fun t ht hW => ⟨⟨0, z1.2, rfl, ⟨hf1, hf2⟩, by rw [ht]; exact hP9, va_K.moved hW.alike hK, hD9⟩, hS.F ht⟩) hS.2.2 dX6_place_9

set_option maxHeartbeats 4000000 in
set_option maxRecDepth 100000 in
theorem m_X6_bits_ (l : Launch) (D : va_G) (cC cI cJ : ClassId) (h0 h1 h2 h3 h4 h5 : Nat) (u : StM) (sz : Nat) (a0 : Int32) (res : Int64 × StM) (hf : f_X6_bits_ u a0 = some res) : Met l yX6_bits_ wsX6_bits_ rmX6_bits_ (my_PcM D vwCl (KT cC cI cJ) sz (wM cC cI cJ h0 h1 h2 h3 h4 h5 u) [.ref h0, .int a0]) (va_Ql (fun r v => r = res.1 ∧ v = res.2) (my_B D vwCl (KT cC cI cJ) (va_A (wM cC cI cJ h0 h1 h2 h3 h4 h5 u) sz) (fun v : StM => (wM cC cI cJ h0 h1 h2 h3 h4 h5 v))) (va_A (wM cC cI cJ h0 h1 h2 h3 h4 h5 u) sz)) 0 0 (va_A (wM cC cI cJ h0 h1 h2 h3 h4 h5 u) sz) := by
  refine Met.ofW (cc := cX6_bits_) (maxL := 2) (ret := (some .long)) (by decide) rfl ?_
  intro p e s m args below meth c s₁ B hml hv
  obtain ⟨rfl, hsz, hP, hK, hD0⟩ := hv
  have hx := B.exec
  have hb := B.bytes
  have hr := B.returns
  have hts : ∀ w ∈ wsX6_bits_, w.before ([.ref h0, .int a0] : List Value).toArray s = true := atoms_spec (ws := wsX6_bits_) B.pre
  have hown : s.vm.findClass RX6 = some m.cls := findClass_of_methodNamed B.named
  have hlk : meth.locks = false := B.notSynchronized
  subst hsz
  have hD := hD0.self (sz := s.heap.size)
  generalize hAe : va_A (wM cC cI cJ h0 h1 h2 h3 h4 h5 u) s.heap.size = A at hD ⊢
  have hA : ∀ q : Nat, s.heap.size ≤ q → A q := fun q h => by rw [← hAe]; exact Or.inr h
  have hS : va_S A s.heap s.heap [] := va_S.rf
  have hP : va_P D vwCl [(h0, .inr (5, [.ref h1, .ref h2, .ref h3, .int u.2.2.2.1, .ref h4, .ref h5, .int u.2.2.2.2.2.2.1, .int u.2.2.2.2.2.2.2])), (h1, .inl (cJ, 8, .inr (.inl u.1))), (h2, .inl (cI, 8, .inl u.2.1)), (h3, .inl (cJ, 8, .inr (.inl u.2.2.1))), (h4, .inl (cC, 40, .inl u.2.2.2.2.1)), (h5, .inl (cI, 40, .inl u.2.2.2.2.2.1))] s.heap := hP
  have hD : va_D A [(h0, .inr (5, [.ref h1, .ref h2, .ref h3, .int u.2.2.2.1, .ref h4, .ref h5, .int u.2.2.2.2.2.2.1, .int u.2.2.2.2.2.2.2])), (h1, .inl (cJ, 8, .inr (.inl u.1))), (h2, .inl (cI, 8, .inl u.2.1)), (h3, .inl (cJ, 8, .inr (.inl u.2.2.1))), (h4, .inl (cC, 40, .inl u.2.2.2.2.1)), (h5, .inl (cI, 40, .inl u.2.2.2.2.2.1))] := hD
  have q1 := hts (.fieldLink RX6 9 "DoublelineModel" "codes" "[J") (by decide +kernel)
  have q2 : ∀ w ∈ u_ws RX6 TX6 8, w ∈ wsX6_bits_ := by decide +kernel
  have hl := lv_entry ([.ref h0, .int a0]) (n := 2) (Nat.le_of_ble_eq_true rfl)
  rw [lg_entry_eq]
  generalize (lg_sl ([.ref h0, .int a0]) ++ List.replicate (2 - (lg_sl ([.ref h0, .int a0])).length) Slot.unset).toArray = ls at hl ⊢
  have hl : lv_has ls 2 [(0, .ref h0), (1, .int a0)] := hl
  unfold f_X6_bits_ at hf
  refine lv_aload_n hx hb dX6_bits__0 rfl (lv_at hl 0 rfl) ?_
  refine lv_iload_n hx hb dX6_bits__1 rfl (lv_at hl 1 rfl) ?_
  obtain ⟨z1, ez1, hf⟩ := ob_e hf
  refine my_callMi (As := [.int a0]) (n := 1) (rest := []) (wr := []) ⟨hx, hb, hml, hown, hts⟩ hK hP hD hS hA [0, 1, 2, 3, 4, 5] [] rfl rfl (by decide) (by decide) (by decide) (m_X6_lacks l D cC cI cJ h0 h1 h2 h3 h4 h5 u s.heap.size a0 _ ez1) gX6_bits__X6_lacks rfl ⟨rfl, rfl⟩ (ci := 5) rfl rfl (by decide +kernel) ⟨Nat.le_of_ble_eq_true rfl, Nat.le_of_ble_eq_true rfl⟩ ⟨Nat.le_of_ble_eq_true rfl, Nat.le_of_ble_eq_true rfl⟩ hl.1 rfl rfl (Nat.le_of_ble_eq_true rfl) dX6_bits__2 (fun r9 u9 H locs hw hP hD hS => ?_)
  obtain ⟨rfl, rfl⟩ := hw
  have hP : va_P D vwCl [(h0, .inr (5, [.ref h1, .ref h2, .ref h3, .int z1.2.2.2.2.1, .ref h4, .ref h5, .int z1.2.2.2.2.2.2.2.1, .int z1.2.2.2.2.2.2.2.2])), (h1, .inl (cJ, 8, .inr (.inl z1.2.1))), (h2, .inl (cI, 8, .inl z1.2.2.1)), (h3, .inl (cJ, 8, .inr (.inl z1.2.2.2.1))), (h4, .inl (cC, 40, .inl z1.2.2.2.2.2.1)), (h5, .inl (cI, 40, .inl z1.2.2.2.2.2.2.1))] H := hP.sub [0, 1, 2, 3, 4, 5] rfl
  have hD : va_D A [(h0, .inr (5, [.ref h1, .ref h2, .ref h3, .int z1.2.2.2.2.1, .ref h4, .ref h5, .int z1.2.2.2.2.2.2.2.1, .int z1.2.2.2.2.2.2.2.2])), (h1, .inl (cJ, 8, .inr (.inl z1.2.1))), (h2, .inl (cI, 8, .inl z1.2.2.1)), (h3, .inl (cJ, 8, .inr (.inl z1.2.2.2.1))), (h4, .inl (cC, 40, .inl z1.2.2.2.2.2.1)), (h5, .inl (cI, 40, .inl z1.2.2.2.2.2.2.1))] := hD.sub [0, 1, 2, 3, 4, 5] (by decide) rfl
  refine my_bz_eq (x := z1.1) (tgt := 10) hx hb dX6_bits__5 (by decide) (fun c2 => ?_) (fun c2 => ?_)
  · rw [if_pos c2] at hf
    refine lv_aload_n hx hb dX6_bits__10 rfl (lv_at hl 0 rfl) ?_
    refine va_get (D := D) (ci := 5) (v := .ref h1) (C := RX6) (T := TX6) (N := 8) hx hb hts q2 hown hK hP 0 rfl rfl 0 (by decide) q1 (fun _ h9 => h9) rfl dX6_bits__11 ?_
    refine lv_iload_n hx hb dX6_bits__14 rfl (lv_at hl 1 rfl) ?_
    obtain ⟨g3, hf⟩ := og_e hf
    refine va_lald hx hb hK hP 1 2 rfl rfl g3 dX6_bits__15 ?_
    refine my_callPl (As := [.long (z1.2.1 a0.toNatClampNeg)]) (n := 1) (rest := []) ⟨hx, hb, hml, hown, hts⟩ (m_X6_bitsOf l (z1.2.1 a0.toNatClampNeg) _ rfl) gX6_bits__X6_bitsOf rfl ⟨rfl, rfl⟩ (by decide +kernel) ⟨Nat.le_of_ble_eq_true rfl, Nat.le_of_ble_eq_true rfl⟩ ⟨Nat.le_of_ble_eq_true rfl, Nat.le_of_ble_eq_true rfl⟩ hl.1 rfl rfl (Nat.le_of_ble_eq_true rfl) dX6_bits__16 ?_
    have hP9 : va_P D vwCl (wM cC cI cJ h0 h1 h2 h3 h4 h5 z1.2) _ := hP
    have hD9 : va_D A (wM cC cI cJ h0 h1 h2 h3 h4 h5 z1.2) := hD
    have hf := Option.some.inj hf
    have hf1 := congrArg Prod.fst hf
    have hf2 := congrArg Prod.snd hf
    exact W.lret (v := (f_X6_bitsOf (z1.2.1 a0.toNatClampNeg))) hx hb hr (fun t ht hW => ⟨⟨(f_X6_bitsOf (z1.2.1 a0.toNatClampNeg)), z1.2, rfl, ⟨hf1, hf2⟩, by rw [ht]; exact hP9, va_K.moved hW.alike hK, hD9⟩, hS.F ht⟩) hS.2.2 dX6_bits__19
  · rw [if_neg c2] at hf
    refine lv_lconst (v := 0) hx hb dX6_bits__8 (by decide) ?_
    have hP9 : va_P D vwCl (wM cC cI cJ h0 h1 h2 h3 h4 h5 z1.2) _ := hP
    have hD9 : va_D A (wM cC cI cJ h0 h1 h2 h3 h4 h5 z1.2) := hD
    have hf := Option.some.inj hf
    have hf1 := congrArg Prod.fst hf
    have hf2 := congrArg Prod.snd hf
    exact W.lret (v := 0) hx hb hr (fun t ht hW => ⟨⟨0, z1.2, rfl, ⟨hf1, hf2⟩, by rw [ht]; exact hP9, va_K.moved hW.alike hK, hD9⟩, hS.F ht⟩) hS.2.2 dX6_bits__9

set_option maxHeartbeats 4000000 in
set_option maxRecDepth 100000 in
theorem m_X6_isEndless (l : Launch) (D : va_G) (cC cI cJ : ClassId) (h0 h1 h2 h3 h4 h5 : Nat) (u : StM) (sz : Nat) (a0 : Int32) (res : Bool × StM) (hf : f_X6_isEndless u a0 = some res) : Met l yX6_isEndless wsX6_isEndless rmX6_isEndless (my_PcM D vwCl (KT cC cI cJ) sz (wM cC cI cJ h0 h1 h2 h3 h4 h5 u) [.ref h0, .int a0]) (va_Qi (fun r v => r = b2i res.1 ∧ v = res.2) (my_B D vwCl (KT cC cI cJ) (va_A (wM cC cI cJ h0 h1 h2 h3 h4 h5 u) sz) (fun v : StM => (wM cC cI cJ h0 h1 h2 h3 h4 h5 v))) (va_A (wM cC cI cJ h0 h1 h2 h3 h4 h5 u) sz)) 0 0 (va_A (wM cC cI cJ h0 h1 h2 h3 h4 h5 u) sz) := by
  refine Met.ofW (cc := cX6_isEndless) (maxL := 2) (ret := (some .boolean)) (by decide) rfl ?_
  intro p e s m args below meth c s₁ B hml hv
  obtain ⟨rfl, hsz, hP, hK, hD0⟩ := hv
  have hx := B.exec
  have hb := B.bytes
  have hr := B.returns
  have hts : ∀ w ∈ wsX6_isEndless, w.before ([.ref h0, .int a0] : List Value).toArray s = true := atoms_spec (ws := wsX6_isEndless) B.pre
  have hown : s.vm.findClass RX6 = some m.cls := findClass_of_methodNamed B.named
  have hlk : meth.locks = false := B.notSynchronized
  subst hsz
  have hD := hD0.self (sz := s.heap.size)
  generalize hAe : va_A (wM cC cI cJ h0 h1 h2 h3 h4 h5 u) s.heap.size = A at hD ⊢
  have hA : ∀ q : Nat, s.heap.size ≤ q → A q := fun q h => by rw [← hAe]; exact Or.inr h
  have hS : va_S A s.heap s.heap [] := va_S.rf
  have hP : va_P D vwCl [(h0, .inr (5, [.ref h1, .ref h2, .ref h3, .int u.2.2.2.1, .ref h4, .ref h5, .int u.2.2.2.2.2.2.1, .int u.2.2.2.2.2.2.2])), (h1, .inl (cJ, 8, .inr (.inl u.1))), (h2, .inl (cI, 8, .inl u.2.1)), (h3, .inl (cJ, 8, .inr (.inl u.2.2.1))), (h4, .inl (cC, 40, .inl u.2.2.2.2.1)), (h5, .inl (cI, 40, .inl u.2.2.2.2.2.1))] s.heap := hP
  have hD : va_D A [(h0, .inr (5, [.ref h1, .ref h2, .ref h3, .int u.2.2.2.1, .ref h4, .ref h5, .int u.2.2.2.2.2.2.1, .int u.2.2.2.2.2.2.2])), (h1, .inl (cJ, 8, .inr (.inl u.1))), (h2, .inl (cI, 8, .inl u.2.1)), (h3, .inl (cJ, 8, .inr (.inl u.2.2.1))), (h4, .inl (cC, 40, .inl u.2.2.2.2.1)), (h5, .inl (cI, 40, .inl u.2.2.2.2.2.1))] := hD
  have q1 := hts (.fieldLink RX6 9 "DoublelineModel" "codes" "[J") (by decide +kernel)
  have q2 : ∀ w ∈ u_ws RX6 TX6 8, w ∈ wsX6_isEndless := by decide +kernel
  have hl := lv_entry ([.ref h0, .int a0]) (n := 2) (Nat.le_of_ble_eq_true rfl)
  rw [lg_entry_eq]
  generalize (lg_sl ([.ref h0, .int a0]) ++ List.replicate (2 - (lg_sl ([.ref h0, .int a0])).length) Slot.unset).toArray = ls at hl ⊢
  have hl : lv_has ls 2 [(0, .ref h0), (1, .int a0)] := hl
  unfold f_X6_isEndless at hf
  refine lv_aload_n hx hb dX6_isEndless_0 rfl (lv_at hl 0 rfl) ?_
  refine lv_iload_n hx hb dX6_isEndless_1 rfl (lv_at hl 1 rfl) ?_
  obtain ⟨z1, ez1, hf⟩ := ob_e hf
  refine my_callMi (As := [.int a0]) (n := 1) (rest := []) (wr := []) ⟨hx, hb, hml, hown, hts⟩ hK hP hD hS hA [0, 1, 2, 3, 4, 5] [] rfl rfl (by decide) (by decide) (by decide) (m_X6_lacks l D cC cI cJ h0 h1 h2 h3 h4 h5 u s.heap.size a0 _ ez1) gX6_isEndless_X6_lacks rfl ⟨rfl, rfl⟩ (ci := 5) rfl rfl (by decide +kernel) ⟨Nat.le_of_ble_eq_true rfl, Nat.le_of_ble_eq_true rfl⟩ ⟨Nat.le_of_ble_eq_true rfl, Nat.le_of_ble_eq_true rfl⟩ hl.1 rfl rfl (Nat.le_of_ble_eq_true rfl) dX6_isEndless_2 (fun r9 u9 H locs hw hP hD hS => ?_)
  obtain ⟨rfl, rfl⟩ := hw
  have hP : va_P D vwCl [(h0, .inr (5, [.ref h1, .ref h2, .ref h3, .int z1.2.2.2.2.1, .ref h4, .ref h5, .int z1.2.2.2.2.2.2.2.1, .int z1.2.2.2.2.2.2.2.2])), (h1, .inl (cJ, 8, .inr (.inl z1.2.1))), (h2, .inl (cI, 8, .inl z1.2.2.1)), (h3, .inl (cJ, 8, .inr (.inl z1.2.2.2.1))), (h4, .inl (cC, 40, .inl z1.2.2.2.2.2.1)), (h5, .inl (cI, 40, .inl z1.2.2.2.2.2.2.1))] H := hP.sub [0, 1, 2, 3, 4, 5] rfl
  have hD : va_D A [(h0, .inr (5, [.ref h1, .ref h2, .ref h3, .int z1.2.2.2.2.1, .ref h4, .ref h5, .int z1.2.2.2.2.2.2.2.1, .int z1.2.2.2.2.2.2.2.2])), (h1, .inl (cJ, 8, .inr (.inl z1.2.1))), (h2, .inl (cI, 8, .inl z1.2.2.1)), (h3, .inl (cJ, 8, .inr (.inl z1.2.2.2.1))), (h4, .inl (cC, 40, .inl z1.2.2.2.2.2.1)), (h5, .inl (cI, 40, .inl z1.2.2.2.2.2.2.1))] := hD.sub [0, 1, 2, 3, 4, 5] (by decide) rfl
  refine my_bz_eq (x := z1.1) (tgt := 10) hx hb dX6_isEndless_5 (by decide) (fun c2 => ?_) (fun c2 => ?_)
  · rw [if_pos c2] at hf
    refine lv_aload_n hx hb dX6_isEndless_10 rfl (lv_at hl 0 rfl) ?_
    refine va_get (D := D) (ci := 5) (v := .ref h1) (C := RX6) (T := TX6) (N := 8) hx hb hts q2 hown hK hP 0 rfl rfl 0 (by decide) q1 (fun _ h9 => h9) rfl dX6_isEndless_11 ?_
    refine lv_iload_n hx hb dX6_isEndless_14 rfl (lv_at hl 1 rfl) ?_
    obtain ⟨g3, hf⟩ := og_e hf
    refine va_lald hx hb hK hP 1 2 rfl rfl g3 dX6_isEndless_15 ?_
    refine my_callPi (As := [.long (z1.2.1 a0.toNatClampNeg)]) (n := 1) (rest := []) ⟨hx, hb, hml, hown, hts⟩ (m_X6_isEnd l (z1.2.1 a0.toNatClampNeg) _ rfl) gX6_isEndless_X6_isEnd rfl ⟨rfl, rfl⟩ (by decide +kernel) ⟨Nat.le_of_ble_eq_true rfl, Nat.le_of_ble_eq_true rfl⟩ ⟨Nat.le_of_ble_eq_true rfl, Nat.le_of_ble_eq_true rfl⟩ hl.1 rfl rfl (Nat.le_of_ble_eq_true rfl) dX6_isEndless_16 ?_
    have hP9 : va_P D vwCl (wM cC cI cJ h0 h1 h2 h3 h4 h5 z1.2) _ := hP
    have hD9 : va_D A (wM cC cI cJ h0 h1 h2 h3 h4 h5 z1.2) := hD
    have hf := Option.some.inj hf
    have hf1 := congrArg (fun z => b2i z.1) hf
    have hf2 := congrArg Prod.snd hf
    exact W.zret (v := b2i (f_X6_isEnd (z1.2.1 a0.toNatClampNeg))) (ty := .boolean) hx hb hr (b2i_nar _) (fun t ht hW => ⟨⟨b2i (f_X6_isEnd (z1.2.1 a0.toNatClampNeg)), z1.2, rfl, ⟨hf1, hf2⟩, by rw [ht]; exact hP9, va_K.moved hW.alike hK, hD9⟩, hS.F ht⟩) hS.2.2 dX6_isEndless_19
  · rw [if_neg c2] at hf
    refine lv_iconst (v := 0) hx hb dX6_isEndless_8 (by decide) ?_
    have hP9 : va_P D vwCl (wM cC cI cJ h0 h1 h2 h3 h4 h5 z1.2) _ := hP
    have hD9 : va_D A (wM cC cI cJ h0 h1 h2 h3 h4 h5 z1.2) := hD
    have hf := Option.some.inj hf
    have hf1 := congrArg (fun z => b2i z.1) hf
    have hf2 := congrArg Prod.snd hf
    exact W.zret (v := b2i false) (ty := .boolean) hx hb hr (b2i_nar _) (fun t ht hW => ⟨⟨b2i false, z1.2, rfl, ⟨hf1, hf2⟩, by rw [ht]; exact hP9, va_K.moved hW.alike hK, hD9⟩, hS.F ht⟩) hS.2.2 dX6_isEndless_9

set_option maxHeartbeats 4000000 in
set_option maxRecDepth 100000 in
theorem m_X6_isWhole (l : Launch) (D : va_G) (cC cI cJ : ClassId) (h0 h1 h2 h3 h4 h5 : Nat) (u : StM) (sz : Nat) (a0 : Int32) (res : Bool × StM) (hf : f_X6_isWhole u a0 = some res) : Met l yX6_isWhole wsX6_isWhole rmX6_isWhole (my_PcM D vwCl (KT cC cI cJ) sz (wM cC cI cJ h0 h1 h2 h3 h4 h5 u) [.ref h0, .int a0]) (va_Qi (fun r v => r = b2i res.1 ∧ v = res.2) (my_B D vwCl (KT cC cI cJ) (va_A (wM cC cI cJ h0 h1 h2 h3 h4 h5 u) sz) (fun v : StM => (wM cC cI cJ h0 h1 h2 h3 h4 h5 v))) (va_A (wM cC cI cJ h0 h1 h2 h3 h4 h5 u) sz)) 0 0 (va_A (wM cC cI cJ h0 h1 h2 h3 h4 h5 u) sz) := by
  refine Met.ofW (cc := cX6_isWhole) (maxL := 4) (ret := (some .boolean)) (by decide) rfl ?_
  intro p e s m args below meth c s₁ B hml hv
  obtain ⟨rfl, hsz, hP, hK, hD0⟩ := hv
  have hx := B.exec
  have hb := B.bytes
  have hr := B.returns
  have hts : ∀ w ∈ wsX6_isWhole, w.before ([.ref h0, .int a0] : List Value).toArray s = true := atoms_spec (ws := wsX6_isWhole) B.pre
  have hown : s.vm.findClass RX6 = some m.cls := findClass_of_methodNamed B.named
  have hlk : meth.locks = false := B.notSynchronized
  subst hsz
  have hD := hD0.self (sz := s.heap.size)
  generalize hAe : va_A (wM cC cI cJ h0 h1 h2 h3 h4 h5 u) s.heap.size = A at hD ⊢
  have hA : ∀ q : Nat, s.heap.size ≤ q → A q := fun q h => by rw [← hAe]; exact Or.inr h
  have hS : va_S A s.heap s.heap [] := va_S.rf
  have hP : va_P D vwCl [(h0, .inr (5, [.ref h1, .ref h2, .ref h3, .int u.2.2.2.1, .ref h4, .ref h5, .int u.2.2.2.2.2.2.1, .int u.2.2.2.2.2.2.2])), (h1, .inl (cJ, 8, .inr (.inl u.1))), (h2, .inl (cI, 8, .inl u.2.1)), (h3, .inl (cJ, 8, .inr (.inl u.2.2.1))), (h4, .inl (cC, 40, .inl u.2.2.2.2.1)), (h5, .inl (cI, 40, .inl u.2.2.2.2.2.1))] s.heap := hP
  have hD : va_D A [(h0, .inr (5, [.ref h1, .ref h2, .ref h3, .int u.2.2.2.1, .ref h4, .ref h5, .int u.2.2.2.2.2.2.1, .int u.2.2.2.2.2.2.2])), (h1, .inl (cJ, 8, .inr (.inl u.1))), (h2, .inl (cI, 8, .inl u.2.1)), (h3, .inl (cJ, 8, .inr (.inl u.2.2.1))), (h4, .inl (cC, 40, .inl u.2.2.2.2.1)), (h5, .inl (cI, 40, .inl u.2.2.2.2.2.1))] := hD
  have q1 := hts (.fieldLink RX6 9 "DoublelineModel" "codes" "[J") (by decide +kernel)
  have q2 : ∀ w ∈ u_ws RX6 TX6 8, w ∈ wsX6_isWhole := by decide +kernel
  have q3 := hts (.constantLong RX6 49 (9218868437227405312)) (by decide +kernel)
  have hl := lv_entry ([.ref h0, .int a0]) (n := 4) (Nat.le_of_ble_eq_true rfl)
  rw [lg_entry_eq]
  generalize (lg_sl ([.ref h0, .int a0]) ++ List.replicate (4 - (lg_sl ([.ref h0, .int a0])).length) Slot.unset).toArray = ls at hl ⊢
  have hl : lv_has ls 4 [(0, .ref h0), (1, .int a0)] := hl
  unfold f_X6_isWhole at hf
  refine lv_aload_n hx hb dX6_isWhole_0 rfl (lv_at hl 0 rfl) ?_
  refine lv_iload_n hx hb dX6_isWhole_1 rfl (lv_at hl 1 rfl) ?_
  obtain ⟨z1, ez1, hf⟩ := ob_e hf
  refine my_callMi (As := [.int a0]) (n := 1) (rest := []) (wr := []) ⟨hx, hb, hml, hown, hts⟩ hK hP hD hS hA [0, 1, 2, 3, 4, 5] [] rfl rfl (by decide) (by decide) (by decide) (m_X6_lacks l D cC cI cJ h0 h1 h2 h3 h4 h5 u s.heap.size a0 _ ez1) gX6_isWhole_X6_lacks rfl ⟨rfl, rfl⟩ (ci := 5) rfl rfl (by decide +kernel) ⟨Nat.le_of_ble_eq_true rfl, Nat.le_of_ble_eq_true rfl⟩ ⟨Nat.le_of_ble_eq_true rfl, Nat.le_of_ble_eq_true rfl⟩ hl.1 rfl rfl (Nat.le_of_ble_eq_true rfl) dX6_isWhole_2 (fun r9 u9 H locs hw hP hD hS => ?_)
  obtain ⟨rfl, rfl⟩ := hw
  have hP : va_P D vwCl [(h0, .inr (5, [.ref h1, .ref h2, .ref h3, .int z1.2.2.2.2.1, .ref h4, .ref h5, .int z1.2.2.2.2.2.2.2.1, .int z1.2.2.2.2.2.2.2.2])), (h1, .inl (cJ, 8, .inr (.inl z1.2.1))), (h2, .inl (cI, 8, .inl z1.2.2.1)), (h3, .inl (cJ, 8, .inr (.inl z1.2.2.2.1))), (h4, .inl (cC, 40, .inl z1.2.2.2.2.2.1)), (h5, .inl (cI, 40, .inl z1.2.2.2.2.2.2.1))] H := hP.sub [0, 1, 2, 3, 4, 5] rfl
  have hD : va_D A [(h0, .inr (5, [.ref h1, .ref h2, .ref h3, .int z1.2.2.2.2.1, .ref h4, .ref h5, .int z1.2.2.2.2.2.2.2.1, .int z1.2.2.2.2.2.2.2.2])), (h1, .inl (cJ, 8, .inr (.inl z1.2.1))), (h2, .inl (cI, 8, .inl z1.2.2.1)), (h3, .inl (cJ, 8, .inr (.inl z1.2.2.2.1))), (h4, .inl (cC, 40, .inl z1.2.2.2.2.2.1)), (h5, .inl (cI, 40, .inl z1.2.2.2.2.2.2.1))] := hD.sub [0, 1, 2, 3, 4, 5] (by decide) rfl
  refine my_bz_eq (x := z1.1) (tgt := 10) hx hb dX6_isWhole_5 (by decide) (fun c2 => ?_) (fun c2 => ?_)
  · rw [if_pos c2] at hf
    refine lv_aload_n hx hb dX6_isWhole_10 rfl (lv_at hl 0 rfl) ?_
    refine va_get (D := D) (ci := 5) (v := .ref h1) (C := RX6) (T := TX6) (N := 8) hx hb hts q2 hown hK hP 0 rfl rfl 0 (by decide) q1 (fun _ h9 => h9) rfl dX6_isWhole_11 ?_
    refine lv_iload_n hx hb dX6_isWhole_14 rfl (lv_at hl 1 rfl) ?_
    obtain ⟨g3, hf⟩ := og_e hf
    refine va_lald hx hb hK hP 1 2 rfl rfl g3 dX6_isWhole_15 ?_
    refine my_callPl (As := [.long (z1.2.1 a0.toNatClampNeg)]) (n := 1) (rest := []) ⟨hx, hb, hml, hown, hts⟩ (m_X6_size l (z1.2.1 a0.toNatClampNeg) _ rfl) gX6_isWhole_X6_size rfl ⟨rfl, rfl⟩ (by decide +kernel) ⟨Nat.le_of_ble_eq_true rfl, Nat.le_of_ble_eq_true rfl⟩ ⟨Nat.le_of_ble_eq_true rfl, Nat.le_of_ble_eq_true rfl⟩ hl.1 rfl rfl (Nat.le_of_ble_eq_true rfl) dX6_isWhole_16 ?_
    refine lv_lstore_n (lv' := [(2, .long (f_X6_size (z1.2.1 a0.toNatClampNeg))), (0, .ref h0), (1, .int a0)]) hx hb dX6_isWhole_19 rfl hl (by decide) rfl (fun ls hl => ?_)
    refine lv_lload_n hx hb dX6_isWhole_20 rfl (lv_at hl 0 rfl) ?_
    refine lv_lconst (v := 0) hx hb dX6_isWhole_21 (by decide) ?_
    refine my_lc_eq (tgt := 41) hx hb dX6_isWhole_22 dX6_isWhole_23 (by decide) (fun c4 => ?_) (fun c4 => ?_)
    · rw [if_pos c4] at hf
      refine lv_iconst (v := 1) hx hb dX6_isWhole_41 (by decide) ?_
      refine lv_goto (tgt := 46) hx hb dX6_isWhole_42 (by decide) ?_
      have hP9 : va_P D vwCl (wM cC cI cJ h0 h1 h2 h3 h4 h5 z1.2) _ := hP
      have hD9 : va_D A (wM cC cI cJ h0 h1 h2 h3 h4 h5 z1.2) := hD
      have hf := Option.some.inj hf
      have hf1 := congrArg (fun z => b2i z.1) hf
      have hf2 := congrArg Prod.snd hf
      exact W.zret (v := b2i true) (ty := .boolean) hx hb hr (b2i_nar _) (fun t ht hW => ⟨⟨b2i true, z1.2, rfl, ⟨hf1, hf2⟩, by rw [ht]; exact hP9, va_K.moved hW.alike hK, hD9⟩, hS.F ht⟩) hS.2.2 dX6_isWhole_46
    · rw [if_neg c4] at hf
      refine lv_lload_n hx hb dX6_isWhole_26 rfl (lv_at hl 0 rfl) ?_
      refine lv_ldc2 (v := 9218868437227405312) hx hb hown q3 dX6_isWhole_27 ?_
      refine my_lc_eq (tgt := 45) hx hb dX6_isWhole_30 dX6_isWhole_31 (by decide) (fun c5 => ?_) (fun c5 => ?_)
      · rw [if_pos c5] at hf
        refine lv_iconst (v := 0) hx hb dX6_isWhole_45 (by decide) ?_
        have hP9 : va_P D vwCl (wM cC cI cJ h0 h1 h2 h3 h4 h5 z1.2) _ := hP
        have hD9 : va_D A (wM cC cI cJ h0 h1 h2 h3 h4 h5 z1.2) := hD
        have hf := Option.some.inj hf
        have hf1 := congrArg (fun z => b2i z.1) hf
        have hf2 := congrArg Prod.snd hf
        exact W.zret (v := b2i false) (ty := .boolean) hx hb hr (b2i_nar _) (fun t ht hW => ⟨⟨b2i false, z1.2, rfl, ⟨hf1, hf2⟩, by rw [ht]; exact hP9, va_K.moved hW.alike hK, hD9⟩, hS.F ht⟩) hS.2.2 dX6_isWhole_46
      · rw [if_neg c5] at hf
        refine lv_lload_n hx hb dX6_isWhole_34 rfl (lv_at hl 0 rfl) ?_
        obtain ⟨r6, er6, hf⟩ := ob_e hf
        refine my_callPi (As := [.long (f_X6_size (z1.2.1 a0.toNatClampNeg))]) (n := 1) (rest := []) ⟨hx, hb, hml, hown, hts⟩ (m_X6_tailOf l (f_X6_size (z1.2.1 a0.toNatClampNeg)) _ er6) gX6_isWhole_X6_tailOf rfl ⟨rfl, rfl⟩ (by decide +kernel) ⟨Nat.le_of_ble_eq_true rfl, Nat.le_of_ble_eq_true rfl⟩ ⟨Nat.le_of_ble_eq_true rfl, Nat.le_of_ble_eq_true rfl⟩ hl.1 rfl rfl (Nat.le_of_ble_eq_true rfl) dX6_isWhole_35 ?_
        refine my_if_lt (tgt := 45) hx hb dX6_isWhole_38 (by decide) (fun c7 => ?_) (fun c7 => ?_)
        · rw [if_pos c7] at hf
          refine lv_iconst (v := 0) hx hb dX6_isWhole_45 (by decide) ?_
          have hP9 : va_P D vwCl (wM cC cI cJ h0 h1 h2 h3 h4 h5 z1.2) _ := hP
          have hD9 : va_D A (wM cC cI cJ h0 h1 h2 h3 h4 h5 z1.2) := hD
          have hf := Option.some.inj hf
          have hf1 := congrArg (fun z => b2i z.1) hf
          have hf2 := congrArg Prod.snd hf
          exact W.zret (v := b2i false) (ty := .boolean) hx hb hr (b2i_nar _) (fun t ht hW => ⟨⟨b2i false, z1.2, rfl, ⟨hf1, hf2⟩, by rw [ht]; exact hP9, va_K.moved hW.alike hK, hD9⟩, hS.F ht⟩) hS.2.2 dX6_isWhole_46
        · rw [if_neg c7] at hf
          refine lv_iconst (v := 1) hx hb dX6_isWhole_41 (by decide) ?_
          refine lv_goto (tgt := 46) hx hb dX6_isWhole_42 (by decide) ?_
          have hP9 : va_P D vwCl (wM cC cI cJ h0 h1 h2 h3 h4 h5 z1.2) _ := hP
          have hD9 : va_D A (wM cC cI cJ h0 h1 h2 h3 h4 h5 z1.2) := hD
          have hf := Option.some.inj hf
          have hf1 := congrArg (fun z => b2i z.1) hf
          have hf2 := congrArg Prod.snd hf
          exact W.zret (v := b2i true) (ty := .boolean) hx hb hr (b2i_nar _) (fun t ht hW => ⟨⟨b2i true, z1.2, rfl, ⟨hf1, hf2⟩, by rw [ht]; exact hP9, va_K.moved hW.alike hK, hD9⟩, hS.F ht⟩) hS.2.2 dX6_isWhole_46
  · rw [if_neg c2] at hf
    refine lv_iconst (v := 0) hx hb dX6_isWhole_8 (by decide) ?_
    have hP9 : va_P D vwCl (wM cC cI cJ h0 h1 h2 h3 h4 h5 z1.2) _ := hP
    have hD9 : va_D A (wM cC cI cJ h0 h1 h2 h3 h4 h5 z1.2) := hD
    have hf := Option.some.inj hf
    have hf1 := congrArg (fun z => b2i z.1) hf
    have hf2 := congrArg Prod.snd hf
    exact W.zret (v := b2i false) (ty := .boolean) hx hb hr (b2i_nar _) (fun t ht hW => ⟨⟨b2i false, z1.2, rfl, ⟨hf1, hf2⟩, by rw [ht]; exact hP9, va_K.moved hW.alike hK, hD9⟩, hS.F ht⟩) hS.2.2 dX6_isWhole_9

set_option maxHeartbeats 4000000 in
set_option maxRecDepth 100000 in
theorem m_X6_isSmall (l : Launch) (D : va_G) (cC cI cJ : ClassId) (h0 h1 h2 h3 h4 h5 : Nat) (u : StM) (sz : Nat) (a0 : Int32) (res : Bool × StM) (hf : f_X6_isSmall u a0 = some res) : Met l yX6_isSmall wsX6_isSmall rmX6_isSmall (my_PcM D vwCl (KT cC cI cJ) sz (wM cC cI cJ h0 h1 h2 h3 h4 h5 u) [.ref h0, .int a0]) (va_Qi (fun r v => r = b2i res.1 ∧ v = res.2) (my_B D vwCl (KT cC cI cJ) (va_A (wM cC cI cJ h0 h1 h2 h3 h4 h5 u) sz) (fun v : StM => (wM cC cI cJ h0 h1 h2 h3 h4 h5 v))) (va_A (wM cC cI cJ h0 h1 h2 h3 h4 h5 u) sz)) 0 0 (va_A (wM cC cI cJ h0 h1 h2 h3 h4 h5 u) sz) := by
  refine Met.ofW (cc := cX6_isSmall) (maxL := 2) (ret := (some .boolean)) (by decide) rfl ?_
  intro p e s m args below meth c s₁ B hml hv
  obtain ⟨rfl, hsz, hP, hK, hD0⟩ := hv
  have hx := B.exec
  have hb := B.bytes
  have hr := B.returns
  have hts : ∀ w ∈ wsX6_isSmall, w.before ([.ref h0, .int a0] : List Value).toArray s = true := atoms_spec (ws := wsX6_isSmall) B.pre
  have hown : s.vm.findClass RX6 = some m.cls := findClass_of_methodNamed B.named
  have hlk : meth.locks = false := B.notSynchronized
  subst hsz
  have hD := hD0.self (sz := s.heap.size)
  generalize hAe : va_A (wM cC cI cJ h0 h1 h2 h3 h4 h5 u) s.heap.size = A at hD ⊢
  have hA : ∀ q : Nat, s.heap.size ≤ q → A q := fun q h => by rw [← hAe]; exact Or.inr h
  have hS : va_S A s.heap s.heap [] := va_S.rf
  have hP : va_P D vwCl [(h0, .inr (5, [.ref h1, .ref h2, .ref h3, .int u.2.2.2.1, .ref h4, .ref h5, .int u.2.2.2.2.2.2.1, .int u.2.2.2.2.2.2.2])), (h1, .inl (cJ, 8, .inr (.inl u.1))), (h2, .inl (cI, 8, .inl u.2.1)), (h3, .inl (cJ, 8, .inr (.inl u.2.2.1))), (h4, .inl (cC, 40, .inl u.2.2.2.2.1)), (h5, .inl (cI, 40, .inl u.2.2.2.2.2.1))] s.heap := hP
  have hD : va_D A [(h0, .inr (5, [.ref h1, .ref h2, .ref h3, .int u.2.2.2.1, .ref h4, .ref h5, .int u.2.2.2.2.2.2.1, .int u.2.2.2.2.2.2.2])), (h1, .inl (cJ, 8, .inr (.inl u.1))), (h2, .inl (cI, 8, .inl u.2.1)), (h3, .inl (cJ, 8, .inr (.inl u.2.2.1))), (h4, .inl (cC, 40, .inl u.2.2.2.2.1)), (h5, .inl (cI, 40, .inl u.2.2.2.2.2.1))] := hD
  have q1 := hts (.fieldLink RX6 9 "DoublelineModel" "codes" "[J") (by decide +kernel)
  have q2 : ∀ w ∈ u_ws RX6 TX6 8, w ∈ wsX6_isSmall := by decide +kernel
  have hl := lv_entry ([.ref h0, .int a0]) (n := 2) (Nat.le_of_ble_eq_true rfl)
  rw [lg_entry_eq]
  generalize (lg_sl ([.ref h0, .int a0]) ++ List.replicate (2 - (lg_sl ([.ref h0, .int a0])).length) Slot.unset).toArray = ls at hl ⊢
  have hl : lv_has ls 2 [(0, .ref h0), (1, .int a0)] := hl
  unfold f_X6_isSmall at hf
  refine lv_aload_n hx hb dX6_isSmall_0 rfl (lv_at hl 0 rfl) ?_
  refine lv_iload_n hx hb dX6_isSmall_1 rfl (lv_at hl 1 rfl) ?_
  obtain ⟨z1, ez1, hf⟩ := ob_e hf
  refine my_callMi (As := [.int a0]) (n := 1) (rest := []) (wr := []) ⟨hx, hb, hml, hown, hts⟩ hK hP hD hS hA [0, 1, 2, 3, 4, 5] [] rfl rfl (by decide) (by decide) (by decide) (m_X6_lacks l D cC cI cJ h0 h1 h2 h3 h4 h5 u s.heap.size a0 _ ez1) gX6_isSmall_X6_lacks rfl ⟨rfl, rfl⟩ (ci := 5) rfl rfl (by decide +kernel) ⟨Nat.le_of_ble_eq_true rfl, Nat.le_of_ble_eq_true rfl⟩ ⟨Nat.le_of_ble_eq_true rfl, Nat.le_of_ble_eq_true rfl⟩ hl.1 rfl rfl (Nat.le_of_ble_eq_true rfl) dX6_isSmall_2 (fun r9 u9 H locs hw hP hD hS => ?_)
  obtain ⟨rfl, rfl⟩ := hw
  have hP : va_P D vwCl [(h0, .inr (5, [.ref h1, .ref h2, .ref h3, .int z1.2.2.2.2.1, .ref h4, .ref h5, .int z1.2.2.2.2.2.2.2.1, .int z1.2.2.2.2.2.2.2.2])), (h1, .inl (cJ, 8, .inr (.inl z1.2.1))), (h2, .inl (cI, 8, .inl z1.2.2.1)), (h3, .inl (cJ, 8, .inr (.inl z1.2.2.2.1))), (h4, .inl (cC, 40, .inl z1.2.2.2.2.2.1)), (h5, .inl (cI, 40, .inl z1.2.2.2.2.2.2.1))] H := hP.sub [0, 1, 2, 3, 4, 5] rfl
  have hD : va_D A [(h0, .inr (5, [.ref h1, .ref h2, .ref h3, .int z1.2.2.2.2.1, .ref h4, .ref h5, .int z1.2.2.2.2.2.2.2.1, .int z1.2.2.2.2.2.2.2.2])), (h1, .inl (cJ, 8, .inr (.inl z1.2.1))), (h2, .inl (cI, 8, .inl z1.2.2.1)), (h3, .inl (cJ, 8, .inr (.inl z1.2.2.2.1))), (h4, .inl (cC, 40, .inl z1.2.2.2.2.2.1)), (h5, .inl (cI, 40, .inl z1.2.2.2.2.2.2.1))] := hD.sub [0, 1, 2, 3, 4, 5] (by decide) rfl
  refine my_bz_eq (x := z1.1) (tgt := 10) hx hb dX6_isSmall_5 (by decide) (fun c2 => ?_) (fun c2 => ?_)
  · rw [if_pos c2] at hf
    refine lv_aload_n hx hb dX6_isSmall_10 rfl (lv_at hl 0 rfl) ?_
    refine va_get (D := D) (ci := 5) (v := .ref h1) (C := RX6) (T := TX6) (N := 8) hx hb hts q2 hown hK hP 0 rfl rfl 0 (by decide) q1 (fun _ h9 => h9) rfl dX6_isSmall_11 ?_
    refine lv_iload_n hx hb dX6_isSmall_14 rfl (lv_at hl 1 rfl) ?_
    obtain ⟨g3, hf⟩ := og_e hf
    refine va_lald hx hb hK hP 1 2 rfl rfl g3 dX6_isSmall_15 ?_
    refine my_callPi (As := [.long (z1.2.1 a0.toNatClampNeg)]) (n := 1) (rest := []) ⟨hx, hb, hml, hown, hts⟩ (m_X6_isLittle l (z1.2.1 a0.toNatClampNeg) _ rfl) gX6_isSmall_X6_isLittle rfl ⟨rfl, rfl⟩ (by decide +kernel) ⟨Nat.le_of_ble_eq_true rfl, Nat.le_of_ble_eq_true rfl⟩ ⟨Nat.le_of_ble_eq_true rfl, Nat.le_of_ble_eq_true rfl⟩ hl.1 rfl rfl (Nat.le_of_ble_eq_true rfl) dX6_isSmall_16 ?_
    have hP9 : va_P D vwCl (wM cC cI cJ h0 h1 h2 h3 h4 h5 z1.2) _ := hP
    have hD9 : va_D A (wM cC cI cJ h0 h1 h2 h3 h4 h5 z1.2) := hD
    have hf := Option.some.inj hf
    have hf1 := congrArg (fun z => b2i z.1) hf
    have hf2 := congrArg Prod.snd hf
    exact W.zret (v := b2i (f_X6_isLittle (z1.2.1 a0.toNatClampNeg))) (ty := .boolean) hx hb hr (b2i_nar _) (fun t ht hW => ⟨⟨b2i (f_X6_isLittle (z1.2.1 a0.toNatClampNeg)), z1.2, rfl, ⟨hf1, hf2⟩, by rw [ht]; exact hP9, va_K.moved hW.alike hK, hD9⟩, hS.F ht⟩) hS.2.2 dX6_isSmall_19
  · rw [if_neg c2] at hf
    refine lv_iconst (v := 0) hx hb dX6_isSmall_8 (by decide) ?_
    have hP9 : va_P D vwCl (wM cC cI cJ h0 h1 h2 h3 h4 h5 z1.2) _ := hP
    have hD9 : va_D A (wM cC cI cJ h0 h1 h2 h3 h4 h5 z1.2) := hD
    have hf := Option.some.inj hf
    have hf1 := congrArg (fun z => b2i z.1) hf
    have hf2 := congrArg Prod.snd hf
    exact W.zret (v := b2i false) (ty := .boolean) hx hb hr (b2i_nar _) (fun t ht hW => ⟨⟨b2i false, z1.2, rfl, ⟨hf1, hf2⟩, by rw [ht]; exact hP9, va_K.moved hW.alike hK, hD9⟩, hS.F ht⟩) hS.2.2 dX6_isSmall_9

set_option maxHeartbeats 4000000 in
set_option maxRecDepth 100000 in
theorem m_X6_steps (l : Launch) (D : va_G) (cC cI cJ : ClassId) (h0 h1 h2 h3 h4 h5 : Nat) (u : StM) (sz : Nat) (a0 : Int32) (a1 : Int32) (a2 : Int32) (a3 : Int64) (res : Int32 × StM) (hf : f_X6_steps u a0 a1 a2 a3 = some res) : Met l yX6_steps wsX6_steps rmX6_steps (my_PcM D vwCl (KT cC cI cJ) sz (wM cC cI cJ h0 h1 h2 h3 h4 h5 u) [.ref h0, .int a0, .int a1, .int a2, .long a3]) (va_Qi (fun r v => r = res.1 ∧ v = res.2) (my_B D vwCl (KT cC cI cJ) (va_A (wM cC cI cJ h0 h1 h2 h3 h4 h5 u) sz) (fun v : StM => (wM cC cI cJ h0 h1 h2 h3 h4 h5 v))) (va_A (wM cC cI cJ h0 h1 h2 h3 h4 h5 u) sz)) 0 0 (va_A (wM cC cI cJ h0 h1 h2 h3 h4 h5 u) sz) := by
  refine Met.ofW (cc := cX6_steps) (maxL := 12) (ret := (some .int)) (by decide) rfl ?_
  intro p e s m args below meth c s₁ B hml hv
  obtain ⟨rfl, hsz, hP, hK, hD0⟩ := hv
  have hx := B.exec
  have hb := B.bytes
  have hr := B.returns
  have hts : ∀ w ∈ wsX6_steps, w.before ([.ref h0, .int a0, .int a1, .int a2, .long a3] : List Value).toArray s = true := atoms_spec (ws := wsX6_steps) B.pre
  have hown : s.vm.findClass RX6 = some m.cls := findClass_of_methodNamed B.named
  have hlk : meth.locks = false := B.notSynchronized
  subst hsz
  have hD := hD0.self (sz := s.heap.size)
  generalize hAe : va_A (wM cC cI cJ h0 h1 h2 h3 h4 h5 u) s.heap.size = A at hD ⊢
  have hA : ∀ q : Nat, s.heap.size ≤ q → A q := fun q h => by rw [← hAe]; exact Or.inr h
  have hS : va_S A s.heap s.heap [] := va_S.rf
  have hP : va_P D vwCl [(h0, .inr (5, [.ref h1, .ref h2, .ref h3, .int u.2.2.2.1, .ref h4, .ref h5, .int u.2.2.2.2.2.2.1, .int u.2.2.2.2.2.2.2])), (h1, .inl (cJ, 8, .inr (.inl u.1))), (h2, .inl (cI, 8, .inl u.2.1)), (h3, .inl (cJ, 8, .inr (.inl u.2.2.1))), (h4, .inl (cC, 40, .inl u.2.2.2.2.1)), (h5, .inl (cI, 40, .inl u.2.2.2.2.2.1))] s.heap := hP
  have hD : va_D A [(h0, .inr (5, [.ref h1, .ref h2, .ref h3, .int u.2.2.2.1, .ref h4, .ref h5, .int u.2.2.2.2.2.2.1, .int u.2.2.2.2.2.2.2])), (h1, .inl (cJ, 8, .inr (.inl u.1))), (h2, .inl (cI, 8, .inl u.2.1)), (h3, .inl (cJ, 8, .inr (.inl u.2.2.1))), (h4, .inl (cC, 40, .inl u.2.2.2.2.1)), (h5, .inl (cI, 40, .inl u.2.2.2.2.2.1))] := hD
  have q1 := hts (.fieldLink RX6 9 "DoublelineModel" "codes" "[J") (by decide +kernel)
  have q2 : ∀ w ∈ u_ws RX6 TX6 8, w ∈ wsX6_steps := by decide +kernel
  have hl := lv_entry ([.ref h0, .int a0, .int a1, .int a2, .long a3]) (n := 12) (Nat.le_of_ble_eq_true rfl)
  rw [lg_entry_eq]
  generalize (lg_sl ([.ref h0, .int a0, .int a1, .int a2, .long a3]) ++ List.replicate (12 - (lg_sl ([.ref h0, .int a0, .int a1, .int a2, .long a3])).length) Slot.unset).toArray = ls at hl ⊢
  have hl : lv_has ls 12 [(0, .ref h0), (1, .int a0), (2, .int a1), (3, .int a2), (4, .long a3)] := hl
  unfold f_X6_steps at hf
  refine lv_aload_n hx hb dX6_steps_0 rfl (lv_at hl 0 rfl) ?_
  refine va_get (D := D) (ci := 5) (v := .ref h1) (C := RX6) (T := TX6) (N := 8) hx hb hts q2 hown hK hP 0 rfl rfl 0 (by decide) q1 (fun _ h9 => h9) rfl dX6_steps_1 ?_
  refine lv_iload_n hx hb dX6_steps_4 rfl (lv_at hl 1 rfl) ?_
  obtain ⟨g1, hf⟩ := og_e hf
  refine va_lald hx hb hK hP 1 2 rfl rfl g1 dX6_steps_5 ?_
  refine lv_lstore (lv' := [(6, .long (u.1 a0.toNatClampNeg)), (0, .ref h0), (1, .int a0), (2, .int a1), (3, .int a2), (4, .long a3)]) hx hb dX6_steps_6 hl (by decide) rfl (fun ls hl => ?_)
  refine lv_iconst (v := 0) hx hb dX6_steps_8 (by decide) ?_
  refine lv_istore (lv' := [(8, .int 0), (6, .long (u.1 a0.toNatClampNeg)), (0, .ref h0), (1, .int a0), (2, .int a1), (3, .int a2), (4, .long a3)]) hx hb dX6_steps_9 hl (by decide) rfl (fun ls hl => ?_)
  refine lv_iconst (v := 0) hx hb dX6_steps_11 (by decide) ?_
  refine lv_istore (lv' := [(9, .int 0), (8, .int 0), (6, .long (u.1 a0.toNatClampNeg)), (0, .ref h0), (1, .int a0), (2, .int a1), (3, .int a2), (4, .long a3)]) hx hb dX6_steps_12 hl (by decide) rfl (fun ls hl => ?_)
  have loop14 : ∀ (n14 : Nat) (v14_9 : Int32) (v14_8 : Int32) (v14_6 : Int64) (ls : Array Slot), lv_has ls 12 [(9, .int v14_9), (8, .int v14_8), (6, .long v14_6), (0, .ref h0), (1, .int a0), (2, .int a1), (3, .int a2), (4, .long a3)] → f_X6_steps_L14 u a0 a1 a2 a3 n14 v14_9 v14_8 v14_6 = some res → W p l e (rmX6_steps) s m ([.ref h0, .int a0, .int a1, .int a2, .long a3] : List Value).toArray below meth c s.heap [] 0 0 (MQ below (va_Qi (fun r v => r = res.1 ∧ v = res.2) (my_B D vwCl (KT cC cI cJ) A (fun v : StM => (wM cC cI cJ h0 h1 h2 h3 h4 h5 v))) A) ([.ref h0, .int a0, .int a1, .int a2, .long a3] : List Value).toArray s 0 0 A) (F0 m 14 ls []) := by
    intro n14
    induction n14 with
    | zero => intro v14_9 v14_8 v14_6 ls hl hf; rw [f_X6_steps_L14] at hf; cases hf
    | succ n14 ih14 =>
      intro v14_9 v14_8 v14_6 ls hl hf
      rw [f_X6_steps_L14] at hf
      refine lv_iload hx hb dX6_steps_14 (lv_at hl 0 rfl) ?_
      refine lv_iload_n hx hb dX6_steps_16 rfl (lv_at hl 5 rfl) ?_
      refine my_ic_ge (tgt := 78) hx hb dX6_steps_17 (by decide) (fun c2 => ?_) (fun c2 => ?_)
      · rw [if_neg c2] at hf
        refine lv_aload_n hx hb dX6_steps_78 rfl (lv_at hl 3 rfl) ?_
        refine lv_iload_n hx hb dX6_steps_79 rfl (lv_at hl 4 rfl) ?_
        refine lv_lload hx hb dX6_steps_80 (lv_at hl 2 rfl) ?_
        obtain ⟨z3, ez3, hf⟩ := ob_e hf
        refine my_callMl (As := [.int a0, .long v14_6]) (n := 2) (rest := []) (wr := []) ⟨hx, hb, hml, hown, hts⟩ hK hP hD hS hA [0, 1, 2, 3, 4, 5] [] rfl rfl (by decide) (by decide) (by decide) (m_X6_becomes l D cC cI cJ h0 h1 h2 h3 h4 h5 u s.heap.size a0 v14_6 _ ez3) gX6_steps_X6_becomes rfl ⟨rfl, rfl⟩ (ci := 5) rfl rfl (by decide +kernel) ⟨Nat.le_of_ble_eq_true rfl, Nat.le_of_ble_eq_true rfl⟩ ⟨Nat.le_of_ble_eq_true rfl, Nat.le_of_ble_eq_true rfl⟩ hl.1 rfl rfl (Nat.le_of_ble_eq_true rfl) dX6_steps_82 (fun r9 u9 H locs hw hP hD hS => ?_)
        obtain ⟨rfl, rfl⟩ := hw
        have hP : va_P D vwCl [(h0, .inr (5, [.ref h1, .ref h2, .ref h3, .int z3.2.2.2.2.1, .ref h4, .ref h5, .int z3.2.2.2.2.2.2.2.1, .int z3.2.2.2.2.2.2.2.2])), (h1, .inl (cJ, 8, .inr (.inl z3.2.1))), (h2, .inl (cI, 8, .inl z3.2.2.1)), (h3, .inl (cJ, 8, .inr (.inl z3.2.2.2.1))), (h4, .inl (cC, 40, .inl z3.2.2.2.2.2.1)), (h5, .inl (cI, 40, .inl z3.2.2.2.2.2.2.1))] H := hP.sub [0, 1, 2, 3, 4, 5] rfl
        have hD : va_D A [(h0, .inr (5, [.ref h1, .ref h2, .ref h3, .int z3.2.2.2.2.1, .ref h4, .ref h5, .int z3.2.2.2.2.2.2.2.1, .int z3.2.2.2.2.2.2.2.2])), (h1, .inl (cJ, 8, .inr (.inl z3.2.1))), (h2, .inl (cI, 8, .inl z3.2.2.1)), (h3, .inl (cJ, 8, .inr (.inl z3.2.2.2.1))), (h4, .inl (cC, 40, .inl z3.2.2.2.2.2.1)), (h5, .inl (cI, 40, .inl z3.2.2.2.2.2.2.1))] := hD.sub [0, 1, 2, 3, 4, 5] (by decide) rfl
        refine lv_pop2_2 hx hb dX6_steps_85 rfl ?_
        refine lv_iload hx hb dX6_steps_86 (lv_at hl 1 rfl) ?_
        have hP9 : va_P D vwCl (wM cC cI cJ h0 h1 h2 h3 h4 h5 z3.2) _ := hP
        have hD9 : va_D A (wM cC cI cJ h0 h1 h2 h3 h4 h5 z3.2) := hD
        have hf := Option.some.inj hf
        have hf1 := congrArg Prod.fst hf
        have hf2 := congrArg Prod.snd hf
        exact W.iret (v := v14_8) hx hb hr (fun t ht hW => ⟨⟨v14_8, z3.2, rfl, ⟨hf1, hf2⟩, by rw [ht]; exact hP9, va_K.moved hW.alike hK, hD9⟩, hS.F ht⟩) hS.2.2 dX6_steps_88
      · rw [if_pos c2] at hf
        refine lv_iload_n hx hb dX6_steps_20 rfl (lv_at hl 6 rfl) ?_
        refine lv_bipush (v := 117) hx hb dX6_steps_21 (by decide) ?_
        refine my_ic_ne (tgt := 34) hx hb dX6_steps_23 (by decide) (fun c4 => ?_) (fun c4 => ?_)
        · rw [if_neg c4] at hf
          refine lv_iload_n hx hb dX6_steps_34 rfl (lv_at hl 6 rfl) ?_
          refine lv_bipush (v := 100) hx hb dX6_steps_35 (by decide) ?_
          refine my_ic_ne (tgt := 48) hx hb dX6_steps_37 (by decide) (fun c5 => ?_) (fun c5 => ?_)
          · rw [if_neg c5] at hf
            refine lv_lload hx hb dX6_steps_48 (lv_at hl 2 rfl) ?_
            refine lv_lload hx hb dX6_steps_50 (lv_at hl 7 rfl) ?_
            refine my_callPl (As := [.long v14_6, .long a3]) (n := 2) (rest := []) ⟨hx, hb, hml, hown, hts⟩ (m_X6_nearer l v14_6 a3 _ rfl) gX6_steps_X6_nearer rfl ⟨rfl, rfl⟩ (by decide +kernel) ⟨Nat.le_of_ble_eq_true rfl, Nat.le_of_ble_eq_true rfl⟩ ⟨Nat.le_of_ble_eq_true rfl, Nat.le_of_ble_eq_true rfl⟩ hl.1 rfl rfl (Nat.le_of_ble_eq_true rfl) dX6_steps_52 ?_
            refine lv_lstore (lv' := [(10, .long (f_X6_nearer v14_6 a3)), (9, .int v14_9), (8, .int v14_8), (6, .long v14_6), (0, .ref h0), (1, .int a0), (2, .int a1), (3, .int a2), (4, .long a3)]) hx hb dX6_steps_55 hl (by decide) rfl (fun ls hl => ?_)
            refine lv_lload hx hb dX6_steps_57 (lv_at hl 0 rfl) ?_
            refine lv_lload hx hb dX6_steps_59 (lv_at hl 3 rfl) ?_
            refine my_lc_eq (tgt := 68) hx hb dX6_steps_61 dX6_steps_62 (by decide) (fun c6 => ?_) (fun c6 => ?_)
            · rw [if_pos c6] at hf
              refine lv_lload hx hb dX6_steps_68 (lv_at hl 0 rfl) ?_
              refine lv_lstore (lv' := [(6, .long (f_X6_nearer v14_6 a3)), (10, .long (f_X6_nearer v14_6 a3)), (9, .int v14_9), (8, .int v14_8), (0, .ref h0), (1, .int a0), (2, .int a1), (3, .int a2), (4, .long a3)]) hx hb dX6_steps_70 hl (by decide) rfl (fun ls hl => ?_)
              refine lv_iinc (v := (v14_9 + 1)) (lv' := [(9, .int (v14_9 + 1)), (6, .long (f_X6_nearer v14_6 a3)), (10, .long (f_X6_nearer v14_6 a3)), (8, .int v14_8), (0, .ref h0), (1, .int a0), (2, .int a1), (3, .int a2), (4, .long a3)]) hx hb dX6_steps_72 hl (k := 2) rfl rfl (by decide) rfl (fun ls hl => ?_)
              refine lv_goto (tgt := 14) hx hb dX6_steps_75 (by decide) ?_
              exact ih14 (v14_9 + 1) v14_8 (f_X6_nearer v14_6 a3) _ (lv_sub hl [0, 3, 1, 4, 5, 6, 7, 8] rfl) hf
            · rw [if_neg c6] at hf
              refine lv_iinc (v := (v14_8 + 1)) (lv' := [(8, .int (v14_8 + 1)), (10, .long (f_X6_nearer v14_6 a3)), (9, .int v14_9), (6, .long v14_6), (0, .ref h0), (1, .int a0), (2, .int a1), (3, .int a2), (4, .long a3)]) hx hb dX6_steps_65 hl (k := 2) rfl rfl (by decide) rfl (fun ls hl => ?_)
              refine lv_lload hx hb dX6_steps_68 (lv_at hl 1 rfl) ?_
              refine lv_lstore (lv' := [(6, .long (f_X6_nearer v14_6 a3)), (8, .int (v14_8 + 1)), (10, .long (f_X6_nearer v14_6 a3)), (9, .int v14_9), (0, .ref h0), (1, .int a0), (2, .int a1), (3, .int a2), (4, .long a3)]) hx hb dX6_steps_70 hl (by decide) rfl (fun ls hl => ?_)
              refine lv_iinc (v := (v14_9 + 1)) (lv' := [(9, .int (v14_9 + 1)), (6, .long (f_X6_nearer v14_6 a3)), (8, .int (v14_8 + 1)), (10, .long (f_X6_nearer v14_6 a3)), (0, .ref h0), (1, .int a0), (2, .int a1), (3, .int a2), (4, .long a3)]) hx hb dX6_steps_72 hl (k := 3) rfl rfl (by decide) rfl (fun ls hl => ?_)
              refine lv_goto (tgt := 14) hx hb dX6_steps_75 (by decide) ?_
              exact ih14 (v14_9 + 1) (v14_8 + 1) (f_X6_nearer v14_6 a3) _ (lv_sub hl [0, 2, 1, 4, 5, 6, 7, 8] rfl) hf
          · rw [if_pos c5] at hf
            refine lv_lload hx hb dX6_steps_40 (lv_at hl 2 rfl) ?_
            refine my_callPl (As := [.long v14_6]) (n := 1) (rest := []) ⟨hx, hb, hml, hown, hts⟩ (m_X6_below l v14_6 _ rfl) gX6_steps_X6_below rfl ⟨rfl, rfl⟩ (by decide +kernel) ⟨Nat.le_of_ble_eq_true rfl, Nat.le_of_ble_eq_true rfl⟩ ⟨Nat.le_of_ble_eq_true rfl, Nat.le_of_ble_eq_true rfl⟩ hl.1 rfl rfl (Nat.le_of_ble_eq_true rfl) dX6_steps_42 ?_
            refine lv_goto (tgt := 55) hx hb dX6_steps_45 (by decide) ?_
            refine lv_lstore (lv' := [(10, .long (f_X6_below v14_6)), (9, .int v14_9), (8, .int v14_8), (6, .long v14_6), (0, .ref h0), (1, .int a0), (2, .int a1), (3, .int a2), (4, .long a3)]) hx hb dX6_steps_55 hl (by decide) rfl (fun ls hl => ?_)
            refine lv_lload hx hb dX6_steps_57 (lv_at hl 0 rfl) ?_
            refine lv_lload hx hb dX6_steps_59 (lv_at hl 3 rfl) ?_
            refine my_lc_eq (tgt := 68) hx hb dX6_steps_61 dX6_steps_62 (by decide) (fun c7 => ?_) (fun c7 => ?_)
            · rw [if_pos c7] at hf
              refine lv_lload hx hb dX6_steps_68 (lv_at hl 0 rfl) ?_
              refine lv_lstore (lv' := [(6, .long (f_X6_below v14_6)), (10, .long (f_X6_below v14_6)), (9, .int v14_9), (8, .int v14_8), (0, .ref h0), (1, .int a0), (2, .int a1), (3, .int a2), (4, .long a3)]) hx hb dX6_steps_70 hl (by decide) rfl (fun ls hl => ?_)
              refine lv_iinc (v := (v14_9 + 1)) (lv' := [(9, .int (v14_9 + 1)), (6, .long (f_X6_below v14_6)), (10, .long (f_X6_below v14_6)), (8, .int v14_8), (0, .ref h0), (1, .int a0), (2, .int a1), (3, .int a2), (4, .long a3)]) hx hb dX6_steps_72 hl (k := 2) rfl rfl (by decide) rfl (fun ls hl => ?_)
              refine lv_goto (tgt := 14) hx hb dX6_steps_75 (by decide) ?_
              exact ih14 (v14_9 + 1) v14_8 (f_X6_below v14_6) _ (lv_sub hl [0, 3, 1, 4, 5, 6, 7, 8] rfl) hf
            · rw [if_neg c7] at hf
              refine lv_iinc (v := (v14_8 + 1)) (lv' := [(8, .int (v14_8 + 1)), (10, .long (f_X6_below v14_6)), (9, .int v14_9), (6, .long v14_6), (0, .ref h0), (1, .int a0), (2, .int a1), (3, .int a2), (4, .long a3)]) hx hb dX6_steps_65 hl (k := 2) rfl rfl (by decide) rfl (fun ls hl => ?_)
              refine lv_lload hx hb dX6_steps_68 (lv_at hl 1 rfl) ?_
              refine lv_lstore (lv' := [(6, .long (f_X6_below v14_6)), (8, .int (v14_8 + 1)), (10, .long (f_X6_below v14_6)), (9, .int v14_9), (0, .ref h0), (1, .int a0), (2, .int a1), (3, .int a2), (4, .long a3)]) hx hb dX6_steps_70 hl (by decide) rfl (fun ls hl => ?_)
              refine lv_iinc (v := (v14_9 + 1)) (lv' := [(9, .int (v14_9 + 1)), (6, .long (f_X6_below v14_6)), (8, .int (v14_8 + 1)), (10, .long (f_X6_below v14_6)), (0, .ref h0), (1, .int a0), (2, .int a1), (3, .int a2), (4, .long a3)]) hx hb dX6_steps_72 hl (k := 3) rfl rfl (by decide) rfl (fun ls hl => ?_)
              refine lv_goto (tgt := 14) hx hb dX6_steps_75 (by decide) ?_
              exact ih14 (v14_9 + 1) (v14_8 + 1) (f_X6_below v14_6) _ (lv_sub hl [0, 2, 1, 4, 5, 6, 7, 8] rfl) hf
        · rw [if_pos c4] at hf
          refine lv_lload hx hb dX6_steps_26 (lv_at hl 2 rfl) ?_
          refine my_callPl (As := [.long v14_6]) (n := 1) (rest := []) ⟨hx, hb, hml, hown, hts⟩ (m_X6_above l v14_6 _ rfl) gX6_steps_X6_above rfl ⟨rfl, rfl⟩ (by decide +kernel) ⟨Nat.le_of_ble_eq_true rfl, Nat.le_of_ble_eq_true rfl⟩ ⟨Nat.le_of_ble_eq_true rfl, Nat.le_of_ble_eq_true rfl⟩ hl.1 rfl rfl (Nat.le_of_ble_eq_true rfl) dX6_steps_28 ?_
          refine lv_goto (tgt := 55) hx hb dX6_steps_31 (by decide) ?_
          refine lv_lstore (lv' := [(10, .long (f_X6_above v14_6)), (9, .int v14_9), (8, .int v14_8), (6, .long v14_6), (0, .ref h0), (1, .int a0), (2, .int a1), (3, .int a2), (4, .long a3)]) hx hb dX6_steps_55 hl (by decide) rfl (fun ls hl => ?_)
          refine lv_lload hx hb dX6_steps_57 (lv_at hl 0 rfl) ?_
          refine lv_lload hx hb dX6_steps_59 (lv_at hl 3 rfl) ?_
          refine my_lc_eq (tgt := 68) hx hb dX6_steps_61 dX6_steps_62 (by decide) (fun c8 => ?_) (fun c8 => ?_)
          · rw [if_pos c8] at hf
            refine lv_lload hx hb dX6_steps_68 (lv_at hl 0 rfl) ?_
            refine lv_lstore (lv' := [(6, .long (f_X6_above v14_6)), (10, .long (f_X6_above v14_6)), (9, .int v14_9), (8, .int v14_8), (0, .ref h0), (1, .int a0), (2, .int a1), (3, .int a2), (4, .long a3)]) hx hb dX6_steps_70 hl (by decide) rfl (fun ls hl => ?_)
            refine lv_iinc (v := (v14_9 + 1)) (lv' := [(9, .int (v14_9 + 1)), (6, .long (f_X6_above v14_6)), (10, .long (f_X6_above v14_6)), (8, .int v14_8), (0, .ref h0), (1, .int a0), (2, .int a1), (3, .int a2), (4, .long a3)]) hx hb dX6_steps_72 hl (k := 2) rfl rfl (by decide) rfl (fun ls hl => ?_)
            refine lv_goto (tgt := 14) hx hb dX6_steps_75 (by decide) ?_
            exact ih14 (v14_9 + 1) v14_8 (f_X6_above v14_6) _ (lv_sub hl [0, 3, 1, 4, 5, 6, 7, 8] rfl) hf
          · rw [if_neg c8] at hf
            refine lv_iinc (v := (v14_8 + 1)) (lv' := [(8, .int (v14_8 + 1)), (10, .long (f_X6_above v14_6)), (9, .int v14_9), (6, .long v14_6), (0, .ref h0), (1, .int a0), (2, .int a1), (3, .int a2), (4, .long a3)]) hx hb dX6_steps_65 hl (k := 2) rfl rfl (by decide) rfl (fun ls hl => ?_)
            refine lv_lload hx hb dX6_steps_68 (lv_at hl 1 rfl) ?_
            refine lv_lstore (lv' := [(6, .long (f_X6_above v14_6)), (8, .int (v14_8 + 1)), (10, .long (f_X6_above v14_6)), (9, .int v14_9), (0, .ref h0), (1, .int a0), (2, .int a1), (3, .int a2), (4, .long a3)]) hx hb dX6_steps_70 hl (by decide) rfl (fun ls hl => ?_)
            refine lv_iinc (v := (v14_9 + 1)) (lv' := [(9, .int (v14_9 + 1)), (6, .long (f_X6_above v14_6)), (8, .int (v14_8 + 1)), (10, .long (f_X6_above v14_6)), (0, .ref h0), (1, .int a0), (2, .int a1), (3, .int a2), (4, .long a3)]) hx hb dX6_steps_72 hl (k := 3) rfl rfl (by decide) rfl (fun ls hl => ?_)
            refine lv_goto (tgt := 14) hx hb dX6_steps_75 (by decide) ?_
            exact ih14 (v14_9 + 1) (v14_8 + 1) (f_X6_above v14_6) _ (lv_sub hl [0, 2, 1, 4, 5, 6, 7, 8] rfl) hf
  exact loop14 100 0 0 (u.1 a0.toNatClampNeg) _ (lv_sub hl [0, 1, 2, 3, 4, 5, 6, 7] rfl) hf

set_option maxHeartbeats 4000000 in
set_option maxRecDepth 100000 in
theorem m_X6_up (l : Launch) (D : va_G) (cC cI cJ : ClassId) (h0 h1 h2 h3 h4 h5 : Nat) (u : StM) (sz : Nat) (a0 : Int32) (a1 : Int32) (res : Int32 × StM) (hf : f_X6_up u a0 a1 = some res) : Met l yX6_up wsX6_up rmX6_up (my_PcM D vwCl (KT cC cI cJ) sz (wM cC cI cJ h0 h1 h2 h3 h4 h5 u) [.ref h0, .int a0, .int a1]) (va_Qi (fun r v => r = res.1 ∧ v = res.2) (my_B D vwCl (KT cC cI cJ) (va_A (wM cC cI cJ h0 h1 h2 h3 h4 h5 u) sz) (fun v : StM => (wM cC cI cJ h0 h1 h2 h3 h4 h5 v))) (va_A (wM cC cI cJ h0 h1 h2 h3 h4 h5 u) sz)) 0 0 (va_A (wM cC cI cJ h0 h1 h2 h3 h4 h5 u) sz) := by
  refine Met.ofW (cc := cX6_up) (maxL := 3) (ret := (some .int)) (by decide) rfl ?_
  intro p e s m args below meth c s₁ B hml hv
  obtain ⟨rfl, hsz, hP, hK, hD0⟩ := hv
  have hx := B.exec
  have hb := B.bytes
  have hr := B.returns
  have hts : ∀ w ∈ wsX6_up, w.before ([.ref h0, .int a0, .int a1] : List Value).toArray s = true := atoms_spec (ws := wsX6_up) B.pre
  have hown : s.vm.findClass RX6 = some m.cls := findClass_of_methodNamed B.named
  have hlk : meth.locks = false := B.notSynchronized
  subst hsz
  have hD := hD0.self (sz := s.heap.size)
  generalize hAe : va_A (wM cC cI cJ h0 h1 h2 h3 h4 h5 u) s.heap.size = A at hD ⊢
  have hA : ∀ q : Nat, s.heap.size ≤ q → A q := fun q h => by rw [← hAe]; exact Or.inr h
  have hS : va_S A s.heap s.heap [] := va_S.rf
  have hP : va_P D vwCl [(h0, .inr (5, [.ref h1, .ref h2, .ref h3, .int u.2.2.2.1, .ref h4, .ref h5, .int u.2.2.2.2.2.2.1, .int u.2.2.2.2.2.2.2])), (h1, .inl (cJ, 8, .inr (.inl u.1))), (h2, .inl (cI, 8, .inl u.2.1)), (h3, .inl (cJ, 8, .inr (.inl u.2.2.1))), (h4, .inl (cC, 40, .inl u.2.2.2.2.1)), (h5, .inl (cI, 40, .inl u.2.2.2.2.2.1))] s.heap := hP
  have hD : va_D A [(h0, .inr (5, [.ref h1, .ref h2, .ref h3, .int u.2.2.2.1, .ref h4, .ref h5, .int u.2.2.2.2.2.2.1, .int u.2.2.2.2.2.2.2])), (h1, .inl (cJ, 8, .inr (.inl u.1))), (h2, .inl (cI, 8, .inl u.2.1)), (h3, .inl (cJ, 8, .inr (.inl u.2.2.1))), (h4, .inl (cC, 40, .inl u.2.2.2.2.1)), (h5, .inl (cI, 40, .inl u.2.2.2.2.2.1))] := hD
  have hl := lv_entry ([.ref h0, .int a0, .int a1]) (n := 3) (Nat.le_of_ble_eq_true rfl)
  rw [lg_entry_eq]
  generalize (lg_sl ([.ref h0, .int a0, .int a1]) ++ List.replicate (3 - (lg_sl ([.ref h0, .int a0, .int a1])).length) Slot.unset).toArray = ls at hl ⊢
  have hl : lv_has ls 3 [(0, .ref h0), (1, .int a0), (2, .int a1)] := hl
  unfold f_X6_up at hf
  refine lv_aload_n hx hb dX6_up_0 rfl (lv_at hl 0 rfl) ?_
  refine lv_iload_n hx hb dX6_up_1 rfl (lv_at hl 1 rfl) ?_
  obtain ⟨z1, ez1, hf⟩ := ob_e hf
  refine my_callMi (As := [.int a0]) (n := 1) (rest := []) (wr := []) ⟨hx, hb, hml, hown, hts⟩ hK hP hD hS hA [0, 1, 2, 3, 4, 5] [] rfl rfl (by decide) (by decide) (by decide) (m_X6_lacks l D cC cI cJ h0 h1 h2 h3 h4 h5 u s.heap.size a0 _ ez1) gX6_up_X6_lacks rfl ⟨rfl, rfl⟩ (ci := 5) rfl rfl (by decide +kernel) ⟨Nat.le_of_ble_eq_true rfl, Nat.le_of_ble_eq_true rfl⟩ ⟨Nat.le_of_ble_eq_true rfl, Nat.le_of_ble_eq_true rfl⟩ hl.1 rfl rfl (Nat.le_of_ble_eq_true rfl) dX6_up_2 (fun r9 u9 H locs hw hP hD hS => ?_)
  obtain ⟨rfl, rfl⟩ := hw
  have hP : va_P D vwCl [(h0, .inr (5, [.ref h1, .ref h2, .ref h3, .int z1.2.2.2.2.1, .ref h4, .ref h5, .int z1.2.2.2.2.2.2.2.1, .int z1.2.2.2.2.2.2.2.2])), (h1, .inl (cJ, 8, .inr (.inl z1.2.1))), (h2, .inl (cI, 8, .inl z1.2.2.1)), (h3, .inl (cJ, 8, .inr (.inl z1.2.2.2.1))), (h4, .inl (cC, 40, .inl z1.2.2.2.2.2.1)), (h5, .inl (cI, 40, .inl z1.2.2.2.2.2.2.1))] H := hP.sub [0, 1, 2, 3, 4, 5] rfl
  have hD : va_D A [(h0, .inr (5, [.ref h1, .ref h2, .ref h3, .int z1.2.2.2.2.1, .ref h4, .ref h5, .int z1.2.2.2.2.2.2.2.1, .int z1.2.2.2.2.2.2.2.2])), (h1, .inl (cJ, 8, .inr (.inl z1.2.1))), (h2, .inl (cI, 8, .inl z1.2.2.1)), (h3, .inl (cJ, 8, .inr (.inl z1.2.2.2.1))), (h4, .inl (cC, 40, .inl z1.2.2.2.2.2.1)), (h5, .inl (cI, 40, .inl z1.2.2.2.2.2.2.1))] := hD.sub [0, 1, 2, 3, 4, 5] (by decide) rfl
  refine my_bz_ne (x := z1.1) (tgt := 23) hx hb dX6_up_5 (by decide) (fun c2 => ?_) (fun c2 => ?_)
  · rw [if_neg c2] at hf
    refine lv_iconst (v := 0) hx hb dX6_up_23 (by decide) ?_
    have hP9 : va_P D vwCl (wM cC cI cJ h0 h1 h2 h3 h4 h5 z1.2) _ := hP
    have hD9 : va_D A (wM cC cI cJ h0 h1 h2 h3 h4 h5 z1.2) := hD
    have hf := Option.some.inj hf
    have hf1 := congrArg Prod.fst hf
    have hf2 := congrArg Prod.snd hf
    exact W.iret (v := 0) hx hb hr (fun t ht hW => ⟨⟨0, z1.2, rfl, ⟨hf1, hf2⟩, by rw [ht]; exact hP9, va_K.moved hW.alike hK, hD9⟩, hS.F ht⟩) hS.2.2 dX6_up_24
  · rw [if_pos c2] at hf
    refine lv_aload_n hx hb dX6_up_8 rfl (lv_at hl 0 rfl) ?_
    refine lv_iload_n hx hb dX6_up_9 rfl (lv_at hl 2 rfl) ?_
    refine lv_iconst (v := 0) hx hb dX6_up_10 (by decide) ?_
    refine lv_bipush (v := 64) hx hb dX6_up_11 (by decide) ?_
    refine my_callPi (As := [.int a1, .int 0, .int 64]) (n := 3) (rest := [.ref h0]) ⟨hx, hb, hml, hown, hts⟩ (m_X6_in l a1 0 64 _ rfl) gX6_up_X6_in rfl ⟨rfl, rfl⟩ (by decide +kernel) ⟨Nat.le_of_ble_eq_true rfl, Nat.le_of_ble_eq_true rfl⟩ ⟨Nat.le_of_ble_eq_true rfl, Nat.le_of_ble_eq_true rfl⟩ hl.1 rfl rfl (Nat.le_of_ble_eq_true rfl) dX6_up_13 ?_
    refine lv_iconst (v := 2) hx hb dX6_up_16 (by decide) ?_
    refine my_callMi (As := [.int (b2i (f_X6_in a1 0 64)), .int 2]) (n := 2) (rest := []) (wr := []) ⟨hx, hb, hml, hown, hts⟩ hK hP hD hS hA [0, 1, 2, 3, 4, 5] [] rfl rfl (by decide) (by decide) (by decide) (m_X6_no l D cC cI cJ h0 h1 h2 h3 h4 h5 z1.2 H.size (f_X6_in a1 0 64) 2 _ (no_b z1.2 (f_X6_in a1 0 64) 2)) gX6_up_X6_no rfl ⟨rfl, rfl⟩ (ci := 5) rfl rfl (by decide +kernel) ⟨Nat.le_of_ble_eq_true rfl, Nat.le_of_ble_eq_true rfl⟩ ⟨Nat.le_of_ble_eq_true rfl, Nat.le_of_ble_eq_true rfl⟩ hl.1 rfl rfl (Nat.le_of_ble_eq_true rfl) dX6_up_17 (fun r9 u9 H locs hw hP hD hS => ?_)
    obtain ⟨rfl, rfl⟩ := hw
    have hP : va_P D vwCl [(h0, .inr (5, [.ref h1, .ref h2, .ref h3, .int z1.2.2.2.2.1, .ref h4, .ref h5, .int z1.2.2.2.2.2.2.2.1, .int (if (f_X6_in a1 0 64) = true then 0 else 2)])), (h1, .inl (cJ, 8, .inr (.inl z1.2.1))), (h2, .inl (cI, 8, .inl z1.2.2.1)), (h3, .inl (cJ, 8, .inr (.inl z1.2.2.2.1))), (h4, .inl (cC, 40, .inl z1.2.2.2.2.2.1)), (h5, .inl (cI, 40, .inl z1.2.2.2.2.2.2.1))] H := hP.sub [0, 1, 2, 3, 4, 5] rfl
    have hD : va_D A [(h0, .inr (5, [.ref h1, .ref h2, .ref h3, .int z1.2.2.2.2.1, .ref h4, .ref h5, .int z1.2.2.2.2.2.2.2.1, .int (if (f_X6_in a1 0 64) = true then 0 else 2)])), (h1, .inl (cJ, 8, .inr (.inl z1.2.1))), (h2, .inl (cI, 8, .inl z1.2.2.1)), (h3, .inl (cJ, 8, .inr (.inl z1.2.2.2.1))), (h4, .inl (cC, 40, .inl z1.2.2.2.2.2.1)), (h5, .inl (cI, 40, .inl z1.2.2.2.2.2.2.1))] := hD.sub [0, 1, 2, 3, 4, 5] (by decide) rfl
    refine my_bz_eq (x := (!(f_X6_in a1 0 64))) (tgt := 25) hx hb dX6_up_20 (by decide) (fun c3 => ?_) (fun c3 => ?_)
    · rw [if_pos c3] at hf
      refine lv_aload_n hx hb dX6_up_25 rfl (lv_at hl 0 rfl) ?_
      refine lv_iload_n hx hb dX6_up_26 rfl (lv_at hl 1 rfl) ?_
      refine lv_iload_n hx hb dX6_up_27 rfl (lv_at hl 2 rfl) ?_
      refine lv_bipush (v := 117) hx hb dX6_up_28 (by decide) ?_
      refine lv_lconst (v := 0) hx hb dX6_up_30 (by decide) ?_
      obtain ⟨z4, ez4, hf⟩ := ob_e hf
      refine my_callMi (As := [.int a0, .int a1, .int 117, .long 0]) (n := 4) (rest := []) (wr := []) ⟨hx, hb, hml, hown, hts⟩ hK hP hD hS hA [0, 1, 2, 3, 4, 5] [] rfl rfl (by decide) (by decide) (by decide) (m_X6_steps l D cC cI cJ h0 h1 h2 h3 h4 h5 (z1.2.1, (z1.2.2.1, (z1.2.2.2.1, (z1.2.2.2.2.1, (z1.2.2.2.2.2.1, (z1.2.2.2.2.2.2.1, (z1.2.2.2.2.2.2.2.1, (if (f_X6_in a1 0 64) = true then 0 else 2)))))))) H.size a0 a1 117 0 _ ez4) gX6_up_X6_steps rfl ⟨rfl, rfl⟩ (ci := 5) rfl rfl (by decide +kernel) ⟨Nat.le_of_ble_eq_true rfl, Nat.le_of_ble_eq_true rfl⟩ ⟨Nat.le_of_ble_eq_true rfl, Nat.le_of_ble_eq_true rfl⟩ hl.1 rfl rfl (Nat.le_of_ble_eq_true rfl) dX6_up_31 (fun r9 u9 H locs hw hP hD hS => ?_)
      obtain ⟨rfl, rfl⟩ := hw
      have hP : va_P D vwCl [(h0, .inr (5, [.ref h1, .ref h2, .ref h3, .int z4.2.2.2.2.1, .ref h4, .ref h5, .int z4.2.2.2.2.2.2.2.1, .int z4.2.2.2.2.2.2.2.2])), (h1, .inl (cJ, 8, .inr (.inl z4.2.1))), (h2, .inl (cI, 8, .inl z4.2.2.1)), (h3, .inl (cJ, 8, .inr (.inl z4.2.2.2.1))), (h4, .inl (cC, 40, .inl z4.2.2.2.2.2.1)), (h5, .inl (cI, 40, .inl z4.2.2.2.2.2.2.1))] H := hP.sub [0, 1, 2, 3, 4, 5] rfl
      have hD : va_D A [(h0, .inr (5, [.ref h1, .ref h2, .ref h3, .int z4.2.2.2.2.1, .ref h4, .ref h5, .int z4.2.2.2.2.2.2.2.1, .int z4.2.2.2.2.2.2.2.2])), (h1, .inl (cJ, 8, .inr (.inl z4.2.1))), (h2, .inl (cI, 8, .inl z4.2.2.1)), (h3, .inl (cJ, 8, .inr (.inl z4.2.2.2.1))), (h4, .inl (cC, 40, .inl z4.2.2.2.2.2.1)), (h5, .inl (cI, 40, .inl z4.2.2.2.2.2.2.1))] := hD.sub [0, 1, 2, 3, 4, 5] (by decide) rfl
      have hP9 : va_P D vwCl (wM cC cI cJ h0 h1 h2 h3 h4 h5 z4.2) _ := hP
      have hD9 : va_D A (wM cC cI cJ h0 h1 h2 h3 h4 h5 z4.2) := hD
      have hf := Option.some.inj hf
      have hf1 := congrArg Prod.fst hf
      have hf2 := congrArg Prod.snd hf
      exact W.iret (v := z4.1) hx hb hr (fun t ht hW => ⟨⟨z4.1, z4.2, rfl, ⟨hf1, hf2⟩, by rw [ht]; exact hP9, va_K.moved hW.alike hK, hD9⟩, hS.F ht⟩) hS.2.2 dX6_up_34
    · rw [if_neg c3] at hf
      refine lv_iconst (v := 0) hx hb dX6_up_23 (by decide) ?_
      have hP9 : va_P D vwCl (wM cC cI cJ h0 h1 h2 h3 h4 h5 (z1.2.1, (z1.2.2.1, (z1.2.2.2.1, (z1.2.2.2.2.1, (z1.2.2.2.2.2.1, (z1.2.2.2.2.2.2.1, (z1.2.2.2.2.2.2.2.1, (if (f_X6_in a1 0 64) = true then 0 else 2))))))))) _ := hP
      have hD9 : va_D A (wM cC cI cJ h0 h1 h2 h3 h4 h5 (z1.2.1, (z1.2.2.1, (z1.2.2.2.1, (z1.2.2.2.2.1, (z1.2.2.2.2.2.1, (z1.2.2.2.2.2.2.1, (z1.2.2.2.2.2.2.2.1, (if (f_X6_in a1 0 64) = true then 0 else 2))))))))) := hD
      have hf := Option.some.inj hf
      have hf1 := congrArg Prod.fst hf
      have hf2 := congrArg Prod.snd hf
      exact W.iret (v := 0) hx hb hr (fun t ht hW => ⟨⟨0, (z1.2.1, (z1.2.2.1, (z1.2.2.2.1, (z1.2.2.2.2.1, (z1.2.2.2.2.2.1, (z1.2.2.2.2.2.2.1, (z1.2.2.2.2.2.2.2.1, (if (f_X6_in a1 0 64) = true then 0 else 2)))))))), rfl, ⟨hf1, hf2⟩, by rw [ht]; exact hP9, va_K.moved hW.alike hK, hD9⟩, hS.F ht⟩) hS.2.2 dX6_up_24

set_option maxHeartbeats 4000000 in
set_option maxRecDepth 100000 in
theorem m_X6_down (l : Launch) (D : va_G) (cC cI cJ : ClassId) (h0 h1 h2 h3 h4 h5 : Nat) (u : StM) (sz : Nat) (a0 : Int32) (a1 : Int32) (res : Int32 × StM) (hf : f_X6_down u a0 a1 = some res) : Met l yX6_down wsX6_down rmX6_down (my_PcM D vwCl (KT cC cI cJ) sz (wM cC cI cJ h0 h1 h2 h3 h4 h5 u) [.ref h0, .int a0, .int a1]) (va_Qi (fun r v => r = res.1 ∧ v = res.2) (my_B D vwCl (KT cC cI cJ) (va_A (wM cC cI cJ h0 h1 h2 h3 h4 h5 u) sz) (fun v : StM => (wM cC cI cJ h0 h1 h2 h3 h4 h5 v))) (va_A (wM cC cI cJ h0 h1 h2 h3 h4 h5 u) sz)) 0 0 (va_A (wM cC cI cJ h0 h1 h2 h3 h4 h5 u) sz) := by
  refine Met.ofW (cc := cX6_down) (maxL := 3) (ret := (some .int)) (by decide) rfl ?_
  intro p e s m args below meth c s₁ B hml hv
  obtain ⟨rfl, hsz, hP, hK, hD0⟩ := hv
  have hx := B.exec
  have hb := B.bytes
  have hr := B.returns
  have hts : ∀ w ∈ wsX6_down, w.before ([.ref h0, .int a0, .int a1] : List Value).toArray s = true := atoms_spec (ws := wsX6_down) B.pre
  have hown : s.vm.findClass RX6 = some m.cls := findClass_of_methodNamed B.named
  have hlk : meth.locks = false := B.notSynchronized
  subst hsz
  have hD := hD0.self (sz := s.heap.size)
  generalize hAe : va_A (wM cC cI cJ h0 h1 h2 h3 h4 h5 u) s.heap.size = A at hD ⊢
  have hA : ∀ q : Nat, s.heap.size ≤ q → A q := fun q h => by rw [← hAe]; exact Or.inr h
  have hS : va_S A s.heap s.heap [] := va_S.rf
  have hP : va_P D vwCl [(h0, .inr (5, [.ref h1, .ref h2, .ref h3, .int u.2.2.2.1, .ref h4, .ref h5, .int u.2.2.2.2.2.2.1, .int u.2.2.2.2.2.2.2])), (h1, .inl (cJ, 8, .inr (.inl u.1))), (h2, .inl (cI, 8, .inl u.2.1)), (h3, .inl (cJ, 8, .inr (.inl u.2.2.1))), (h4, .inl (cC, 40, .inl u.2.2.2.2.1)), (h5, .inl (cI, 40, .inl u.2.2.2.2.2.1))] s.heap := hP
  have hD : va_D A [(h0, .inr (5, [.ref h1, .ref h2, .ref h3, .int u.2.2.2.1, .ref h4, .ref h5, .int u.2.2.2.2.2.2.1, .int u.2.2.2.2.2.2.2])), (h1, .inl (cJ, 8, .inr (.inl u.1))), (h2, .inl (cI, 8, .inl u.2.1)), (h3, .inl (cJ, 8, .inr (.inl u.2.2.1))), (h4, .inl (cC, 40, .inl u.2.2.2.2.1)), (h5, .inl (cI, 40, .inl u.2.2.2.2.2.1))] := hD
  have hl := lv_entry ([.ref h0, .int a0, .int a1]) (n := 3) (Nat.le_of_ble_eq_true rfl)
  rw [lg_entry_eq]
  generalize (lg_sl ([.ref h0, .int a0, .int a1]) ++ List.replicate (3 - (lg_sl ([.ref h0, .int a0, .int a1])).length) Slot.unset).toArray = ls at hl ⊢
  have hl : lv_has ls 3 [(0, .ref h0), (1, .int a0), (2, .int a1)] := hl
  unfold f_X6_down at hf
  refine lv_aload_n hx hb dX6_down_0 rfl (lv_at hl 0 rfl) ?_
  refine lv_iload_n hx hb dX6_down_1 rfl (lv_at hl 1 rfl) ?_
  obtain ⟨z1, ez1, hf⟩ := ob_e hf
  refine my_callMi (As := [.int a0]) (n := 1) (rest := []) (wr := []) ⟨hx, hb, hml, hown, hts⟩ hK hP hD hS hA [0, 1, 2, 3, 4, 5] [] rfl rfl (by decide) (by decide) (by decide) (m_X6_lacks l D cC cI cJ h0 h1 h2 h3 h4 h5 u s.heap.size a0 _ ez1) gX6_down_X6_lacks rfl ⟨rfl, rfl⟩ (ci := 5) rfl rfl (by decide +kernel) ⟨Nat.le_of_ble_eq_true rfl, Nat.le_of_ble_eq_true rfl⟩ ⟨Nat.le_of_ble_eq_true rfl, Nat.le_of_ble_eq_true rfl⟩ hl.1 rfl rfl (Nat.le_of_ble_eq_true rfl) dX6_down_2 (fun r9 u9 H locs hw hP hD hS => ?_)
  obtain ⟨rfl, rfl⟩ := hw
  have hP : va_P D vwCl [(h0, .inr (5, [.ref h1, .ref h2, .ref h3, .int z1.2.2.2.2.1, .ref h4, .ref h5, .int z1.2.2.2.2.2.2.2.1, .int z1.2.2.2.2.2.2.2.2])), (h1, .inl (cJ, 8, .inr (.inl z1.2.1))), (h2, .inl (cI, 8, .inl z1.2.2.1)), (h3, .inl (cJ, 8, .inr (.inl z1.2.2.2.1))), (h4, .inl (cC, 40, .inl z1.2.2.2.2.2.1)), (h5, .inl (cI, 40, .inl z1.2.2.2.2.2.2.1))] H := hP.sub [0, 1, 2, 3, 4, 5] rfl
  have hD : va_D A [(h0, .inr (5, [.ref h1, .ref h2, .ref h3, .int z1.2.2.2.2.1, .ref h4, .ref h5, .int z1.2.2.2.2.2.2.2.1, .int z1.2.2.2.2.2.2.2.2])), (h1, .inl (cJ, 8, .inr (.inl z1.2.1))), (h2, .inl (cI, 8, .inl z1.2.2.1)), (h3, .inl (cJ, 8, .inr (.inl z1.2.2.2.1))), (h4, .inl (cC, 40, .inl z1.2.2.2.2.2.1)), (h5, .inl (cI, 40, .inl z1.2.2.2.2.2.2.1))] := hD.sub [0, 1, 2, 3, 4, 5] (by decide) rfl
  refine my_bz_ne (x := z1.1) (tgt := 23) hx hb dX6_down_5 (by decide) (fun c2 => ?_) (fun c2 => ?_)
  · rw [if_neg c2] at hf
    refine lv_iconst (v := 0) hx hb dX6_down_23 (by decide) ?_
    have hP9 : va_P D vwCl (wM cC cI cJ h0 h1 h2 h3 h4 h5 z1.2) _ := hP
    have hD9 : va_D A (wM cC cI cJ h0 h1 h2 h3 h4 h5 z1.2) := hD
    have hf := Option.some.inj hf
    have hf1 := congrArg Prod.fst hf
    have hf2 := congrArg Prod.snd hf
    exact W.iret (v := 0) hx hb hr (fun t ht hW => ⟨⟨0, z1.2, rfl, ⟨hf1, hf2⟩, by rw [ht]; exact hP9, va_K.moved hW.alike hK, hD9⟩, hS.F ht⟩) hS.2.2 dX6_down_24
  · rw [if_pos c2] at hf
    refine lv_aload_n hx hb dX6_down_8 rfl (lv_at hl 0 rfl) ?_
    refine lv_iload_n hx hb dX6_down_9 rfl (lv_at hl 2 rfl) ?_
    refine lv_iconst (v := 0) hx hb dX6_down_10 (by decide) ?_
    refine lv_bipush (v := 64) hx hb dX6_down_11 (by decide) ?_
    refine my_callPi (As := [.int a1, .int 0, .int 64]) (n := 3) (rest := [.ref h0]) ⟨hx, hb, hml, hown, hts⟩ (m_X6_in l a1 0 64 _ rfl) gX6_down_X6_in rfl ⟨rfl, rfl⟩ (by decide +kernel) ⟨Nat.le_of_ble_eq_true rfl, Nat.le_of_ble_eq_true rfl⟩ ⟨Nat.le_of_ble_eq_true rfl, Nat.le_of_ble_eq_true rfl⟩ hl.1 rfl rfl (Nat.le_of_ble_eq_true rfl) dX6_down_13 ?_
    refine lv_iconst (v := 2) hx hb dX6_down_16 (by decide) ?_
    refine my_callMi (As := [.int (b2i (f_X6_in a1 0 64)), .int 2]) (n := 2) (rest := []) (wr := []) ⟨hx, hb, hml, hown, hts⟩ hK hP hD hS hA [0, 1, 2, 3, 4, 5] [] rfl rfl (by decide) (by decide) (by decide) (m_X6_no l D cC cI cJ h0 h1 h2 h3 h4 h5 z1.2 H.size (f_X6_in a1 0 64) 2 _ (no_b z1.2 (f_X6_in a1 0 64) 2)) gX6_down_X6_no rfl ⟨rfl, rfl⟩ (ci := 5) rfl rfl (by decide +kernel) ⟨Nat.le_of_ble_eq_true rfl, Nat.le_of_ble_eq_true rfl⟩ ⟨Nat.le_of_ble_eq_true rfl, Nat.le_of_ble_eq_true rfl⟩ hl.1 rfl rfl (Nat.le_of_ble_eq_true rfl) dX6_down_17 (fun r9 u9 H locs hw hP hD hS => ?_)
    obtain ⟨rfl, rfl⟩ := hw
    have hP : va_P D vwCl [(h0, .inr (5, [.ref h1, .ref h2, .ref h3, .int z1.2.2.2.2.1, .ref h4, .ref h5, .int z1.2.2.2.2.2.2.2.1, .int (if (f_X6_in a1 0 64) = true then 0 else 2)])), (h1, .inl (cJ, 8, .inr (.inl z1.2.1))), (h2, .inl (cI, 8, .inl z1.2.2.1)), (h3, .inl (cJ, 8, .inr (.inl z1.2.2.2.1))), (h4, .inl (cC, 40, .inl z1.2.2.2.2.2.1)), (h5, .inl (cI, 40, .inl z1.2.2.2.2.2.2.1))] H := hP.sub [0, 1, 2, 3, 4, 5] rfl
    have hD : va_D A [(h0, .inr (5, [.ref h1, .ref h2, .ref h3, .int z1.2.2.2.2.1, .ref h4, .ref h5, .int z1.2.2.2.2.2.2.2.1, .int (if (f_X6_in a1 0 64) = true then 0 else 2)])), (h1, .inl (cJ, 8, .inr (.inl z1.2.1))), (h2, .inl (cI, 8, .inl z1.2.2.1)), (h3, .inl (cJ, 8, .inr (.inl z1.2.2.2.1))), (h4, .inl (cC, 40, .inl z1.2.2.2.2.2.1)), (h5, .inl (cI, 40, .inl z1.2.2.2.2.2.2.1))] := hD.sub [0, 1, 2, 3, 4, 5] (by decide) rfl
    refine my_bz_eq (x := (!(f_X6_in a1 0 64))) (tgt := 25) hx hb dX6_down_20 (by decide) (fun c3 => ?_) (fun c3 => ?_)
    · rw [if_pos c3] at hf
      refine lv_aload_n hx hb dX6_down_25 rfl (lv_at hl 0 rfl) ?_
      refine lv_iload_n hx hb dX6_down_26 rfl (lv_at hl 1 rfl) ?_
      refine lv_iload_n hx hb dX6_down_27 rfl (lv_at hl 2 rfl) ?_
      refine lv_bipush (v := 100) hx hb dX6_down_28 (by decide) ?_
      refine lv_lconst (v := 0) hx hb dX6_down_30 (by decide) ?_
      obtain ⟨z4, ez4, hf⟩ := ob_e hf
      refine my_callMi (As := [.int a0, .int a1, .int 100, .long 0]) (n := 4) (rest := []) (wr := []) ⟨hx, hb, hml, hown, hts⟩ hK hP hD hS hA [0, 1, 2, 3, 4, 5] [] rfl rfl (by decide) (by decide) (by decide) (m_X6_steps l D cC cI cJ h0 h1 h2 h3 h4 h5 (z1.2.1, (z1.2.2.1, (z1.2.2.2.1, (z1.2.2.2.2.1, (z1.2.2.2.2.2.1, (z1.2.2.2.2.2.2.1, (z1.2.2.2.2.2.2.2.1, (if (f_X6_in a1 0 64) = true then 0 else 2)))))))) H.size a0 a1 100 0 _ ez4) gX6_down_X6_steps rfl ⟨rfl, rfl⟩ (ci := 5) rfl rfl (by decide +kernel) ⟨Nat.le_of_ble_eq_true rfl, Nat.le_of_ble_eq_true rfl⟩ ⟨Nat.le_of_ble_eq_true rfl, Nat.le_of_ble_eq_true rfl⟩ hl.1 rfl rfl (Nat.le_of_ble_eq_true rfl) dX6_down_31 (fun r9 u9 H locs hw hP hD hS => ?_)
      obtain ⟨rfl, rfl⟩ := hw
      have hP : va_P D vwCl [(h0, .inr (5, [.ref h1, .ref h2, .ref h3, .int z4.2.2.2.2.1, .ref h4, .ref h5, .int z4.2.2.2.2.2.2.2.1, .int z4.2.2.2.2.2.2.2.2])), (h1, .inl (cJ, 8, .inr (.inl z4.2.1))), (h2, .inl (cI, 8, .inl z4.2.2.1)), (h3, .inl (cJ, 8, .inr (.inl z4.2.2.2.1))), (h4, .inl (cC, 40, .inl z4.2.2.2.2.2.1)), (h5, .inl (cI, 40, .inl z4.2.2.2.2.2.2.1))] H := hP.sub [0, 1, 2, 3, 4, 5] rfl
      have hD : va_D A [(h0, .inr (5, [.ref h1, .ref h2, .ref h3, .int z4.2.2.2.2.1, .ref h4, .ref h5, .int z4.2.2.2.2.2.2.2.1, .int z4.2.2.2.2.2.2.2.2])), (h1, .inl (cJ, 8, .inr (.inl z4.2.1))), (h2, .inl (cI, 8, .inl z4.2.2.1)), (h3, .inl (cJ, 8, .inr (.inl z4.2.2.2.1))), (h4, .inl (cC, 40, .inl z4.2.2.2.2.2.1)), (h5, .inl (cI, 40, .inl z4.2.2.2.2.2.2.1))] := hD.sub [0, 1, 2, 3, 4, 5] (by decide) rfl
      have hP9 : va_P D vwCl (wM cC cI cJ h0 h1 h2 h3 h4 h5 z4.2) _ := hP
      have hD9 : va_D A (wM cC cI cJ h0 h1 h2 h3 h4 h5 z4.2) := hD
      have hf := Option.some.inj hf
      have hf1 := congrArg Prod.fst hf
      have hf2 := congrArg Prod.snd hf
      exact W.iret (v := z4.1) hx hb hr (fun t ht hW => ⟨⟨z4.1, z4.2, rfl, ⟨hf1, hf2⟩, by rw [ht]; exact hP9, va_K.moved hW.alike hK, hD9⟩, hS.F ht⟩) hS.2.2 dX6_down_34
    · rw [if_neg c3] at hf
      refine lv_iconst (v := 0) hx hb dX6_down_23 (by decide) ?_
      have hP9 : va_P D vwCl (wM cC cI cJ h0 h1 h2 h3 h4 h5 (z1.2.1, (z1.2.2.1, (z1.2.2.2.1, (z1.2.2.2.2.1, (z1.2.2.2.2.2.1, (z1.2.2.2.2.2.2.1, (z1.2.2.2.2.2.2.2.1, (if (f_X6_in a1 0 64) = true then 0 else 2))))))))) _ := hP
      have hD9 : va_D A (wM cC cI cJ h0 h1 h2 h3 h4 h5 (z1.2.1, (z1.2.2.1, (z1.2.2.2.1, (z1.2.2.2.2.1, (z1.2.2.2.2.2.1, (z1.2.2.2.2.2.2.1, (z1.2.2.2.2.2.2.2.1, (if (f_X6_in a1 0 64) = true then 0 else 2))))))))) := hD
      have hf := Option.some.inj hf
      have hf1 := congrArg Prod.fst hf
      have hf2 := congrArg Prod.snd hf
      exact W.iret (v := 0) hx hb hr (fun t ht hW => ⟨⟨0, (z1.2.1, (z1.2.2.1, (z1.2.2.2.1, (z1.2.2.2.2.1, (z1.2.2.2.2.2.1, (z1.2.2.2.2.2.2.1, (z1.2.2.2.2.2.2.2.1, (if (f_X6_in a1 0 64) = true then 0 else 2)))))))), rfl, ⟨hf1, hf2⟩, by rw [ht]; exact hP9, va_K.moved hW.alike hK, hD9⟩, hS.F ht⟩) hS.2.2 dX6_down_24

set_option maxHeartbeats 4000000 in
set_option maxRecDepth 100000 in
theorem m_X6_toward (l : Launch) (D : va_G) (cC cI cJ : ClassId) (h0 h1 h2 h3 h4 h5 : Nat) (u : StM) (sz : Nat) (a0 : Int32) (a1 : Int32) (a2 : Int32) (res : Int32 × StM) (hf : f_X6_toward u a0 a1 a2 = some res) : Met l yX6_toward wsX6_toward rmX6_toward (my_PcM D vwCl (KT cC cI cJ) sz (wM cC cI cJ h0 h1 h2 h3 h4 h5 u) [.ref h0, .int a0, .int a1, .int a2]) (va_Qi (fun r v => r = res.1 ∧ v = res.2) (my_B D vwCl (KT cC cI cJ) (va_A (wM cC cI cJ h0 h1 h2 h3 h4 h5 u) sz) (fun v : StM => (wM cC cI cJ h0 h1 h2 h3 h4 h5 v))) (va_A (wM cC cI cJ h0 h1 h2 h3 h4 h5 u) sz)) 0 0 (va_A (wM cC cI cJ h0 h1 h2 h3 h4 h5 u) sz) := by
  refine Met.ofW (cc := cX6_toward) (maxL := 4) (ret := (some .int)) (by decide) rfl ?_
  intro p e s m args below meth c s₁ B hml hv
  obtain ⟨rfl, hsz, hP, hK, hD0⟩ := hv
  have hx := B.exec
  have hb := B.bytes
  have hr := B.returns
  have hts : ∀ w ∈ wsX6_toward, w.before ([.ref h0, .int a0, .int a1, .int a2] : List Value).toArray s = true := atoms_spec (ws := wsX6_toward) B.pre
  have hown : s.vm.findClass RX6 = some m.cls := findClass_of_methodNamed B.named
  have hlk : meth.locks = false := B.notSynchronized
  subst hsz
  have hD := hD0.self (sz := s.heap.size)
  generalize hAe : va_A (wM cC cI cJ h0 h1 h2 h3 h4 h5 u) s.heap.size = A at hD ⊢
  have hA : ∀ q : Nat, s.heap.size ≤ q → A q := fun q h => by rw [← hAe]; exact Or.inr h
  have hS : va_S A s.heap s.heap [] := va_S.rf
  have hP : va_P D vwCl [(h0, .inr (5, [.ref h1, .ref h2, .ref h3, .int u.2.2.2.1, .ref h4, .ref h5, .int u.2.2.2.2.2.2.1, .int u.2.2.2.2.2.2.2])), (h1, .inl (cJ, 8, .inr (.inl u.1))), (h2, .inl (cI, 8, .inl u.2.1)), (h3, .inl (cJ, 8, .inr (.inl u.2.2.1))), (h4, .inl (cC, 40, .inl u.2.2.2.2.1)), (h5, .inl (cI, 40, .inl u.2.2.2.2.2.1))] s.heap := hP
  have hD : va_D A [(h0, .inr (5, [.ref h1, .ref h2, .ref h3, .int u.2.2.2.1, .ref h4, .ref h5, .int u.2.2.2.2.2.2.1, .int u.2.2.2.2.2.2.2])), (h1, .inl (cJ, 8, .inr (.inl u.1))), (h2, .inl (cI, 8, .inl u.2.1)), (h3, .inl (cJ, 8, .inr (.inl u.2.2.1))), (h4, .inl (cC, 40, .inl u.2.2.2.2.1)), (h5, .inl (cI, 40, .inl u.2.2.2.2.2.1))] := hD
  have q1 := hts (.fieldLink RX6 9 "DoublelineModel" "codes" "[J") (by decide +kernel)
  have q2 : ∀ w ∈ u_ws RX6 TX6 8, w ∈ wsX6_toward := by decide +kernel
  have hl := lv_entry ([.ref h0, .int a0, .int a1, .int a2]) (n := 4) (Nat.le_of_ble_eq_true rfl)
  rw [lg_entry_eq]
  generalize (lg_sl ([.ref h0, .int a0, .int a1, .int a2]) ++ List.replicate (4 - (lg_sl ([.ref h0, .int a0, .int a1, .int a2])).length) Slot.unset).toArray = ls at hl ⊢
  have hl : lv_has ls 4 [(0, .ref h0), (1, .int a0), (2, .int a1), (3, .int a2)] := hl
  unfold f_X6_toward at hf
  refine lv_aload_n hx hb dX6_toward_0 rfl (lv_at hl 0 rfl) ?_
  refine lv_iload_n hx hb dX6_toward_1 rfl (lv_at hl 1 rfl) ?_
  refine lv_iload_n hx hb dX6_toward_2 rfl (lv_at hl 2 rfl) ?_
  obtain ⟨z1, ez1, hf⟩ := ob_e hf
  refine my_callMi (As := [.int a0, .int a1]) (n := 2) (rest := []) (wr := []) ⟨hx, hb, hml, hown, hts⟩ hK hP hD hS hA [0, 1, 2, 3, 4, 5] [] rfl rfl (by decide) (by decide) (by decide) (m_X6_lacks_ l D cC cI cJ h0 h1 h2 h3 h4 h5 u s.heap.size a0 a1 _ ez1) gX6_toward_X6_lacks_ rfl ⟨rfl, rfl⟩ (ci := 5) rfl rfl (by decide +kernel) ⟨Nat.le_of_ble_eq_true rfl, Nat.le_of_ble_eq_true rfl⟩ ⟨Nat.le_of_ble_eq_true rfl, Nat.le_of_ble_eq_true rfl⟩ hl.1 rfl rfl (Nat.le_of_ble_eq_true rfl) dX6_toward_3 (fun r9 u9 H locs hw hP hD hS => ?_)
  obtain ⟨rfl, rfl⟩ := hw
  have hP : va_P D vwCl [(h0, .inr (5, [.ref h1, .ref h2, .ref h3, .int z1.2.2.2.2.1, .ref h4, .ref h5, .int z1.2.2.2.2.2.2.2.1, .int z1.2.2.2.2.2.2.2.2])), (h1, .inl (cJ, 8, .inr (.inl z1.2.1))), (h2, .inl (cI, 8, .inl z1.2.2.1)), (h3, .inl (cJ, 8, .inr (.inl z1.2.2.2.1))), (h4, .inl (cC, 40, .inl z1.2.2.2.2.2.1)), (h5, .inl (cI, 40, .inl z1.2.2.2.2.2.2.1))] H := hP.sub [0, 1, 2, 3, 4, 5] rfl
  have hD : va_D A [(h0, .inr (5, [.ref h1, .ref h2, .ref h3, .int z1.2.2.2.2.1, .ref h4, .ref h5, .int z1.2.2.2.2.2.2.2.1, .int z1.2.2.2.2.2.2.2.2])), (h1, .inl (cJ, 8, .inr (.inl z1.2.1))), (h2, .inl (cI, 8, .inl z1.2.2.1)), (h3, .inl (cJ, 8, .inr (.inl z1.2.2.2.1))), (h4, .inl (cC, 40, .inl z1.2.2.2.2.2.1)), (h5, .inl (cI, 40, .inl z1.2.2.2.2.2.2.1))] := hD.sub [0, 1, 2, 3, 4, 5] (by decide) rfl
  refine my_bz_ne (x := z1.1) (tgt := 24) hx hb dX6_toward_6 (by decide) (fun c2 => ?_) (fun c2 => ?_)
  · rw [if_neg c2] at hf
    refine lv_iconst (v := 0) hx hb dX6_toward_24 (by decide) ?_
    have hP9 : va_P D vwCl (wM cC cI cJ h0 h1 h2 h3 h4 h5 z1.2) _ := hP
    have hD9 : va_D A (wM cC cI cJ h0 h1 h2 h3 h4 h5 z1.2) := hD
    have hf := Option.some.inj hf
    have hf1 := congrArg Prod.fst hf
    have hf2 := congrArg Prod.snd hf
    exact W.iret (v := 0) hx hb hr (fun t ht hW => ⟨⟨0, z1.2, rfl, ⟨hf1, hf2⟩, by rw [ht]; exact hP9, va_K.moved hW.alike hK, hD9⟩, hS.F ht⟩) hS.2.2 dX6_toward_25
  · rw [if_pos c2] at hf
    refine lv_aload_n hx hb dX6_toward_9 rfl (lv_at hl 0 rfl) ?_
    refine lv_iload_n hx hb dX6_toward_10 rfl (lv_at hl 3 rfl) ?_
    refine lv_iconst (v := 0) hx hb dX6_toward_11 (by decide) ?_
    refine lv_bipush (v := 64) hx hb dX6_toward_12 (by decide) ?_
    refine my_callPi (As := [.int a2, .int 0, .int 64]) (n := 3) (rest := [.ref h0]) ⟨hx, hb, hml, hown, hts⟩ (m_X6_in l a2 0 64 _ rfl) gX6_toward_X6_in rfl ⟨rfl, rfl⟩ (by decide +kernel) ⟨Nat.le_of_ble_eq_true rfl, Nat.le_of_ble_eq_true rfl⟩ ⟨Nat.le_of_ble_eq_true rfl, Nat.le_of_ble_eq_true rfl⟩ hl.1 rfl rfl (Nat.le_of_ble_eq_true rfl) dX6_toward_14 ?_
    refine lv_iconst (v := 2) hx hb dX6_toward_17 (by decide) ?_
    refine my_callMi (As := [.int (b2i (f_X6_in a2 0 64)), .int 2]) (n := 2) (rest := []) (wr := []) ⟨hx, hb, hml, hown, hts⟩ hK hP hD hS hA [0, 1, 2, 3, 4, 5] [] rfl rfl (by decide) (by decide) (by decide) (m_X6_no l D cC cI cJ h0 h1 h2 h3 h4 h5 z1.2 H.size (f_X6_in a2 0 64) 2 _ (no_b z1.2 (f_X6_in a2 0 64) 2)) gX6_toward_X6_no rfl ⟨rfl, rfl⟩ (ci := 5) rfl rfl (by decide +kernel) ⟨Nat.le_of_ble_eq_true rfl, Nat.le_of_ble_eq_true rfl⟩ ⟨Nat.le_of_ble_eq_true rfl, Nat.le_of_ble_eq_true rfl⟩ hl.1 rfl rfl (Nat.le_of_ble_eq_true rfl) dX6_toward_18 (fun r9 u9 H locs hw hP hD hS => ?_)
    obtain ⟨rfl, rfl⟩ := hw
    have hP : va_P D vwCl [(h0, .inr (5, [.ref h1, .ref h2, .ref h3, .int z1.2.2.2.2.1, .ref h4, .ref h5, .int z1.2.2.2.2.2.2.2.1, .int (if (f_X6_in a2 0 64) = true then 0 else 2)])), (h1, .inl (cJ, 8, .inr (.inl z1.2.1))), (h2, .inl (cI, 8, .inl z1.2.2.1)), (h3, .inl (cJ, 8, .inr (.inl z1.2.2.2.1))), (h4, .inl (cC, 40, .inl z1.2.2.2.2.2.1)), (h5, .inl (cI, 40, .inl z1.2.2.2.2.2.2.1))] H := hP.sub [0, 1, 2, 3, 4, 5] rfl
    have hD : va_D A [(h0, .inr (5, [.ref h1, .ref h2, .ref h3, .int z1.2.2.2.2.1, .ref h4, .ref h5, .int z1.2.2.2.2.2.2.2.1, .int (if (f_X6_in a2 0 64) = true then 0 else 2)])), (h1, .inl (cJ, 8, .inr (.inl z1.2.1))), (h2, .inl (cI, 8, .inl z1.2.2.1)), (h3, .inl (cJ, 8, .inr (.inl z1.2.2.2.1))), (h4, .inl (cC, 40, .inl z1.2.2.2.2.2.1)), (h5, .inl (cI, 40, .inl z1.2.2.2.2.2.2.1))] := hD.sub [0, 1, 2, 3, 4, 5] (by decide) rfl
    refine my_bz_eq (x := (!(f_X6_in a2 0 64))) (tgt := 26) hx hb dX6_toward_21 (by decide) (fun c3 => ?_) (fun c3 => ?_)
    · rw [if_pos c3] at hf
      refine lv_aload_n hx hb dX6_toward_26 rfl (lv_at hl 0 rfl) ?_
      refine lv_iload_n hx hb dX6_toward_27 rfl (lv_at hl 1 rfl) ?_
      refine lv_iload_n hx hb dX6_toward_28 rfl (lv_at hl 3 rfl) ?_
      refine lv_bipush (v := 116) hx hb dX6_toward_29 (by decide) ?_
      refine lv_aload_n hx hb dX6_toward_31 rfl (lv_at hl 0 rfl) ?_
      refine va_get (D := D) (ci := 5) (v := .ref h1) (C := RX6) (T := TX6) (N := 8) hx hb hts q2 hown hK hP 0 rfl rfl 0 (by decide) q1 (fun _ h9 => h9) rfl dX6_toward_32 ?_
      refine lv_iload_n hx hb dX6_toward_35 rfl (lv_at hl 2 rfl) ?_
      obtain ⟨g4, hf⟩ := og_e hf
      refine va_lald hx hb hK hP 1 2 rfl rfl g4 dX6_toward_36 ?_
      obtain ⟨z5, ez5, hf⟩ := ob_e hf
      refine my_callMi (As := [.int a0, .int a2, .int 116, .long (z1.2.1 a1.toNatClampNeg)]) (n := 4) (rest := []) (wr := []) ⟨hx, hb, hml, hown, hts⟩ hK hP hD hS hA [0, 1, 2, 3, 4, 5] [] rfl rfl (by decide) (by decide) (by decide) (m_X6_steps l D cC cI cJ h0 h1 h2 h3 h4 h5 (z1.2.1, (z1.2.2.1, (z1.2.2.2.1, (z1.2.2.2.2.1, (z1.2.2.2.2.2.1, (z1.2.2.2.2.2.2.1, (z1.2.2.2.2.2.2.2.1, (if (f_X6_in a2 0 64) = true then 0 else 2)))))))) H.size a0 a2 116 (z1.2.1 a1.toNatClampNeg) _ ez5) gX6_toward_X6_steps rfl ⟨rfl, rfl⟩ (ci := 5) rfl rfl (by decide +kernel) ⟨Nat.le_of_ble_eq_true rfl, Nat.le_of_ble_eq_true rfl⟩ ⟨Nat.le_of_ble_eq_true rfl, Nat.le_of_ble_eq_true rfl⟩ hl.1 rfl rfl (Nat.le_of_ble_eq_true rfl) dX6_toward_37 (fun r9 u9 H locs hw hP hD hS => ?_)
      obtain ⟨rfl, rfl⟩ := hw
      have hP : va_P D vwCl [(h0, .inr (5, [.ref h1, .ref h2, .ref h3, .int z5.2.2.2.2.1, .ref h4, .ref h5, .int z5.2.2.2.2.2.2.2.1, .int z5.2.2.2.2.2.2.2.2])), (h1, .inl (cJ, 8, .inr (.inl z5.2.1))), (h2, .inl (cI, 8, .inl z5.2.2.1)), (h3, .inl (cJ, 8, .inr (.inl z5.2.2.2.1))), (h4, .inl (cC, 40, .inl z5.2.2.2.2.2.1)), (h5, .inl (cI, 40, .inl z5.2.2.2.2.2.2.1))] H := hP.sub [0, 1, 2, 3, 4, 5] rfl
      have hD : va_D A [(h0, .inr (5, [.ref h1, .ref h2, .ref h3, .int z5.2.2.2.2.1, .ref h4, .ref h5, .int z5.2.2.2.2.2.2.2.1, .int z5.2.2.2.2.2.2.2.2])), (h1, .inl (cJ, 8, .inr (.inl z5.2.1))), (h2, .inl (cI, 8, .inl z5.2.2.1)), (h3, .inl (cJ, 8, .inr (.inl z5.2.2.2.1))), (h4, .inl (cC, 40, .inl z5.2.2.2.2.2.1)), (h5, .inl (cI, 40, .inl z5.2.2.2.2.2.2.1))] := hD.sub [0, 1, 2, 3, 4, 5] (by decide) rfl
      have hP9 : va_P D vwCl (wM cC cI cJ h0 h1 h2 h3 h4 h5 z5.2) _ := hP
      have hD9 : va_D A (wM cC cI cJ h0 h1 h2 h3 h4 h5 z5.2) := hD
      have hf := Option.some.inj hf
      have hf1 := congrArg Prod.fst hf
      have hf2 := congrArg Prod.snd hf
      exact W.iret (v := z5.1) hx hb hr (fun t ht hW => ⟨⟨z5.1, z5.2, rfl, ⟨hf1, hf2⟩, by rw [ht]; exact hP9, va_K.moved hW.alike hK, hD9⟩, hS.F ht⟩) hS.2.2 dX6_toward_40
    · rw [if_neg c3] at hf
      refine lv_iconst (v := 0) hx hb dX6_toward_24 (by decide) ?_
      have hP9 : va_P D vwCl (wM cC cI cJ h0 h1 h2 h3 h4 h5 (z1.2.1, (z1.2.2.1, (z1.2.2.2.1, (z1.2.2.2.2.1, (z1.2.2.2.2.2.1, (z1.2.2.2.2.2.2.1, (z1.2.2.2.2.2.2.2.1, (if (f_X6_in a2 0 64) = true then 0 else 2))))))))) _ := hP
      have hD9 : va_D A (wM cC cI cJ h0 h1 h2 h3 h4 h5 (z1.2.1, (z1.2.2.1, (z1.2.2.2.1, (z1.2.2.2.2.1, (z1.2.2.2.2.2.1, (z1.2.2.2.2.2.2.1, (z1.2.2.2.2.2.2.2.1, (if (f_X6_in a2 0 64) = true then 0 else 2))))))))) := hD
      have hf := Option.some.inj hf
      have hf1 := congrArg Prod.fst hf
      have hf2 := congrArg Prod.snd hf
      exact W.iret (v := 0) hx hb hr (fun t ht hW => ⟨⟨0, (z1.2.1, (z1.2.2.1, (z1.2.2.2.1, (z1.2.2.2.2.1, (z1.2.2.2.2.2.1, (z1.2.2.2.2.2.2.1, (z1.2.2.2.2.2.2.2.1, (if (f_X6_in a2 0 64) = true then 0 else 2)))))))), rfl, ⟨hf1, hf2⟩, by rw [ht]; exact hP9, va_K.moved hW.alike hK, hD9⟩, hS.F ht⟩) hS.2.2 dX6_toward_25

set_option maxHeartbeats 4000000 in
set_option maxRecDepth 100000 in
theorem m_X6_placeIn (l : Launch) (D : va_G) (cC cI cJ : ClassId) (h0 h1 h2 h3 h4 h5 : Nat) (u : StM) (a0 : Int32) (res : Int64) (hf : f_X6_placeIn u a0 = some res) : Met l yX6_placeIn wsX6_placeIn rmX6_placeIn (my_PcR D vwCl (KT cC cI cJ) (wM cC cI cJ h0 h1 h2 h3 h4 h5 u) [.ref h0, .int a0]) (vp_Sl (fun z => z = res)) 0 0 (fun _ => False) := by
  refine Met.ofW (cc := cX6_placeIn) (maxL := 2) (ret := (some .long)) (by decide) rfl ?_
  intro p e s m args below meth c s₁ B hml hv
  obtain ⟨rfl, hP, hK⟩ := hv
  have hx := B.exec
  have hb := B.bytes
  have hr := B.returns
  have hts : ∀ w ∈ wsX6_placeIn, w.before ([.ref h0, .int a0] : List Value).toArray s = true := atoms_spec (ws := wsX6_placeIn) B.pre
  have hown : s.vm.findClass RX6 = some m.cls := findClass_of_methodNamed B.named
  have hlk : meth.locks = false := B.notSynchronized
  have hP : va_P D vwCl [(h0, .inr (5, [.ref h1, .ref h2, .ref h3, .int u.2.2.2.1, .ref h4, .ref h5, .int u.2.2.2.2.2.2.1, .int u.2.2.2.2.2.2.2])), (h1, .inl (cJ, 8, .inr (.inl u.1))), (h2, .inl (cI, 8, .inl u.2.1)), (h3, .inl (cJ, 8, .inr (.inl u.2.2.1))), (h4, .inl (cC, 40, .inl u.2.2.2.2.1)), (h5, .inl (cI, 40, .inl u.2.2.2.2.2.1))] s.heap := hP
  have q1 := hts (.fieldLink RX6 9 "DoublelineModel" "codes" "[J") (by decide +kernel)
  have q2 : ∀ w ∈ u_ws RX6 TX6 8, w ∈ wsX6_placeIn := by decide +kernel
  have hl := lv_entry ([.ref h0, .int a0]) (n := 2) (Nat.le_of_ble_eq_true rfl)
  rw [lg_entry_eq]
  generalize (lg_sl ([.ref h0, .int a0]) ++ List.replicate (2 - (lg_sl ([.ref h0, .int a0])).length) Slot.unset).toArray = ls at hl ⊢
  have hl : lv_has ls 2 [(0, .ref h0), (1, .int a0)] := hl
  unfold f_X6_placeIn at hf
  refine lv_aload_n hx hb dX6_placeIn_0 rfl (lv_at hl 0 rfl) ?_
  refine va_get (D := D) (ci := 5) (v := .ref h1) (C := RX6) (T := TX6) (N := 8) hx hb hts q2 hown hK hP 0 rfl rfl 0 (by decide) q1 (fun _ h9 => h9) rfl dX6_placeIn_1 ?_
  refine lv_iload_n hx hb dX6_placeIn_4 rfl (lv_at hl 1 rfl) ?_
  obtain ⟨g1, hf⟩ := og_e hf
  refine va_lald hx hb hK hP 1 2 rfl rfl g1 dX6_placeIn_5 ?_
  refine my_callPl (As := [.long (u.1 a0.toNatClampNeg)]) (n := 1) (rest := []) ⟨hx, hb, hml, hown, hts⟩ (m_X6_placeOf l (u.1 a0.toNatClampNeg) _ rfl) gX6_placeIn_X6_placeOf rfl ⟨rfl, rfl⟩ (by decide +kernel) ⟨Nat.le_of_ble_eq_true rfl, Nat.le_of_ble_eq_true rfl⟩ ⟨Nat.le_of_ble_eq_true rfl, Nat.le_of_ble_eq_true rfl⟩ hl.1 rfl rfl (Nat.le_of_ble_eq_true rfl) dX6_placeIn_6 ?_
  exact W.lret (v := (f_X6_placeOf (u.1 a0.toNatClampNeg))) hx hb hr (fun t ht hW => ⟨_, rfl, Option.some.inj hf, ht⟩) (fun q hq => absurd hq List.not_mem_nil) dX6_placeIn_9

set_option maxHeartbeats 4000000 in
set_option maxRecDepth 100000 in
theorem m_X6_walk (l : Launch) (D : va_G) (cC cI cJ : ClassId) (h0 h1 h2 h3 h4 h5 : Nat) (u : StM) (sz : Nat) (a0 : Int32) (a1 : Int32) (res : Int32 × StM) (hf : f_X6_walk u a0 a1 = some res) : Met l yX6_walk wsX6_walk rmX6_walk (my_PcM D vwCl (KT cC cI cJ) sz (wM cC cI cJ h0 h1 h2 h3 h4 h5 u) [.ref h0, .int a0, .int a1]) (va_Qi (fun r v => r = res.1 ∧ v = res.2) (my_B D vwCl (KT cC cI cJ) (va_A (wM cC cI cJ h0 h1 h2 h3 h4 h5 u) sz) (fun v : StM => (wM cC cI cJ h0 h1 h2 h3 h4 h5 v))) (va_A (wM cC cI cJ h0 h1 h2 h3 h4 h5 u) sz)) 0 0 (va_A (wM cC cI cJ h0 h1 h2 h3 h4 h5 u) sz) := by
  refine Met.ofW (cc := cX6_walk) (maxL := 6) (ret := (some .int)) (by decide) rfl ?_
  intro p e s m args below meth c s₁ B hml hv
  obtain ⟨rfl, hsz, hP, hK, hD0⟩ := hv
  have hx := B.exec
  have hb := B.bytes
  have hr := B.returns
  have hts : ∀ w ∈ wsX6_walk, w.before ([.ref h0, .int a0, .int a1] : List Value).toArray s = true := atoms_spec (ws := wsX6_walk) B.pre
  have hown : s.vm.findClass RX6 = some m.cls := findClass_of_methodNamed B.named
  have hlk : meth.locks = false := B.notSynchronized
  subst hsz
  have hD := hD0.self (sz := s.heap.size)
  generalize hAe : va_A (wM cC cI cJ h0 h1 h2 h3 h4 h5 u) s.heap.size = A at hD ⊢
  have hA : ∀ q : Nat, s.heap.size ≤ q → A q := fun q h => by rw [← hAe]; exact Or.inr h
  have hS : va_S A s.heap s.heap [] := va_S.rf
  have hP : va_P D vwCl [(h0, .inr (5, [.ref h1, .ref h2, .ref h3, .int u.2.2.2.1, .ref h4, .ref h5, .int u.2.2.2.2.2.2.1, .int u.2.2.2.2.2.2.2])), (h1, .inl (cJ, 8, .inr (.inl u.1))), (h2, .inl (cI, 8, .inl u.2.1)), (h3, .inl (cJ, 8, .inr (.inl u.2.2.1))), (h4, .inl (cC, 40, .inl u.2.2.2.2.1)), (h5, .inl (cI, 40, .inl u.2.2.2.2.2.1))] s.heap := hP
  have hD : va_D A [(h0, .inr (5, [.ref h1, .ref h2, .ref h3, .int u.2.2.2.1, .ref h4, .ref h5, .int u.2.2.2.2.2.2.1, .int u.2.2.2.2.2.2.2])), (h1, .inl (cJ, 8, .inr (.inl u.1))), (h2, .inl (cI, 8, .inl u.2.1)), (h3, .inl (cJ, 8, .inr (.inl u.2.2.1))), (h4, .inl (cC, 40, .inl u.2.2.2.2.1)), (h5, .inl (cI, 40, .inl u.2.2.2.2.2.1))] := hD
  have q1 := hts (.fieldLink RX6 9 "DoublelineModel" "codes" "[J") (by decide +kernel)
  have q2 : ∀ w ∈ u_ws RX6 TX6 8, w ∈ wsX6_walk := by decide +kernel
  have hl := lv_entry ([.ref h0, .int a0, .int a1]) (n := 6) (Nat.le_of_ble_eq_true rfl)
  rw [lg_entry_eq]
  generalize (lg_sl ([.ref h0, .int a0, .int a1]) ++ List.replicate (6 - (lg_sl ([.ref h0, .int a0, .int a1])).length) Slot.unset).toArray = ls at hl ⊢
  have hl : lv_has ls 6 [(0, .ref h0), (1, .int a0), (2, .int a1)] := hl
  unfold f_X6_walk at hf
  refine lv_aload_n hx hb dX6_walk_0 rfl (lv_at hl 0 rfl) ?_
  refine lv_iload_n hx hb dX6_walk_1 rfl (lv_at hl 1 rfl) ?_
  refine lv_iload_n hx hb dX6_walk_2 rfl (lv_at hl 2 rfl) ?_
  obtain ⟨z1, ez1, hf⟩ := ob_e hf
  refine my_callMi (As := [.int a0, .int a1]) (n := 2) (rest := []) (wr := []) ⟨hx, hb, hml, hown, hts⟩ hK hP hD hS hA [0, 1, 2, 3, 4, 5] [] rfl rfl (by decide) (by decide) (by decide) (m_X6_lacks_ l D cC cI cJ h0 h1 h2 h3 h4 h5 u s.heap.size a0 a1 _ ez1) gX6_walk_X6_lacks_ rfl ⟨rfl, rfl⟩ (ci := 5) rfl rfl (by decide +kernel) ⟨Nat.le_of_ble_eq_true rfl, Nat.le_of_ble_eq_true rfl⟩ ⟨Nat.le_of_ble_eq_true rfl, Nat.le_of_ble_eq_true rfl⟩ hl.1 rfl rfl (Nat.le_of_ble_eq_true rfl) dX6_walk_3 (fun r9 u9 H locs hw hP hD hS => ?_)
  obtain ⟨rfl, rfl⟩ := hw
  have hP : va_P D vwCl [(h0, .inr (5, [.ref h1, .ref h2, .ref h3, .int z1.2.2.2.2.1, .ref h4, .ref h5, .int z1.2.2.2.2.2.2.2.1, .int z1.2.2.2.2.2.2.2.2])), (h1, .inl (cJ, 8, .inr (.inl z1.2.1))), (h2, .inl (cI, 8, .inl z1.2.2.1)), (h3, .inl (cJ, 8, .inr (.inl z1.2.2.2.1))), (h4, .inl (cC, 40, .inl z1.2.2.2.2.2.1)), (h5, .inl (cI, 40, .inl z1.2.2.2.2.2.2.1))] H := hP.sub [0, 1, 2, 3, 4, 5] rfl
  have hD : va_D A [(h0, .inr (5, [.ref h1, .ref h2, .ref h3, .int z1.2.2.2.2.1, .ref h4, .ref h5, .int z1.2.2.2.2.2.2.2.1, .int z1.2.2.2.2.2.2.2.2])), (h1, .inl (cJ, 8, .inr (.inl z1.2.1))), (h2, .inl (cI, 8, .inl z1.2.2.1)), (h3, .inl (cJ, 8, .inr (.inl z1.2.2.2.1))), (h4, .inl (cC, 40, .inl z1.2.2.2.2.2.1)), (h5, .inl (cI, 40, .inl z1.2.2.2.2.2.2.1))] := hD.sub [0, 1, 2, 3, 4, 5] (by decide) rfl
  refine my_bz_eq (x := z1.1) (tgt := 11) hx hb dX6_walk_6 (by decide) (fun c2 => ?_) (fun c2 => ?_)
  · rw [if_pos c2] at hf
    refine lv_aload_n hx hb dX6_walk_11 rfl (lv_at hl 0 rfl) ?_
    refine va_get (D := D) (ci := 5) (v := .ref h1) (C := RX6) (T := TX6) (N := 8) hx hb hts q2 hown hK hP 0 rfl rfl 0 (by decide) q1 (fun _ h9 => h9) rfl dX6_walk_12 ?_
    refine lv_iload_n hx hb dX6_walk_15 rfl (lv_at hl 1 rfl) ?_
    obtain ⟨g3, hf⟩ := og_e hf
    refine va_lald hx hb hK hP 1 2 rfl rfl g3 dX6_walk_16 ?_
    refine lv_lstore_n (lv' := [(3, .long (z1.2.1 a0.toNatClampNeg)), (0, .ref h0), (1, .int a0), (2, .int a1)]) hx hb dX6_walk_17 rfl hl (by decide) rfl (fun ls hl => ?_)
    refine lv_iconst (v := 0) hx hb dX6_walk_18 (by decide) ?_
    refine lv_istore (lv' := [(5, .int 0), (3, .long (z1.2.1 a0.toNatClampNeg)), (0, .ref h0), (1, .int a0), (2, .int a1)]) hx hb dX6_walk_19 hl (by decide) rfl (fun ls hl => ?_)
    have loop21 : ∀ (n21 : Nat) (v21_5 : Int32) (v21_3 : Int64) (s21 : StM) (H : Heap) (locs : List Loc) (hP : va_P D vwCl [(h0, .inr (5, [.ref h1, .ref h2, .ref h3, .int s21.2.2.2.1, .ref h4, .ref h5, .int s21.2.2.2.2.2.2.1, .int s21.2.2.2.2.2.2.2])), (h1, .inl (cJ, 8, .inr (.inl s21.1))), (h2, .inl (cI, 8, .inl s21.2.1)), (h3, .inl (cJ, 8, .inr (.inl s21.2.2.1))), (h4, .inl (cC, 40, .inl s21.2.2.2.2.1)), (h5, .inl (cI, 40, .inl s21.2.2.2.2.2.1))] H) (hD : va_D A [(h0, .inr (5, [.ref h1, .ref h2, .ref h3, .int s21.2.2.2.1, .ref h4, .ref h5, .int s21.2.2.2.2.2.2.1, .int s21.2.2.2.2.2.2.2])), (h1, .inl (cJ, 8, .inr (.inl s21.1))), (h2, .inl (cI, 8, .inl s21.2.1)), (h3, .inl (cJ, 8, .inr (.inl s21.2.2.1))), (h4, .inl (cC, 40, .inl s21.2.2.2.2.1)), (h5, .inl (cI, 40, .inl s21.2.2.2.2.2.1))]) (hS : va_S A s.heap H locs) (ls : Array Slot), lv_has ls 6 [(5, .int v21_5), (3, .long v21_3), (0, .ref h0), (2, .int a1)] → f_X6_walk_L21 u a0 a1 n21 v21_5 v21_3 s21 = some res → W p l e (rmX6_walk) s m ([.ref h0, .int a0, .int a1] : List Value).toArray below meth c H locs 0 0 (MQ below (va_Qi (fun r v => r = res.1 ∧ v = res.2) (my_B D vwCl (KT cC cI cJ) A (fun v : StM => (wM cC cI cJ h0 h1 h2 h3 h4 h5 v))) A) ([.ref h0, .int a0, .int a1] : List Value).toArray s 0 0 A) (F0 m 21 ls []) := by
      intro n21
      induction n21 with
      | zero => intro v21_5 v21_3 s21 H locs hP hD hS ls hl hf; rw [f_X6_walk_L21] at hf; cases hf
      | succ n21 ih21 =>
        intro v21_5 v21_3 s21 H locs hP hD hS ls hl hf
        rw [f_X6_walk_L21] at hf
        refine lv_iload hx hb dX6_walk_21 (lv_at hl 0 rfl) ?_
        refine lv_bipush (v := 64) hx hb dX6_walk_23 (by decide) ?_
        refine my_ic_gt (tgt := 61) hx hb dX6_walk_25 (by decide) (fun c4 => ?_) (fun c4 => ?_)
        · rw [if_pos c4] at hf
          refine lv_iconst (v := (-1)) hx hb dX6_walk_61 (by decide) ?_
          have hP9 : va_P D vwCl (wM cC cI cJ h0 h1 h2 h3 h4 h5 s21) _ := hP
          have hD9 : va_D A (wM cC cI cJ h0 h1 h2 h3 h4 h5 s21) := hD
          have hf := Option.some.inj hf
          have hf1 := congrArg Prod.fst hf
          have hf2 := congrArg Prod.snd hf
          exact W.iret (v := (-1)) hx hb hr (fun t ht hW => ⟨⟨(-1), s21, rfl, ⟨hf1, hf2⟩, by rw [ht]; exact hP9, va_K.moved hW.alike hK, hD9⟩, hS.F ht⟩) hS.2.2 dX6_walk_62
        · rw [if_neg c4] at hf
          refine lv_lload_n hx hb dX6_walk_28 rfl (lv_at hl 1 rfl) ?_
          refine my_callPl (As := [.long v21_3]) (n := 1) (rest := []) ⟨hx, hb, hml, hown, hts⟩ (m_X6_placeOf l v21_3 _ rfl) gX6_walk_X6_placeOf rfl ⟨rfl, rfl⟩ (by decide +kernel) ⟨Nat.le_of_ble_eq_true rfl, Nat.le_of_ble_eq_true rfl⟩ ⟨Nat.le_of_ble_eq_true rfl, Nat.le_of_ble_eq_true rfl⟩ hl.1 rfl rfl (Nat.le_of_ble_eq_true rfl) dX6_walk_29 ?_
          refine lv_aload_n hx hb dX6_walk_32 rfl (lv_at hl 2 rfl) ?_
          refine lv_iload_n hx hb dX6_walk_33 rfl (lv_at hl 3 rfl) ?_
          obtain ⟨r5, er5, hf⟩ := ob_e hf
          refine my_callRl (As := [.int a1]) (n := 1) (rest := [.long (f_X6_placeOf v21_3)]) ⟨hx, hb, hml, hown, hts⟩ hK (hP.sub (ws' := (wM cC cI cJ h0 h1 h2 h3 h4 h5 s21)) [0, 1, 2, 3, 4, 5] rfl) (m_X6_placeIn l D cC cI cJ h0 h1 h2 h3 h4 h5 s21 a1 _ er5) gX6_walk_X6_placeIn rfl ⟨rfl, rfl⟩ (ci := 5) rfl rfl (by decide +kernel) ⟨Nat.le_of_ble_eq_true rfl, Nat.le_of_ble_eq_true rfl⟩ ⟨Nat.le_of_ble_eq_true rfl, Nat.le_of_ble_eq_true rfl⟩ hl.1 rfl rfl (Nat.le_of_ble_eq_true rfl) dX6_walk_34 ?_
          refine my_lc_ne (tgt := 44) hx hb dX6_walk_37 dX6_walk_38 (by decide) (fun c6 => ?_) (fun c6 => ?_)
          · rw [if_neg c6] at hf
            refine lv_lload_n hx hb dX6_walk_44 rfl (lv_at hl 1 rfl) ?_
            refine lv_aload_n hx hb dX6_walk_45 rfl (lv_at hl 2 rfl) ?_
            refine va_get (D := D) (ci := 5) (v := .ref h1) (C := RX6) (T := TX6) (N := 8) hx hb hts q2 hown hK hP 0 rfl rfl 0 (by decide) q1 (fun _ h9 => h9) rfl dX6_walk_46 ?_
            refine lv_iload_n hx hb dX6_walk_49 rfl (lv_at hl 3 rfl) ?_
            obtain ⟨g7, hf⟩ := og_e hf
            refine va_lald hx hb hK hP 1 2 rfl rfl g7 dX6_walk_50 ?_
            refine my_callPl (As := [.long v21_3, .long (s21.1 a1.toNatClampNeg)]) (n := 2) (rest := []) ⟨hx, hb, hml, hown, hts⟩ (m_X6_nearer l v21_3 (s21.1 a1.toNatClampNeg) _ rfl) gX6_walk_X6_nearer rfl ⟨rfl, rfl⟩ (by decide +kernel) ⟨Nat.le_of_ble_eq_true rfl, Nat.le_of_ble_eq_true rfl⟩ ⟨Nat.le_of_ble_eq_true rfl, Nat.le_of_ble_eq_true rfl⟩ hl.1 rfl rfl (Nat.le_of_ble_eq_true rfl) dX6_walk_51 ?_
            refine lv_lstore_n (lv' := [(3, .long (f_X6_nearer v21_3 (s21.1 a1.toNatClampNeg))), (5, .int v21_5), (0, .ref h0), (2, .int a1)]) hx hb dX6_walk_54 rfl hl (by decide) rfl (fun ls hl => ?_)
            refine lv_iinc (v := (v21_5 + 1)) (lv' := [(5, .int (v21_5 + 1)), (3, .long (f_X6_nearer v21_3 (s21.1 a1.toNatClampNeg))), (0, .ref h0), (2, .int a1)]) hx hb dX6_walk_55 hl (k := 1) rfl rfl (by decide) rfl (fun ls hl => ?_)
            refine lv_goto (tgt := 21) hx hb dX6_walk_58 (by decide) ?_
            exact ih21 (v21_5 + 1) (f_X6_nearer v21_3 (s21.1 a1.toNatClampNeg)) s21 _ _ hP hD hS _ (lv_sub hl [0, 1, 2, 3] rfl) hf
          · rw [if_pos c6] at hf
            refine lv_iload hx hb dX6_walk_41 (lv_at hl 0 rfl) ?_
            have hP9 : va_P D vwCl (wM cC cI cJ h0 h1 h2 h3 h4 h5 s21) _ := hP
            have hD9 : va_D A (wM cC cI cJ h0 h1 h2 h3 h4 h5 s21) := hD
            have hf := Option.some.inj hf
            have hf1 := congrArg Prod.fst hf
            have hf2 := congrArg Prod.snd hf
            exact W.iret (v := v21_5) hx hb hr (fun t ht hW => ⟨⟨v21_5, s21, rfl, ⟨hf1, hf2⟩, by rw [ht]; exact hP9, va_K.moved hW.alike hK, hD9⟩, hS.F ht⟩) hS.2.2 dX6_walk_43
    exact loop21 100 0 (z1.2.1 a0.toNatClampNeg) z1.2 _ _ hP hD hS _ (lv_sub hl [0, 1, 2, 4] rfl) hf
  · rw [if_neg c2] at hf
    refine lv_iconst (v := 0) hx hb dX6_walk_9 (by decide) ?_
    have hP9 : va_P D vwCl (wM cC cI cJ h0 h1 h2 h3 h4 h5 z1.2) _ := hP
    have hD9 : va_D A (wM cC cI cJ h0 h1 h2 h3 h4 h5 z1.2) := hD
    have hf := Option.some.inj hf
    have hf1 := congrArg Prod.fst hf
    have hf2 := congrArg Prod.snd hf
    exact W.iret (v := 0) hx hb hr (fun t ht hW => ⟨⟨0, z1.2, rfl, ⟨hf1, hf2⟩, by rw [ht]; exact hP9, va_K.moved hW.alike hK, hD9⟩, hS.F ht⟩) hS.2.2 dX6_walk_10

set_option maxHeartbeats 4000000 in
set_option maxRecDepth 100000 in
theorem m_X6_apart (l : Launch) (D : va_G) (cC cI cJ : ClassId) (h0 h1 h2 h3 h4 h5 : Nat) (u : StM) (sz : Nat) (a0 : Int32) (a1 : Int32) (res : Int64 × StM) (hf : f_X6_apart u a0 a1 = some res) : Met l yX6_apart wsX6_apart rmX6_apart (my_PcM D vwCl (KT cC cI cJ) sz (wM cC cI cJ h0 h1 h2 h3 h4 h5 u) [.ref h0, .int a0, .int a1]) (va_Ql (fun r v => r = res.1 ∧ v = res.2) (my_B D vwCl (KT cC cI cJ) (va_A (wM cC cI cJ h0 h1 h2 h3 h4 h5 u) sz) (fun v : StM => (wM cC cI cJ h0 h1 h2 h3 h4 h5 v))) (va_A (wM cC cI cJ h0 h1 h2 h3 h4 h5 u) sz)) 0 0 (va_A (wM cC cI cJ h0 h1 h2 h3 h4 h5 u) sz) := by
  refine Met.ofW (cc := cX6_apart) (maxL := 7) (ret := (some .long)) (by decide) rfl ?_
  intro p e s m args below meth c s₁ B hml hv
  obtain ⟨rfl, hsz, hP, hK, hD0⟩ := hv
  have hx := B.exec
  have hb := B.bytes
  have hr := B.returns
  have hts : ∀ w ∈ wsX6_apart, w.before ([.ref h0, .int a0, .int a1] : List Value).toArray s = true := atoms_spec (ws := wsX6_apart) B.pre
  have hown : s.vm.findClass RX6 = some m.cls := findClass_of_methodNamed B.named
  have hlk : meth.locks = false := B.notSynchronized
  subst hsz
  have hD := hD0.self (sz := s.heap.size)
  generalize hAe : va_A (wM cC cI cJ h0 h1 h2 h3 h4 h5 u) s.heap.size = A at hD ⊢
  have hA : ∀ q : Nat, s.heap.size ≤ q → A q := fun q h => by rw [← hAe]; exact Or.inr h
  have hS : va_S A s.heap s.heap [] := va_S.rf
  have hP : va_P D vwCl [(h0, .inr (5, [.ref h1, .ref h2, .ref h3, .int u.2.2.2.1, .ref h4, .ref h5, .int u.2.2.2.2.2.2.1, .int u.2.2.2.2.2.2.2])), (h1, .inl (cJ, 8, .inr (.inl u.1))), (h2, .inl (cI, 8, .inl u.2.1)), (h3, .inl (cJ, 8, .inr (.inl u.2.2.1))), (h4, .inl (cC, 40, .inl u.2.2.2.2.1)), (h5, .inl (cI, 40, .inl u.2.2.2.2.2.1))] s.heap := hP
  have hD : va_D A [(h0, .inr (5, [.ref h1, .ref h2, .ref h3, .int u.2.2.2.1, .ref h4, .ref h5, .int u.2.2.2.2.2.2.1, .int u.2.2.2.2.2.2.2])), (h1, .inl (cJ, 8, .inr (.inl u.1))), (h2, .inl (cI, 8, .inl u.2.1)), (h3, .inl (cJ, 8, .inr (.inl u.2.2.1))), (h4, .inl (cC, 40, .inl u.2.2.2.2.1)), (h5, .inl (cI, 40, .inl u.2.2.2.2.2.1))] := hD
  have hl := lv_entry ([.ref h0, .int a0, .int a1]) (n := 7) (Nat.le_of_ble_eq_true rfl)
  rw [lg_entry_eq]
  generalize (lg_sl ([.ref h0, .int a0, .int a1]) ++ List.replicate (7 - (lg_sl ([.ref h0, .int a0, .int a1])).length) Slot.unset).toArray = ls at hl ⊢
  have hl : lv_has ls 7 [(0, .ref h0), (1, .int a0), (2, .int a1)] := hl
  unfold f_X6_apart at hf
  refine lv_aload_n hx hb dX6_apart_0 rfl (lv_at hl 0 rfl) ?_
  refine lv_iload_n hx hb dX6_apart_1 rfl (lv_at hl 1 rfl) ?_
  refine lv_iload_n hx hb dX6_apart_2 rfl (lv_at hl 2 rfl) ?_
  obtain ⟨z1, ez1, hf⟩ := ob_e hf
  refine my_callMi (As := [.int a0, .int a1]) (n := 2) (rest := []) (wr := []) ⟨hx, hb, hml, hown, hts⟩ hK hP hD hS hA [0, 1, 2, 3, 4, 5] [] rfl rfl (by decide) (by decide) (by decide) (m_X6_lacks_ l D cC cI cJ h0 h1 h2 h3 h4 h5 u s.heap.size a0 a1 _ ez1) gX6_apart_X6_lacks_ rfl ⟨rfl, rfl⟩ (ci := 5) rfl rfl (by decide +kernel) ⟨Nat.le_of_ble_eq_true rfl, Nat.le_of_ble_eq_true rfl⟩ ⟨Nat.le_of_ble_eq_true rfl, Nat.le_of_ble_eq_true rfl⟩ hl.1 rfl rfl (Nat.le_of_ble_eq_true rfl) dX6_apart_3 (fun r9 u9 H locs hw hP hD hS => ?_)
  obtain ⟨rfl, rfl⟩ := hw
  have hP : va_P D vwCl [(h0, .inr (5, [.ref h1, .ref h2, .ref h3, .int z1.2.2.2.2.1, .ref h4, .ref h5, .int z1.2.2.2.2.2.2.2.1, .int z1.2.2.2.2.2.2.2.2])), (h1, .inl (cJ, 8, .inr (.inl z1.2.1))), (h2, .inl (cI, 8, .inl z1.2.2.1)), (h3, .inl (cJ, 8, .inr (.inl z1.2.2.2.1))), (h4, .inl (cC, 40, .inl z1.2.2.2.2.2.1)), (h5, .inl (cI, 40, .inl z1.2.2.2.2.2.2.1))] H := hP.sub [0, 1, 2, 3, 4, 5] rfl
  have hD : va_D A [(h0, .inr (5, [.ref h1, .ref h2, .ref h3, .int z1.2.2.2.2.1, .ref h4, .ref h5, .int z1.2.2.2.2.2.2.2.1, .int z1.2.2.2.2.2.2.2.2])), (h1, .inl (cJ, 8, .inr (.inl z1.2.1))), (h2, .inl (cI, 8, .inl z1.2.2.1)), (h3, .inl (cJ, 8, .inr (.inl z1.2.2.2.1))), (h4, .inl (cC, 40, .inl z1.2.2.2.2.2.1)), (h5, .inl (cI, 40, .inl z1.2.2.2.2.2.2.1))] := hD.sub [0, 1, 2, 3, 4, 5] (by decide) rfl
  refine my_bz_eq (x := z1.1) (tgt := 11) hx hb dX6_apart_6 (by decide) (fun c2 => ?_) (fun c2 => ?_)
  · rw [if_pos c2] at hf
    refine lv_aload_n hx hb dX6_apart_11 rfl (lv_at hl 0 rfl) ?_
    refine lv_iload_n hx hb dX6_apart_12 rfl (lv_at hl 1 rfl) ?_
    obtain ⟨r3, er3, hf⟩ := ob_e hf
    refine my_callRl (As := [.int a0]) (n := 1) (rest := []) ⟨hx, hb, hml, hown, hts⟩ hK (hP.sub (ws' := (wM cC cI cJ h0 h1 h2 h3 h4 h5 z1.2)) [0, 1, 2, 3, 4, 5] rfl) (m_X6_placeIn l D cC cI cJ h0 h1 h2 h3 h4 h5 z1.2 a0 _ er3) gX6_apart_X6_placeIn rfl ⟨rfl, rfl⟩ (ci := 5) rfl rfl (by decide +kernel) ⟨Nat.le_of_ble_eq_true rfl, Nat.le_of_ble_eq_true rfl⟩ ⟨Nat.le_of_ble_eq_true rfl, Nat.le_of_ble_eq_true rfl⟩ hl.1 rfl rfl (Nat.le_of_ble_eq_true rfl) dX6_apart_13 ?_
    refine lv_lstore_n (lv' := [(3, .long r3), (0, .ref h0), (1, .int a0), (2, .int a1)]) hx hb dX6_apart_16 rfl hl (by decide) rfl (fun ls hl => ?_)
    refine lv_aload_n hx hb dX6_apart_17 rfl (lv_at hl 1 rfl) ?_
    refine lv_iload_n hx hb dX6_apart_18 rfl (lv_at hl 3 rfl) ?_
    obtain ⟨r4, er4, hf⟩ := ob_e hf
    refine my_callRl (As := [.int a1]) (n := 1) (rest := []) ⟨hx, hb, hml, hown, hts⟩ hK (hP.sub (ws' := (wM cC cI cJ h0 h1 h2 h3 h4 h5 z1.2)) [0, 1, 2, 3, 4, 5] rfl) (m_X6_placeIn l D cC cI cJ h0 h1 h2 h3 h4 h5 z1.2 a1 _ er4) gX6_apart_X6_placeIn rfl ⟨rfl, rfl⟩ (ci := 5) rfl rfl (by decide +kernel) ⟨Nat.le_of_ble_eq_true rfl, Nat.le_of_ble_eq_true rfl⟩ ⟨Nat.le_of_ble_eq_true rfl, Nat.le_of_ble_eq_true rfl⟩ hl.1 rfl rfl (Nat.le_of_ble_eq_true rfl) dX6_apart_19 ?_
    refine lv_lstore (lv' := [(5, .long r4), (3, .long r3), (0, .ref h0), (1, .int a0), (2, .int a1)]) hx hb dX6_apart_22 hl (by decide) rfl (fun ls hl => ?_)
    refine lv_lload_n hx hb dX6_apart_24 rfl (lv_at hl 1 rfl) ?_
    refine lv_lload hx hb dX6_apart_25 (lv_at hl 0 rfl) ?_
    refine my_lc_le (tgt := 38) hx hb dX6_apart_27 dX6_apart_28 (by decide) (fun c5 => ?_) (fun c5 => ?_)
    · rw [if_neg c5] at hf
      refine lv_lload hx hb dX6_apart_38 (lv_at hl 0 rfl) ?_
      refine lv_lload_n hx hb dX6_apart_40 rfl (lv_at hl 1 rfl) ?_
      refine lv_lsub hx hb dX6_apart_41 ?_
      have hP9 : va_P D vwCl (wM cC cI cJ h0 h1 h2 h3 h4 h5 z1.2) _ := hP
      have hD9 : va_D A (wM cC cI cJ h0 h1 h2 h3 h4 h5 z1.2) := hD
      have hf := Option.some.inj hf
      have hf1 := congrArg Prod.fst hf
      have hf2 := congrArg Prod.snd hf
      exact W.lret (v := (r4 - r3)) hx hb hr (fun t ht hW => ⟨⟨(r4 - r3), z1.2, rfl, ⟨hf1, hf2⟩, by rw [ht]; exact hP9, va_K.moved hW.alike hK, hD9⟩, hS.F ht⟩) hS.2.2 dX6_apart_42
    · rw [if_pos c5] at hf
      refine lv_lload_n hx hb dX6_apart_31 rfl (lv_at hl 1 rfl) ?_
      refine lv_lload hx hb dX6_apart_32 (lv_at hl 0 rfl) ?_
      refine lv_lsub hx hb dX6_apart_34 ?_
      refine lv_goto (tgt := 42) hx hb dX6_apart_35 (by decide) ?_
      have hP9 : va_P D vwCl (wM cC cI cJ h0 h1 h2 h3 h4 h5 z1.2) _ := hP
      have hD9 : va_D A (wM cC cI cJ h0 h1 h2 h3 h4 h5 z1.2) := hD
      have hf := Option.some.inj hf
      have hf1 := congrArg Prod.fst hf
      have hf2 := congrArg Prod.snd hf
      exact W.lret (v := (r3 - r4)) hx hb hr (fun t ht hW => ⟨⟨(r3 - r4), z1.2, rfl, ⟨hf1, hf2⟩, by rw [ht]; exact hP9, va_K.moved hW.alike hK, hD9⟩, hS.F ht⟩) hS.2.2 dX6_apart_42
  · rw [if_neg c2] at hf
    refine lv_lconst (v := 0) hx hb dX6_apart_9 (by decide) ?_
    have hP9 : va_P D vwCl (wM cC cI cJ h0 h1 h2 h3 h4 h5 z1.2) _ := hP
    have hD9 : va_D A (wM cC cI cJ h0 h1 h2 h3 h4 h5 z1.2) := hD
    have hf := Option.some.inj hf
    have hf1 := congrArg Prod.fst hf
    have hf2 := congrArg Prod.snd hf
    exact W.lret (v := 0) hx hb hr (fun t ht hW => ⟨⟨0, z1.2, rfl, ⟨hf1, hf2⟩, by rw [ht]; exact hP9, va_K.moved hW.alike hK, hD9⟩, hS.F ht⟩) hS.2.2 dX6_apart_10

set_option maxHeartbeats 4000000 in
set_option maxRecDepth 100000 in
theorem m_X6_areNext (l : Launch) (D : va_G) (cC cI cJ : ClassId) (h0 h1 h2 h3 h4 h5 : Nat) (u : StM) (sz : Nat) (a0 : Int32) (a1 : Int32) (res : Bool × StM) (hf : f_X6_areNext u a0 a1 = some res) : Met l yX6_areNext wsX6_areNext rmX6_areNext (my_PcM D vwCl (KT cC cI cJ) sz (wM cC cI cJ h0 h1 h2 h3 h4 h5 u) [.ref h0, .int a0, .int a1]) (va_Qi (fun r v => r = b2i res.1 ∧ v = res.2) (my_B D vwCl (KT cC cI cJ) (va_A (wM cC cI cJ h0 h1 h2 h3 h4 h5 u) sz) (fun v : StM => (wM cC cI cJ h0 h1 h2 h3 h4 h5 v))) (va_A (wM cC cI cJ h0 h1 h2 h3 h4 h5 u) sz)) 0 0 (va_A (wM cC cI cJ h0 h1 h2 h3 h4 h5 u) sz) := by
  refine Met.ofW (cc := cX6_areNext) (maxL := 7) (ret := (some .boolean)) (by decide) rfl ?_
  intro p e s m args below meth c s₁ B hml hv
  obtain ⟨rfl, hsz, hP, hK, hD0⟩ := hv
  have hx := B.exec
  have hb := B.bytes
  have hr := B.returns
  have hts : ∀ w ∈ wsX6_areNext, w.before ([.ref h0, .int a0, .int a1] : List Value).toArray s = true := atoms_spec (ws := wsX6_areNext) B.pre
  have hown : s.vm.findClass RX6 = some m.cls := findClass_of_methodNamed B.named
  have hlk : meth.locks = false := B.notSynchronized
  subst hsz
  have hD := hD0.self (sz := s.heap.size)
  generalize hAe : va_A (wM cC cI cJ h0 h1 h2 h3 h4 h5 u) s.heap.size = A at hD ⊢
  have hA : ∀ q : Nat, s.heap.size ≤ q → A q := fun q h => by rw [← hAe]; exact Or.inr h
  have hS : va_S A s.heap s.heap [] := va_S.rf
  have hP : va_P D vwCl [(h0, .inr (5, [.ref h1, .ref h2, .ref h3, .int u.2.2.2.1, .ref h4, .ref h5, .int u.2.2.2.2.2.2.1, .int u.2.2.2.2.2.2.2])), (h1, .inl (cJ, 8, .inr (.inl u.1))), (h2, .inl (cI, 8, .inl u.2.1)), (h3, .inl (cJ, 8, .inr (.inl u.2.2.1))), (h4, .inl (cC, 40, .inl u.2.2.2.2.1)), (h5, .inl (cI, 40, .inl u.2.2.2.2.2.1))] s.heap := hP
  have hD : va_D A [(h0, .inr (5, [.ref h1, .ref h2, .ref h3, .int u.2.2.2.1, .ref h4, .ref h5, .int u.2.2.2.2.2.2.1, .int u.2.2.2.2.2.2.2])), (h1, .inl (cJ, 8, .inr (.inl u.1))), (h2, .inl (cI, 8, .inl u.2.1)), (h3, .inl (cJ, 8, .inr (.inl u.2.2.1))), (h4, .inl (cC, 40, .inl u.2.2.2.2.1)), (h5, .inl (cI, 40, .inl u.2.2.2.2.2.1))] := hD
  have hl := lv_entry ([.ref h0, .int a0, .int a1]) (n := 7) (Nat.le_of_ble_eq_true rfl)
  rw [lg_entry_eq]
  generalize (lg_sl ([.ref h0, .int a0, .int a1]) ++ List.replicate (7 - (lg_sl ([.ref h0, .int a0, .int a1])).length) Slot.unset).toArray = ls at hl ⊢
  have hl : lv_has ls 7 [(0, .ref h0), (1, .int a0), (2, .int a1)] := hl
  unfold f_X6_areNext at hf
  refine lv_aload_n hx hb dX6_areNext_0 rfl (lv_at hl 0 rfl) ?_
  refine lv_iload_n hx hb dX6_areNext_1 rfl (lv_at hl 1 rfl) ?_
  refine lv_iload_n hx hb dX6_areNext_2 rfl (lv_at hl 2 rfl) ?_
  obtain ⟨z1, ez1, hf⟩ := ob_e hf
  refine my_callMi (As := [.int a0, .int a1]) (n := 2) (rest := []) (wr := []) ⟨hx, hb, hml, hown, hts⟩ hK hP hD hS hA [0, 1, 2, 3, 4, 5] [] rfl rfl (by decide) (by decide) (by decide) (m_X6_lacks_ l D cC cI cJ h0 h1 h2 h3 h4 h5 u s.heap.size a0 a1 _ ez1) gX6_areNext_X6_lacks_ rfl ⟨rfl, rfl⟩ (ci := 5) rfl rfl (by decide +kernel) ⟨Nat.le_of_ble_eq_true rfl, Nat.le_of_ble_eq_true rfl⟩ ⟨Nat.le_of_ble_eq_true rfl, Nat.le_of_ble_eq_true rfl⟩ hl.1 rfl rfl (Nat.le_of_ble_eq_true rfl) dX6_areNext_3 (fun r9 u9 H locs hw hP hD hS => ?_)
  obtain ⟨rfl, rfl⟩ := hw
  have hP : va_P D vwCl [(h0, .inr (5, [.ref h1, .ref h2, .ref h3, .int z1.2.2.2.2.1, .ref h4, .ref h5, .int z1.2.2.2.2.2.2.2.1, .int z1.2.2.2.2.2.2.2.2])), (h1, .inl (cJ, 8, .inr (.inl z1.2.1))), (h2, .inl (cI, 8, .inl z1.2.2.1)), (h3, .inl (cJ, 8, .inr (.inl z1.2.2.2.1))), (h4, .inl (cC, 40, .inl z1.2.2.2.2.2.1)), (h5, .inl (cI, 40, .inl z1.2.2.2.2.2.2.1))] H := hP.sub [0, 1, 2, 3, 4, 5] rfl
  have hD : va_D A [(h0, .inr (5, [.ref h1, .ref h2, .ref h3, .int z1.2.2.2.2.1, .ref h4, .ref h5, .int z1.2.2.2.2.2.2.2.1, .int z1.2.2.2.2.2.2.2.2])), (h1, .inl (cJ, 8, .inr (.inl z1.2.1))), (h2, .inl (cI, 8, .inl z1.2.2.1)), (h3, .inl (cJ, 8, .inr (.inl z1.2.2.2.1))), (h4, .inl (cC, 40, .inl z1.2.2.2.2.2.1)), (h5, .inl (cI, 40, .inl z1.2.2.2.2.2.2.1))] := hD.sub [0, 1, 2, 3, 4, 5] (by decide) rfl
  refine my_bz_eq (x := z1.1) (tgt := 11) hx hb dX6_areNext_6 (by decide) (fun c2 => ?_) (fun c2 => ?_)
  · rw [if_pos c2] at hf
    refine lv_aload_n hx hb dX6_areNext_11 rfl (lv_at hl 0 rfl) ?_
    refine lv_iload_n hx hb dX6_areNext_12 rfl (lv_at hl 1 rfl) ?_
    obtain ⟨r3, er3, hf⟩ := ob_e hf
    refine my_callRl (As := [.int a0]) (n := 1) (rest := []) ⟨hx, hb, hml, hown, hts⟩ hK (hP.sub (ws' := (wM cC cI cJ h0 h1 h2 h3 h4 h5 z1.2)) [0, 1, 2, 3, 4, 5] rfl) (m_X6_placeIn l D cC cI cJ h0 h1 h2 h3 h4 h5 z1.2 a0 _ er3) gX6_areNext_X6_placeIn rfl ⟨rfl, rfl⟩ (ci := 5) rfl rfl (by decide +kernel) ⟨Nat.le_of_ble_eq_true rfl, Nat.le_of_ble_eq_true rfl⟩ ⟨Nat.le_of_ble_eq_true rfl, Nat.le_of_ble_eq_true rfl⟩ hl.1 rfl rfl (Nat.le_of_ble_eq_true rfl) dX6_areNext_13 ?_
    refine lv_lstore_n (lv' := [(3, .long r3), (0, .ref h0), (1, .int a0), (2, .int a1)]) hx hb dX6_areNext_16 rfl hl (by decide) rfl (fun ls hl => ?_)
    refine lv_aload_n hx hb dX6_areNext_17 rfl (lv_at hl 1 rfl) ?_
    refine lv_iload_n hx hb dX6_areNext_18 rfl (lv_at hl 3 rfl) ?_
    obtain ⟨r4, er4, hf⟩ := ob_e hf
    refine my_callRl (As := [.int a1]) (n := 1) (rest := []) ⟨hx, hb, hml, hown, hts⟩ hK (hP.sub (ws' := (wM cC cI cJ h0 h1 h2 h3 h4 h5 z1.2)) [0, 1, 2, 3, 4, 5] rfl) (m_X6_placeIn l D cC cI cJ h0 h1 h2 h3 h4 h5 z1.2 a1 _ er4) gX6_areNext_X6_placeIn rfl ⟨rfl, rfl⟩ (ci := 5) rfl rfl (by decide +kernel) ⟨Nat.le_of_ble_eq_true rfl, Nat.le_of_ble_eq_true rfl⟩ ⟨Nat.le_of_ble_eq_true rfl, Nat.le_of_ble_eq_true rfl⟩ hl.1 rfl rfl (Nat.le_of_ble_eq_true rfl) dX6_areNext_19 ?_
    refine lv_lstore (lv' := [(5, .long r4), (3, .long r3), (0, .ref h0), (1, .int a0), (2, .int a1)]) hx hb dX6_areNext_22 hl (by decide) rfl (fun ls hl => ?_)
    refine lv_lload_n hx hb dX6_areNext_24 rfl (lv_at hl 1 rfl) ?_
    refine lv_lload hx hb dX6_areNext_25 (lv_at hl 0 rfl) ?_
    refine my_lc_eq (tgt := 44) hx hb dX6_areNext_27 dX6_areNext_28 (by decide) (fun c5 => ?_) (fun c5 => ?_)
    · rw [if_pos c5] at hf
      refine lv_iconst (v := 0) hx hb dX6_areNext_44 (by decide) ?_
      have hP9 : va_P D vwCl (wM cC cI cJ h0 h1 h2 h3 h4 h5 z1.2) _ := hP
      have hD9 : va_D A (wM cC cI cJ h0 h1 h2 h3 h4 h5 z1.2) := hD
      have hf := Option.some.inj hf
      have hf1 := congrArg (fun z => b2i z.1) hf
      have hf2 := congrArg Prod.snd hf
      exact W.zret (v := b2i false) (ty := .boolean) hx hb hr (b2i_nar _) (fun t ht hW => ⟨⟨b2i false, z1.2, rfl, ⟨hf1, hf2⟩, by rw [ht]; exact hP9, va_K.moved hW.alike hK, hD9⟩, hS.F ht⟩) hS.2.2 dX6_areNext_45
    · rw [if_neg c5] at hf
      refine lv_lload_n hx hb dX6_areNext_31 rfl (lv_at hl 1 rfl) ?_
      refine lv_lload hx hb dX6_areNext_32 (lv_at hl 0 rfl) ?_
      refine my_callPi (As := [.long r3, .long r4]) (n := 2) (rest := []) ⟨hx, hb, hml, hown, hts⟩ (m_X6_areApart l r3 r4 _ rfl) gX6_areNext_X6_areApart rfl ⟨rfl, rfl⟩ (by decide +kernel) ⟨Nat.le_of_ble_eq_true rfl, Nat.le_of_ble_eq_true rfl⟩ ⟨Nat.le_of_ble_eq_true rfl, Nat.le_of_ble_eq_true rfl⟩ hl.1 rfl rfl (Nat.le_of_ble_eq_true rfl) dX6_areNext_34 ?_
      refine my_bz_ne (x := (f_X6_areApart r3 r4)) (tgt := 44) hx hb dX6_areNext_37 (by decide) (fun c6 => ?_) (fun c6 => ?_)
      · rw [if_neg c6] at hf
        refine lv_iconst (v := 0) hx hb dX6_areNext_44 (by decide) ?_
        have hP9 : va_P D vwCl (wM cC cI cJ h0 h1 h2 h3 h4 h5 z1.2) _ := hP
        have hD9 : va_D A (wM cC cI cJ h0 h1 h2 h3 h4 h5 z1.2) := hD
        have hf := Option.some.inj hf
        have hf1 := congrArg (fun z => b2i z.1) hf
        have hf2 := congrArg Prod.snd hf
        exact W.zret (v := b2i false) (ty := .boolean) hx hb hr (b2i_nar _) (fun t ht hW => ⟨⟨b2i false, z1.2, rfl, ⟨hf1, hf2⟩, by rw [ht]; exact hP9, va_K.moved hW.alike hK, hD9⟩, hS.F ht⟩) hS.2.2 dX6_areNext_45
      · rw [if_pos c6] at hf
        refine lv_iconst (v := 1) hx hb dX6_areNext_40 (by decide) ?_
        refine lv_goto (tgt := 45) hx hb dX6_areNext_41 (by decide) ?_
        have hP9 : va_P D vwCl (wM cC cI cJ h0 h1 h2 h3 h4 h5 z1.2) _ := hP
        have hD9 : va_D A (wM cC cI cJ h0 h1 h2 h3 h4 h5 z1.2) := hD
        have hf := Option.some.inj hf
        have hf1 := congrArg (fun z => b2i z.1) hf
        have hf2 := congrArg Prod.snd hf
        exact W.zret (v := b2i true) (ty := .boolean) hx hb hr (b2i_nar _) (fun t ht hW => ⟨⟨b2i true, z1.2, rfl, ⟨hf1, hf2⟩, by rw [ht]; exact hP9, va_K.moved hW.alike hK, hD9⟩, hS.F ht⟩) hS.2.2 dX6_areNext_45
  · rw [if_neg c2] at hf
    refine lv_iconst (v := 0) hx hb dX6_areNext_9 (by decide) ?_
    have hP9 : va_P D vwCl (wM cC cI cJ h0 h1 h2 h3 h4 h5 z1.2) _ := hP
    have hD9 : va_D A (wM cC cI cJ h0 h1 h2 h3 h4 h5 z1.2) := hD
    have hf := Option.some.inj hf
    have hf1 := congrArg (fun z => b2i z.1) hf
    have hf2 := congrArg Prod.snd hf
    exact W.zret (v := b2i false) (ty := .boolean) hx hb hr (b2i_nar _) (fun t ht hW => ⟨⟨b2i false, z1.2, rfl, ⟨hf1, hf2⟩, by rw [ht]; exact hP9, va_K.moved hW.alike hK, hD9⟩, hS.F ht⟩) hS.2.2 dX6_areNext_10

set_option maxHeartbeats 4000000 in
set_option maxRecDepth 100000 in
theorem m_X6_middle (l : Launch) (D : va_G) (cC cI cJ : ClassId) (h0 h1 h2 h3 h4 h5 : Nat) (u : StM) (sz : Nat) (a0 : Int32) (a1 : Int32) (a2 : Int32) (res : Int64 × StM) (hf : f_X6_middle u a0 a1 a2 = some res) : Met l yX6_middle wsX6_middle rmX6_middle (my_PcM D vwCl (KT cC cI cJ) sz (wM cC cI cJ h0 h1 h2 h3 h4 h5 u) [.ref h0, .int a0, .int a1, .int a2]) (va_Ql (fun r v => r = res.1 ∧ v = res.2) (my_B D vwCl (KT cC cI cJ) (va_A (wM cC cI cJ h0 h1 h2 h3 h4 h5 u) sz) (fun v : StM => (wM cC cI cJ h0 h1 h2 h3 h4 h5 v))) (va_A (wM cC cI cJ h0 h1 h2 h3 h4 h5 u) sz)) 0 0 (va_A (wM cC cI cJ h0 h1 h2 h3 h4 h5 u) sz) := by
  refine Met.ofW (cc := cX6_middle) (maxL := 4) (ret := (some .long)) (by decide) rfl ?_
  intro p e s m args below meth c s₁ B hml hv
  obtain ⟨rfl, hsz, hP, hK, hD0⟩ := hv
  have hx := B.exec
  have hb := B.bytes
  have hr := B.returns
  have hts : ∀ w ∈ wsX6_middle, w.before ([.ref h0, .int a0, .int a1, .int a2] : List Value).toArray s = true := atoms_spec (ws := wsX6_middle) B.pre
  have hown : s.vm.findClass RX6 = some m.cls := findClass_of_methodNamed B.named
  have hlk : meth.locks = false := B.notSynchronized
  subst hsz
  have hD := hD0.self (sz := s.heap.size)
  generalize hAe : va_A (wM cC cI cJ h0 h1 h2 h3 h4 h5 u) s.heap.size = A at hD ⊢
  have hA : ∀ q : Nat, s.heap.size ≤ q → A q := fun q h => by rw [← hAe]; exact Or.inr h
  have hS : va_S A s.heap s.heap [] := va_S.rf
  have hP : va_P D vwCl [(h0, .inr (5, [.ref h1, .ref h2, .ref h3, .int u.2.2.2.1, .ref h4, .ref h5, .int u.2.2.2.2.2.2.1, .int u.2.2.2.2.2.2.2])), (h1, .inl (cJ, 8, .inr (.inl u.1))), (h2, .inl (cI, 8, .inl u.2.1)), (h3, .inl (cJ, 8, .inr (.inl u.2.2.1))), (h4, .inl (cC, 40, .inl u.2.2.2.2.1)), (h5, .inl (cI, 40, .inl u.2.2.2.2.2.1))] s.heap := hP
  have hD : va_D A [(h0, .inr (5, [.ref h1, .ref h2, .ref h3, .int u.2.2.2.1, .ref h4, .ref h5, .int u.2.2.2.2.2.2.1, .int u.2.2.2.2.2.2.2])), (h1, .inl (cJ, 8, .inr (.inl u.1))), (h2, .inl (cI, 8, .inl u.2.1)), (h3, .inl (cJ, 8, .inr (.inl u.2.2.1))), (h4, .inl (cC, 40, .inl u.2.2.2.2.1)), (h5, .inl (cI, 40, .inl u.2.2.2.2.2.1))] := hD
  have hl := lv_entry ([.ref h0, .int a0, .int a1, .int a2]) (n := 4) (Nat.le_of_ble_eq_true rfl)
  rw [lg_entry_eq]
  generalize (lg_sl ([.ref h0, .int a0, .int a1, .int a2]) ++ List.replicate (4 - (lg_sl ([.ref h0, .int a0, .int a1, .int a2])).length) Slot.unset).toArray = ls at hl ⊢
  have hl : lv_has ls 4 [(0, .ref h0), (1, .int a0), (2, .int a1), (3, .int a2)] := hl
  unfold f_X6_middle at hf
  refine lv_aload_n hx hb dX6_middle_0 rfl (lv_at hl 0 rfl) ?_
  refine lv_iload_n hx hb dX6_middle_1 rfl (lv_at hl 1 rfl) ?_
  refine lv_iload_n hx hb dX6_middle_2 rfl (lv_at hl 2 rfl) ?_
  refine lv_iload_n hx hb dX6_middle_3 rfl (lv_at hl 3 rfl) ?_
  obtain ⟨z1, ez1, hf⟩ := ob_e hf
  refine my_callMi (As := [.int a0, .int a1, .int a2]) (n := 3) (rest := []) (wr := []) ⟨hx, hb, hml, hown, hts⟩ hK hP hD hS hA [0, 1, 2, 3, 4, 5] [] rfl rfl (by decide) (by decide) (by decide) (m_X6_lacks__ l D cC cI cJ h0 h1 h2 h3 h4 h5 u s.heap.size a0 a1 a2 _ ez1) gX6_middle_X6_lacks__ rfl ⟨rfl, rfl⟩ (ci := 5) rfl rfl (by decide +kernel) ⟨Nat.le_of_ble_eq_true rfl, Nat.le_of_ble_eq_true rfl⟩ ⟨Nat.le_of_ble_eq_true rfl, Nat.le_of_ble_eq_true rfl⟩ hl.1 rfl rfl (Nat.le_of_ble_eq_true rfl) dX6_middle_4 (fun r9 u9 H locs hw hP hD hS => ?_)
  obtain ⟨rfl, rfl⟩ := hw
  have hP : va_P D vwCl [(h0, .inr (5, [.ref h1, .ref h2, .ref h3, .int z1.2.2.2.2.1, .ref h4, .ref h5, .int z1.2.2.2.2.2.2.2.1, .int z1.2.2.2.2.2.2.2.2])), (h1, .inl (cJ, 8, .inr (.inl z1.2.1))), (h2, .inl (cI, 8, .inl z1.2.2.1)), (h3, .inl (cJ, 8, .inr (.inl z1.2.2.2.1))), (h4, .inl (cC, 40, .inl z1.2.2.2.2.2.1)), (h5, .inl (cI, 40, .inl z1.2.2.2.2.2.2.1))] H := hP.sub [0, 1, 2, 3, 4, 5] rfl
  have hD : va_D A [(h0, .inr (5, [.ref h1, .ref h2, .ref h3, .int z1.2.2.2.2.1, .ref h4, .ref h5, .int z1.2.2.2.2.2.2.2.1, .int z1.2.2.2.2.2.2.2.2])), (h1, .inl (cJ, 8, .inr (.inl z1.2.1))), (h2, .inl (cI, 8, .inl z1.2.2.1)), (h3, .inl (cJ, 8, .inr (.inl z1.2.2.2.1))), (h4, .inl (cC, 40, .inl z1.2.2.2.2.2.1)), (h5, .inl (cI, 40, .inl z1.2.2.2.2.2.2.1))] := hD.sub [0, 1, 2, 3, 4, 5] (by decide) rfl
  refine my_bz_eq (x := z1.1) (tgt := 12) hx hb dX6_middle_7 (by decide) (fun c2 => ?_) (fun c2 => ?_)
  · rw [if_pos c2] at hf
    refine lv_aload_n hx hb dX6_middle_12 rfl (lv_at hl 0 rfl) ?_
    refine lv_iload_n hx hb dX6_middle_13 rfl (lv_at hl 3 rfl) ?_
    refine lv_aload_n hx hb dX6_middle_14 rfl (lv_at hl 0 rfl) ?_
    refine lv_iload_n hx hb dX6_middle_15 rfl (lv_at hl 1 rfl) ?_
    obtain ⟨r3, er3, hf⟩ := ob_e hf
    refine my_callRl (As := [.int a0]) (n := 1) (rest := [.int a2, .ref h0]) ⟨hx, hb, hml, hown, hts⟩ hK (hP.sub (ws' := (wM cC cI cJ h0 h1 h2 h3 h4 h5 z1.2)) [0, 1, 2, 3, 4, 5] rfl) (m_X6_placeIn l D cC cI cJ h0 h1 h2 h3 h4 h5 z1.2 a0 _ er3) gX6_middle_X6_placeIn rfl ⟨rfl, rfl⟩ (ci := 5) rfl rfl (by decide +kernel) ⟨Nat.le_of_ble_eq_true rfl, Nat.le_of_ble_eq_true rfl⟩ ⟨Nat.le_of_ble_eq_true rfl, Nat.le_of_ble_eq_true rfl⟩ hl.1 rfl rfl (Nat.le_of_ble_eq_true rfl) dX6_middle_16 ?_
    refine lv_aload_n hx hb dX6_middle_19 rfl (lv_at hl 0 rfl) ?_
    refine lv_iload_n hx hb dX6_middle_20 rfl (lv_at hl 2 rfl) ?_
    obtain ⟨r4, er4, hf⟩ := ob_e hf
    refine my_callRl (As := [.int a1]) (n := 1) (rest := [.long r3, .int a2, .ref h0]) ⟨hx, hb, hml, hown, hts⟩ hK (hP.sub (ws' := (wM cC cI cJ h0 h1 h2 h3 h4 h5 z1.2)) [0, 1, 2, 3, 4, 5] rfl) (m_X6_placeIn l D cC cI cJ h0 h1 h2 h3 h4 h5 z1.2 a1 _ er4) gX6_middle_X6_placeIn rfl ⟨rfl, rfl⟩ (ci := 5) rfl rfl (by decide +kernel) ⟨Nat.le_of_ble_eq_true rfl, Nat.le_of_ble_eq_true rfl⟩ ⟨Nat.le_of_ble_eq_true rfl, Nat.le_of_ble_eq_true rfl⟩ hl.1 rfl rfl (Nat.le_of_ble_eq_true rfl) dX6_middle_21 ?_
    refine my_callPl (As := [.long r3, .long r4]) (n := 2) (rest := [.int a2, .ref h0]) ⟨hx, hb, hml, hown, hts⟩ (m_X6_middleOf l r3 r4 _ rfl) gX6_middle_X6_middleOf rfl ⟨rfl, rfl⟩ (by decide +kernel) ⟨Nat.le_of_ble_eq_true rfl, Nat.le_of_ble_eq_true rfl⟩ ⟨Nat.le_of_ble_eq_true rfl, Nat.le_of_ble_eq_true rfl⟩ hl.1 rfl rfl (Nat.le_of_ble_eq_true rfl) dX6_middle_24 ?_
    refine my_callPl (As := [.long (f_X6_middleOf r3 r4)]) (n := 1) (rest := [.int a2, .ref h0]) ⟨hx, hb, hml, hown, hts⟩ (m_X6_codeOf l (f_X6_middleOf r3 r4) _ rfl) gX6_middle_X6_codeOf rfl ⟨rfl, rfl⟩ (by decide +kernel) ⟨Nat.le_of_ble_eq_true rfl, Nat.le_of_ble_eq_true rfl⟩ ⟨Nat.le_of_ble_eq_true rfl, Nat.le_of_ble_eq_true rfl⟩ hl.1 rfl rfl (Nat.le_of_ble_eq_true rfl) dX6_middle_27 ?_
    obtain ⟨z5, ez5, hf⟩ := ob_e hf
    refine my_callMl (As := [.int a2, .long (f_X6_codeOf (f_X6_middleOf r3 r4))]) (n := 2) (rest := []) (wr := []) ⟨hx, hb, hml, hown, hts⟩ hK hP hD hS hA [0, 1, 2, 3, 4, 5] [] rfl rfl (by decide) (by decide) (by decide) (m_X6_becomes l D cC cI cJ h0 h1 h2 h3 h4 h5 z1.2 H.size a2 (f_X6_codeOf (f_X6_middleOf r3 r4)) _ ez5) gX6_middle_X6_becomes rfl ⟨rfl, rfl⟩ (ci := 5) rfl rfl (by decide +kernel) ⟨Nat.le_of_ble_eq_true rfl, Nat.le_of_ble_eq_true rfl⟩ ⟨Nat.le_of_ble_eq_true rfl, Nat.le_of_ble_eq_true rfl⟩ hl.1 rfl rfl (Nat.le_of_ble_eq_true rfl) dX6_middle_30 (fun r9 u9 H locs hw hP hD hS => ?_)
    obtain ⟨rfl, rfl⟩ := hw
    have hP : va_P D vwCl [(h0, .inr (5, [.ref h1, .ref h2, .ref h3, .int z5.2.2.2.2.1, .ref h4, .ref h5, .int z5.2.2.2.2.2.2.2.1, .int z5.2.2.2.2.2.2.2.2])), (h1, .inl (cJ, 8, .inr (.inl z5.2.1))), (h2, .inl (cI, 8, .inl z5.2.2.1)), (h3, .inl (cJ, 8, .inr (.inl z5.2.2.2.1))), (h4, .inl (cC, 40, .inl z5.2.2.2.2.2.1)), (h5, .inl (cI, 40, .inl z5.2.2.2.2.2.2.1))] H := hP.sub [0, 1, 2, 3, 4, 5] rfl
    have hD : va_D A [(h0, .inr (5, [.ref h1, .ref h2, .ref h3, .int z5.2.2.2.2.1, .ref h4, .ref h5, .int z5.2.2.2.2.2.2.2.1, .int z5.2.2.2.2.2.2.2.2])), (h1, .inl (cJ, 8, .inr (.inl z5.2.1))), (h2, .inl (cI, 8, .inl z5.2.2.1)), (h3, .inl (cJ, 8, .inr (.inl z5.2.2.2.1))), (h4, .inl (cC, 40, .inl z5.2.2.2.2.2.1)), (h5, .inl (cI, 40, .inl z5.2.2.2.2.2.2.1))] := hD.sub [0, 1, 2, 3, 4, 5] (by decide) rfl
    have hP9 : va_P D vwCl (wM cC cI cJ h0 h1 h2 h3 h4 h5 z5.2) _ := hP
    have hD9 : va_D A (wM cC cI cJ h0 h1 h2 h3 h4 h5 z5.2) := hD
    have hf := Option.some.inj hf
    have hf1 := congrArg Prod.fst hf
    have hf2 := congrArg Prod.snd hf
    exact W.lret (v := z5.1) hx hb hr (fun t ht hW => ⟨⟨z5.1, z5.2, rfl, ⟨hf1, hf2⟩, by rw [ht]; exact hP9, va_K.moved hW.alike hK, hD9⟩, hS.F ht⟩) hS.2.2 dX6_middle_33
  · rw [if_neg c2] at hf
    refine lv_lconst (v := 0) hx hb dX6_middle_10 (by decide) ?_
    have hP9 : va_P D vwCl (wM cC cI cJ h0 h1 h2 h3 h4 h5 z1.2) _ := hP
    have hD9 : va_D A (wM cC cI cJ h0 h1 h2 h3 h4 h5 z1.2) := hD
    have hf := Option.some.inj hf
    have hf1 := congrArg Prod.fst hf
    have hf2 := congrArg Prod.snd hf
    exact W.lret (v := 0) hx hb hr (fun t ht hW => ⟨⟨0, z1.2, rfl, ⟨hf1, hf2⟩, by rw [ht]; exact hP9, va_K.moved hW.alike hK, hD9⟩, hS.F ht⟩) hS.2.2 dX6_middle_11

set_option maxHeartbeats 4000000 in
set_option maxRecDepth 100000 in
theorem m_X6_halvings (l : Launch) (D : va_G) (cC cI cJ : ClassId) (h0 h1 h2 h3 h4 h5 : Nat) (u : StM) (sz : Nat) (a0 : Int32) (a1 : Int32) (res : Int32 × StM) (hf : f_X6_halvings u a0 a1 = some res) : Met l yX6_halvings wsX6_halvings rmX6_halvings (my_PcM D vwCl (KT cC cI cJ) sz (wM cC cI cJ h0 h1 h2 h3 h4 h5 u) [.ref h0, .int a0, .int a1]) (va_Qi (fun r v => r = res.1 ∧ v = res.2) (my_B D vwCl (KT cC cI cJ) (va_A (wM cC cI cJ h0 h1 h2 h3 h4 h5 u) sz) (fun v : StM => (wM cC cI cJ h0 h1 h2 h3 h4 h5 v))) (va_A (wM cC cI cJ h0 h1 h2 h3 h4 h5 u) sz)) 0 0 (va_A (wM cC cI cJ h0 h1 h2 h3 h4 h5 u) sz) := by
  refine Met.ofW (cc := cX6_halvings) (maxL := 8) (ret := (some .int)) (by decide) rfl ?_
  intro p e s m args below meth c s₁ B hml hv
  obtain ⟨rfl, hsz, hP, hK, hD0⟩ := hv
  have hx := B.exec
  have hb := B.bytes
  have hr := B.returns
  have hts : ∀ w ∈ wsX6_halvings, w.before ([.ref h0, .int a0, .int a1] : List Value).toArray s = true := atoms_spec (ws := wsX6_halvings) B.pre
  have hown : s.vm.findClass RX6 = some m.cls := findClass_of_methodNamed B.named
  have hlk : meth.locks = false := B.notSynchronized
  subst hsz
  have hD := hD0.self (sz := s.heap.size)
  generalize hAe : va_A (wM cC cI cJ h0 h1 h2 h3 h4 h5 u) s.heap.size = A at hD ⊢
  have hA : ∀ q : Nat, s.heap.size ≤ q → A q := fun q h => by rw [← hAe]; exact Or.inr h
  have hS : va_S A s.heap s.heap [] := va_S.rf
  have hP : va_P D vwCl [(h0, .inr (5, [.ref h1, .ref h2, .ref h3, .int u.2.2.2.1, .ref h4, .ref h5, .int u.2.2.2.2.2.2.1, .int u.2.2.2.2.2.2.2])), (h1, .inl (cJ, 8, .inr (.inl u.1))), (h2, .inl (cI, 8, .inl u.2.1)), (h3, .inl (cJ, 8, .inr (.inl u.2.2.1))), (h4, .inl (cC, 40, .inl u.2.2.2.2.1)), (h5, .inl (cI, 40, .inl u.2.2.2.2.2.1))] s.heap := hP
  have hD : va_D A [(h0, .inr (5, [.ref h1, .ref h2, .ref h3, .int u.2.2.2.1, .ref h4, .ref h5, .int u.2.2.2.2.2.2.1, .int u.2.2.2.2.2.2.2])), (h1, .inl (cJ, 8, .inr (.inl u.1))), (h2, .inl (cI, 8, .inl u.2.1)), (h3, .inl (cJ, 8, .inr (.inl u.2.2.1))), (h4, .inl (cC, 40, .inl u.2.2.2.2.1)), (h5, .inl (cI, 40, .inl u.2.2.2.2.2.1))] := hD
  have hl := lv_entry ([.ref h0, .int a0, .int a1]) (n := 8) (Nat.le_of_ble_eq_true rfl)
  rw [lg_entry_eq]
  generalize (lg_sl ([.ref h0, .int a0, .int a1]) ++ List.replicate (8 - (lg_sl ([.ref h0, .int a0, .int a1])).length) Slot.unset).toArray = ls at hl ⊢
  have hl : lv_has ls 8 [(0, .ref h0), (1, .int a0), (2, .int a1)] := hl
  unfold f_X6_halvings at hf
  refine lv_aload_n hx hb dX6_halvings_0 rfl (lv_at hl 0 rfl) ?_
  refine lv_iload_n hx hb dX6_halvings_1 rfl (lv_at hl 1 rfl) ?_
  refine lv_iload_n hx hb dX6_halvings_2 rfl (lv_at hl 2 rfl) ?_
  obtain ⟨z1, ez1, hf⟩ := ob_e hf
  refine my_callMi (As := [.int a0, .int a1]) (n := 2) (rest := []) (wr := []) ⟨hx, hb, hml, hown, hts⟩ hK hP hD hS hA [0, 1, 2, 3, 4, 5] [] rfl rfl (by decide) (by decide) (by decide) (m_X6_lacks_ l D cC cI cJ h0 h1 h2 h3 h4 h5 u s.heap.size a0 a1 _ ez1) gX6_halvings_X6_lacks_ rfl ⟨rfl, rfl⟩ (ci := 5) rfl rfl (by decide +kernel) ⟨Nat.le_of_ble_eq_true rfl, Nat.le_of_ble_eq_true rfl⟩ ⟨Nat.le_of_ble_eq_true rfl, Nat.le_of_ble_eq_true rfl⟩ hl.1 rfl rfl (Nat.le_of_ble_eq_true rfl) dX6_halvings_3 (fun r9 u9 H locs hw hP hD hS => ?_)
  obtain ⟨rfl, rfl⟩ := hw
  have hP : va_P D vwCl [(h0, .inr (5, [.ref h1, .ref h2, .ref h3, .int z1.2.2.2.2.1, .ref h4, .ref h5, .int z1.2.2.2.2.2.2.2.1, .int z1.2.2.2.2.2.2.2.2])), (h1, .inl (cJ, 8, .inr (.inl z1.2.1))), (h2, .inl (cI, 8, .inl z1.2.2.1)), (h3, .inl (cJ, 8, .inr (.inl z1.2.2.2.1))), (h4, .inl (cC, 40, .inl z1.2.2.2.2.2.1)), (h5, .inl (cI, 40, .inl z1.2.2.2.2.2.2.1))] H := hP.sub [0, 1, 2, 3, 4, 5] rfl
  have hD : va_D A [(h0, .inr (5, [.ref h1, .ref h2, .ref h3, .int z1.2.2.2.2.1, .ref h4, .ref h5, .int z1.2.2.2.2.2.2.2.1, .int z1.2.2.2.2.2.2.2.2])), (h1, .inl (cJ, 8, .inr (.inl z1.2.1))), (h2, .inl (cI, 8, .inl z1.2.2.1)), (h3, .inl (cJ, 8, .inr (.inl z1.2.2.2.1))), (h4, .inl (cC, 40, .inl z1.2.2.2.2.2.1)), (h5, .inl (cI, 40, .inl z1.2.2.2.2.2.2.1))] := hD.sub [0, 1, 2, 3, 4, 5] (by decide) rfl
  refine my_bz_eq (x := z1.1) (tgt := 11) hx hb dX6_halvings_6 (by decide) (fun c2 => ?_) (fun c2 => ?_)
  · rw [if_pos c2] at hf
    refine lv_aload_n hx hb dX6_halvings_11 rfl (lv_at hl 0 rfl) ?_
    refine lv_iload_n hx hb dX6_halvings_12 rfl (lv_at hl 1 rfl) ?_
    obtain ⟨r3, er3, hf⟩ := ob_e hf
    refine my_callRl (As := [.int a0]) (n := 1) (rest := []) ⟨hx, hb, hml, hown, hts⟩ hK (hP.sub (ws' := (wM cC cI cJ h0 h1 h2 h3 h4 h5 z1.2)) [0, 1, 2, 3, 4, 5] rfl) (m_X6_placeIn l D cC cI cJ h0 h1 h2 h3 h4 h5 z1.2 a0 _ er3) gX6_halvings_X6_placeIn rfl ⟨rfl, rfl⟩ (ci := 5) rfl rfl (by decide +kernel) ⟨Nat.le_of_ble_eq_true rfl, Nat.le_of_ble_eq_true rfl⟩ ⟨Nat.le_of_ble_eq_true rfl, Nat.le_of_ble_eq_true rfl⟩ hl.1 rfl rfl (Nat.le_of_ble_eq_true rfl) dX6_halvings_13 ?_
    refine lv_lstore_n (lv' := [(3, .long r3), (0, .ref h0), (1, .int a0), (2, .int a1)]) hx hb dX6_halvings_16 rfl hl (by decide) rfl (fun ls hl => ?_)
    refine lv_aload_n hx hb dX6_halvings_17 rfl (lv_at hl 1 rfl) ?_
    refine lv_iload_n hx hb dX6_halvings_18 rfl (lv_at hl 3 rfl) ?_
    obtain ⟨r4, er4, hf⟩ := ob_e hf
    refine my_callRl (As := [.int a1]) (n := 1) (rest := []) ⟨hx, hb, hml, hown, hts⟩ hK (hP.sub (ws' := (wM cC cI cJ h0 h1 h2 h3 h4 h5 z1.2)) [0, 1, 2, 3, 4, 5] rfl) (m_X6_placeIn l D cC cI cJ h0 h1 h2 h3 h4 h5 z1.2 a1 _ er4) gX6_halvings_X6_placeIn rfl ⟨rfl, rfl⟩ (ci := 5) rfl rfl (by decide +kernel) ⟨Nat.le_of_ble_eq_true rfl, Nat.le_of_ble_eq_true rfl⟩ ⟨Nat.le_of_ble_eq_true rfl, Nat.le_of_ble_eq_true rfl⟩ hl.1 rfl rfl (Nat.le_of_ble_eq_true rfl) dX6_halvings_19 ?_
    refine lv_lstore (lv' := [(5, .long r4), (3, .long r3), (0, .ref h0), (1, .int a0), (2, .int a1)]) hx hb dX6_halvings_22 hl (by decide) rfl (fun ls hl => ?_)
    refine lv_iconst (v := 0) hx hb dX6_halvings_24 (by decide) ?_
    refine lv_istore (lv' := [(7, .int 0), (5, .long r4), (3, .long r3), (0, .ref h0), (1, .int a0), (2, .int a1)]) hx hb dX6_halvings_25 hl (by decide) rfl (fun ls hl => ?_)
    have loop27 : ∀ (n27 : Nat) (v27_7 : Int32) (v27_5 : Int64) (v27_3 : Int64) (s27 : StM) (H : Heap) (locs : List Loc) (hP : va_P D vwCl [(h0, .inr (5, [.ref h1, .ref h2, .ref h3, .int s27.2.2.2.1, .ref h4, .ref h5, .int s27.2.2.2.2.2.2.1, .int s27.2.2.2.2.2.2.2])), (h1, .inl (cJ, 8, .inr (.inl s27.1))), (h2, .inl (cI, 8, .inl s27.2.1)), (h3, .inl (cJ, 8, .inr (.inl s27.2.2.1))), (h4, .inl (cC, 40, .inl s27.2.2.2.2.1)), (h5, .inl (cI, 40, .inl s27.2.2.2.2.2.1))] H) (hD : va_D A [(h0, .inr (5, [.ref h1, .ref h2, .ref h3, .int s27.2.2.2.1, .ref h4, .ref h5, .int s27.2.2.2.2.2.2.1, .int s27.2.2.2.2.2.2.2])), (h1, .inl (cJ, 8, .inr (.inl s27.1))), (h2, .inl (cI, 8, .inl s27.2.1)), (h3, .inl (cJ, 8, .inr (.inl s27.2.2.1))), (h4, .inl (cC, 40, .inl s27.2.2.2.2.1)), (h5, .inl (cI, 40, .inl s27.2.2.2.2.2.1))]) (hS : va_S A s.heap H locs) (ls : Array Slot), lv_has ls 8 [(7, .int v27_7), (5, .long v27_5), (3, .long v27_3)] → f_X6_halvings_L27 u a0 a1 n27 v27_7 v27_5 v27_3 s27 = some res → W p l e (rmX6_halvings) s m ([.ref h0, .int a0, .int a1] : List Value).toArray below meth c H locs 0 0 (MQ below (va_Qi (fun r v => r = res.1 ∧ v = res.2) (my_B D vwCl (KT cC cI cJ) A (fun v : StM => (wM cC cI cJ h0 h1 h2 h3 h4 h5 v))) A) ([.ref h0, .int a0, .int a1] : List Value).toArray s 0 0 A) (F0 m 27 ls []) := by
      intro n27
      induction n27 with
      | zero => intro v27_7 v27_5 v27_3 s27 H locs hP hD hS ls hl hf; rw [f_X6_halvings_L27] at hf; cases hf
      | succ n27 ih27 =>
        intro v27_7 v27_5 v27_3 s27 H locs hP hD hS ls hl hf
        rw [f_X6_halvings_L27] at hf
        refine lv_lload_n hx hb dX6_halvings_27 rfl (lv_at hl 2 rfl) ?_
        refine lv_lload hx hb dX6_halvings_28 (lv_at hl 1 rfl) ?_
        refine my_callPi (As := [.long v27_3, .long v27_5]) (n := 2) (rest := []) ⟨hx, hb, hml, hown, hts⟩ (m_X6_areApart l v27_3 v27_5 _ rfl) gX6_halvings_X6_areApart rfl ⟨rfl, rfl⟩ (by decide +kernel) ⟨Nat.le_of_ble_eq_true rfl, Nat.le_of_ble_eq_true rfl⟩ ⟨Nat.le_of_ble_eq_true rfl, Nat.le_of_ble_eq_true rfl⟩ hl.1 rfl rfl (Nat.le_of_ble_eq_true rfl) dX6_halvings_30 ?_
        refine my_bz_eq (x := (f_X6_areApart v27_3 v27_5)) (tgt := 49) hx hb dX6_halvings_33 (by decide) (fun c5 => ?_) (fun c5 => ?_)
        · rw [if_pos c5] at hf
          refine lv_iload hx hb dX6_halvings_49 (lv_at hl 0 rfl) ?_
          have hP9 : va_P D vwCl (wM cC cI cJ h0 h1 h2 h3 h4 h5 s27) _ := hP
          have hD9 : va_D A (wM cC cI cJ h0 h1 h2 h3 h4 h5 s27) := hD
          have hf := Option.some.inj hf
          have hf1 := congrArg Prod.fst hf
          have hf2 := congrArg Prod.snd hf
          exact W.iret (v := v27_7) hx hb hr (fun t ht hW => ⟨⟨v27_7, s27, rfl, ⟨hf1, hf2⟩, by rw [ht]; exact hP9, va_K.moved hW.alike hK, hD9⟩, hS.F ht⟩) hS.2.2 dX6_halvings_51
        · rw [if_neg c5] at hf
          refine lv_lload_n hx hb dX6_halvings_36 rfl (lv_at hl 2 rfl) ?_
          refine lv_lload hx hb dX6_halvings_37 (lv_at hl 1 rfl) ?_
          refine my_callPl (As := [.long v27_3, .long v27_5]) (n := 2) (rest := []) ⟨hx, hb, hml, hown, hts⟩ (m_X6_middleOf l v27_3 v27_5 _ rfl) gX6_halvings_X6_middleOf rfl ⟨rfl, rfl⟩ (by decide +kernel) ⟨Nat.le_of_ble_eq_true rfl, Nat.le_of_ble_eq_true rfl⟩ ⟨Nat.le_of_ble_eq_true rfl, Nat.le_of_ble_eq_true rfl⟩ hl.1 rfl rfl (Nat.le_of_ble_eq_true rfl) dX6_halvings_39 ?_
          refine lv_lstore_n (lv' := [(3, .long (f_X6_middleOf v27_3 v27_5)), (7, .int v27_7), (5, .long v27_5)]) hx hb dX6_halvings_42 rfl hl (by decide) rfl (fun ls hl => ?_)
          refine lv_iinc (v := (v27_7 + 1)) (lv' := [(7, .int (v27_7 + 1)), (3, .long (f_X6_middleOf v27_3 v27_5)), (5, .long v27_5)]) hx hb dX6_halvings_43 hl (k := 1) rfl rfl (by decide) rfl (fun ls hl => ?_)
          refine lv_goto (tgt := 27) hx hb dX6_halvings_46 (by decide) ?_
          exact ih27 (v27_7 + 1) v27_5 (f_X6_middleOf v27_3 v27_5) s27 _ _ hP hD hS _ (lv_sub hl [0, 2, 1] rfl) hf
    exact loop27 100 0 r4 r3 z1.2 _ _ hP hD hS _ (lv_sub hl [0, 1, 2] rfl) hf
  · rw [if_neg c2] at hf
    refine lv_iconst (v := 0) hx hb dX6_halvings_9 (by decide) ?_
    have hP9 : va_P D vwCl (wM cC cI cJ h0 h1 h2 h3 h4 h5 z1.2) _ := hP
    have hD9 : va_D A (wM cC cI cJ h0 h1 h2 h3 h4 h5 z1.2) := hD
    have hf := Option.some.inj hf
    have hf1 := congrArg Prod.fst hf
    have hf2 := congrArg Prod.snd hf
    exact W.iret (v := 0) hx hb hr (fun t ht hW => ⟨⟨0, z1.2, rfl, ⟨hf1, hf2⟩, by rw [ht]; exact hP9, va_K.moved hW.alike hK, hD9⟩, hS.F ht⟩) hS.2.2 dX6_halvings_10
