set_option maxHeartbeats 4000000 in
set_option maxRecDepth 100000 in
theorem m_X6_compare (l : Launch) (D : va_G) (cC cI cJ : ClassId) (h0 h1 h2 h3 h4 h5 : Nat) (u : StM) (sz : Nat) (a0 : Int32) (a1 : Int32) (res : Int32 × StM) (hf : f_X6_compare u a0 a1 = some res) : Met l yX6_compare wsX6_compare rmX6_compare (my_PcM D vwCl (KT cC cI cJ) sz (wM cC cI cJ h0 h1 h2 h3 h4 h5 u) [.ref h0, .int a0, .int a1]) (va_Qi (fun r v => r = res.1 ∧ v = res.2) (my_B D vwCl (KT cC cI cJ) (va_A (wM cC cI cJ h0 h1 h2 h3 h4 h5 u) sz) (fun v : StM => (wM cC cI cJ h0 h1 h2 h3 h4 h5 v))) (va_A (wM cC cI cJ h0 h1 h2 h3 h4 h5 u) sz)) 0 0 (va_A (wM cC cI cJ h0 h1 h2 h3 h4 h5 u) sz) := by
  refine Met.ofW (cc := cX6_compare) (maxL := 7) (ret := (some .int)) (by decide) rfl ?_
  intro p e s m args below meth c s₁ B hml hv
  obtain ⟨rfl, hsz, hP, hK, hD0⟩ := hv
  have hx := B.exec
  have hb := B.bytes
  have hr := B.returns
  have hts : ∀ w ∈ wsX6_compare, w.before ([.ref h0, .int a0, .int a1] : List Value).toArray s = true := atoms_spec (ws := wsX6_compare) B.pre
  have hown : s.vm.findClass RX6 = some m.cls := findClass_of_methodNamed B.named
  have hlk : meth.locks = false := B.notSynchronized
  subst hsz
  have hD := hD0.self (sz := s.heap.size)
  generalize hAe : va_A (wM cC cI cJ h0 h1 h2 h3 h4 h5 u) s.heap.size = A at hD ⊢
  have hA : ∀ q : Nat, s.heap.size ≤ q → A q := fun q h => by rw [← hAe]; exact Or.inr h
  have hS : va_S A s.heap s.heap [] := va_S.rf
  have hP : va_P D vwCl [(h0, .inr (5, [.ref h1, .ref h2, .ref h3, .int u.2.2.2.1, .ref h4, .ref h5, .int u.2.2.2.2.2.2.1, .int u.2.2.2.2.2.2.2])), (h1, .inl (cJ, 8, .inr (.inl u.1))), (h2, .inl (cI, 8, .inl u.2.1)), (h3, .inl (cJ, 8, .inr (.inl u.2.2.1))), (h4, .inl (cC, 40, .inl u.2.2.2.2.1)), (h5, .inl (cI, 40, .inl u.2.2.2.2.2.1))] s.heap := hP
  have hD : va_D A [(h0, .inr (5, [.ref h1, .ref h2, .ref h3, .int u.2.2.2.1, .ref h4, .ref h5, .int u.2.2.2.2.2.2.1, .int u.2.2.2.2.2.2.2])), (h1, .inl (cJ, 8, .inr (.inl u.1))), (h2, .inl (cI, 8, .inl u.2.1)), (h3, .inl (cJ, 8, .inr (.inl u.2.2.1))), (h4, .inl (cC, 40, .inl u.2.2.2.2.1)), (h5, .inl (cI, 40, .inl u.2.2.2.2.2.1))] := hD
  have hl := lv_entry ([.ref h0, .int a0, .int a1]) (n := 7) (Nat.le_of_ble_eq_true rfl)
  rw [lg_entry_eq]
  generalize (lg_sl ([.ref h0, .int a0, .int a1]) ++ List.replicate (7 - (lg_sl ([.ref h0, .int a0, .int a1])).length) Slot.unset).toArray = ls at hl ⊢
  have hl : lv_has ls 7 [(0, .ref h0), (1, .int a0), (2, .int a1)] := hl
  unfold f_X6_compare at hf
  refine lv_aload_n hx hb dX6_compare_0 rfl (lv_at hl 0 rfl) ?_
  refine lv_iload_n hx hb dX6_compare_1 rfl (lv_at hl 1 rfl) ?_
  refine lv_iload_n hx hb dX6_compare_2 rfl (lv_at hl 2 rfl) ?_
  obtain ⟨z1, ez1, hf⟩ := ob_e hf
  refine my_callMi (As := [.int a0, .int a1]) (n := 2) (rest := []) (wr := []) ⟨hx, hb, hml, hown, hts⟩ hK hP hD hS hA [0, 1, 2, 3, 4, 5] [] rfl rfl (by decide) (by decide) (by decide) (m_X6_lacks_ l D cC cI cJ h0 h1 h2 h3 h4 h5 u s.heap.size a0 a1 _ ez1) gX6_compare_X6_lacks_ rfl ⟨rfl, rfl⟩ (ci := 5) rfl rfl (by decide +kernel) ⟨Nat.le_of_ble_eq_true rfl, Nat.le_of_ble_eq_true rfl⟩ ⟨Nat.le_of_ble_eq_true rfl, Nat.le_of_ble_eq_true rfl⟩ hl.1 rfl rfl (Nat.le_of_ble_eq_true rfl) dX6_compare_3 (fun r9 u9 H locs hw hP hD hS => ?_)
  obtain ⟨rfl, rfl⟩ := hw
  have hP : va_P D vwCl [(h0, .inr (5, [.ref h1, .ref h2, .ref h3, .int z1.2.2.2.2.1, .ref h4, .ref h5, .int z1.2.2.2.2.2.2.2.1, .int z1.2.2.2.2.2.2.2.2])), (h1, .inl (cJ, 8, .inr (.inl z1.2.1))), (h2, .inl (cI, 8, .inl z1.2.2.1)), (h3, .inl (cJ, 8, .inr (.inl z1.2.2.2.1))), (h4, .inl (cC, 40, .inl z1.2.2.2.2.2.1)), (h5, .inl (cI, 40, .inl z1.2.2.2.2.2.2.1))] H := hP.sub [0, 1, 2, 3, 4, 5] rfl
  have hD : va_D A [(h0, .inr (5, [.ref h1, .ref h2, .ref h3, .int z1.2.2.2.2.1, .ref h4, .ref h5, .int z1.2.2.2.2.2.2.2.1, .int z1.2.2.2.2.2.2.2.2])), (h1, .inl (cJ, 8, .inr (.inl z1.2.1))), (h2, .inl (cI, 8, .inl z1.2.2.1)), (h3, .inl (cJ, 8, .inr (.inl z1.2.2.2.1))), (h4, .inl (cC, 40, .inl z1.2.2.2.2.2.1)), (h5, .inl (cI, 40, .inl z1.2.2.2.2.2.2.1))] := hD.sub [0, 1, 2, 3, 4, 5] (by decide) rfl
  refine my_bz_eq (x := z1.1) (tgt := 11) hx hb dX6_compare_6 (by decide) (fun c2 => ?_) (fun c2 => ?_)
  · rw [if_pos c2] at hf
    refine lv_aload_n hx hb dX6_compare_11 rfl (lv_at hl 0 rfl) ?_
    refine lv_iload_n hx hb dX6_compare_12 rfl (lv_at hl 1 rfl) ?_
    obtain ⟨r3, er3, hf⟩ := ob_e hf
    refine my_callRl (As := [.int a0]) (n := 1) (rest := []) ⟨hx, hb, hml, hown, hts⟩ hK (hP.sub (ws' := (wM cC cI cJ h0 h1 h2 h3 h4 h5 z1.2)) [0, 1, 2, 3, 4, 5] rfl) (m_X6_placeIn l D cC cI cJ h0 h1 h2 h3 h4 h5 z1.2 a0 _ er3) gX6_compare_X6_placeIn rfl ⟨rfl, rfl⟩ (ci := 5) rfl rfl (by decide +kernel) ⟨Nat.le_of_ble_eq_true rfl, Nat.le_of_ble_eq_true rfl⟩ ⟨Nat.le_of_ble_eq_true rfl, Nat.le_of_ble_eq_true rfl⟩ hl.1 rfl rfl (Nat.le_of_ble_eq_true rfl) dX6_compare_13 ?_
    refine lv_lstore_n (lv' := [(3, .long r3), (0, .ref h0), (1, .int a0), (2, .int a1)]) hx hb dX6_compare_16 rfl hl (by decide) rfl (fun ls hl => ?_)
    refine lv_aload_n hx hb dX6_compare_17 rfl (lv_at hl 1 rfl) ?_
    refine lv_iload_n hx hb dX6_compare_18 rfl (lv_at hl 3 rfl) ?_
    obtain ⟨r4, er4, hf⟩ := ob_e hf
    refine my_callRl (As := [.int a1]) (n := 1) (rest := []) ⟨hx, hb, hml, hown, hts⟩ hK (hP.sub (ws' := (wM cC cI cJ h0 h1 h2 h3 h4 h5 z1.2)) [0, 1, 2, 3, 4, 5] rfl) (m_X6_placeIn l D cC cI cJ h0 h1 h2 h3 h4 h5 z1.2 a1 _ er4) gX6_compare_X6_placeIn rfl ⟨rfl, rfl⟩ (ci := 5) rfl rfl (by decide +kernel) ⟨Nat.le_of_ble_eq_true rfl, Nat.le_of_ble_eq_true rfl⟩ ⟨Nat.le_of_ble_eq_true rfl, Nat.le_of_ble_eq_true rfl⟩ hl.1 rfl rfl (Nat.le_of_ble_eq_true rfl) dX6_compare_19 ?_
    refine lv_lstore (lv' := [(5, .long r4), (3, .long r3), (0, .ref h0), (1, .int a0), (2, .int a1)]) hx hb dX6_compare_22 hl (by decide) rfl (fun ls hl => ?_)
    refine lv_lload_n hx hb dX6_compare_24 rfl (lv_at hl 1 rfl) ?_
    refine lv_lload hx hb dX6_compare_25 (lv_at hl 0 rfl) ?_
    refine my_lc_ge (tgt := 35) hx hb dX6_compare_27 dX6_compare_28 (by decide) (fun c5 => ?_) (fun c5 => ?_)
    · rw [if_neg c5] at hf
      refine lv_lload_n hx hb dX6_compare_35 rfl (lv_at hl 1 rfl) ?_
      refine lv_lload hx hb dX6_compare_36 (lv_at hl 0 rfl) ?_
      refine my_lc_le (tgt := 46) hx hb dX6_compare_38 dX6_compare_39 (by decide) (fun c6 => ?_) (fun c6 => ?_)
      · rw [if_neg c6] at hf
        refine lv_iconst (v := 0) hx hb dX6_compare_46 (by decide) ?_
        have hP9 : va_P D vwCl (wM cC cI cJ h0 h1 h2 h3 h4 h5 z1.2) _ := hP
        have hD9 : va_D A (wM cC cI cJ h0 h1 h2 h3 h4 h5 z1.2) := hD
        have hf := Option.some.inj hf
        have hf1 := congrArg Prod.fst hf
        have hf2 := congrArg Prod.snd hf
        exact W.iret (v := 0) hx hb hr (fun t ht hW => ⟨⟨0, z1.2, rfl, ⟨hf1, hf2⟩, by rw [ht]; exact hP9, va_K.moved hW.alike hK, hD9⟩, hS.F ht⟩) hS.2.2 dX6_compare_47
      · rw [if_pos c6] at hf
        refine lv_iconst (v := 1) hx hb dX6_compare_42 (by decide) ?_
        refine lv_goto (tgt := 47) hx hb dX6_compare_43 (by decide) ?_
        have hP9 : va_P D vwCl (wM cC cI cJ h0 h1 h2 h3 h4 h5 z1.2) _ := hP
        have hD9 : va_D A (wM cC cI cJ h0 h1 h2 h3 h4 h5 z1.2) := hD
        have hf := Option.some.inj hf
        have hf1 := congrArg Prod.fst hf
        have hf2 := congrArg Prod.snd hf
        exact W.iret (v := 1) hx hb hr (fun t ht hW => ⟨⟨1, z1.2, rfl, ⟨hf1, hf2⟩, by rw [ht]; exact hP9, va_K.moved hW.alike hK, hD9⟩, hS.F ht⟩) hS.2.2 dX6_compare_47
    · rw [if_pos c5] at hf
      refine lv_iconst (v := (-1)) hx hb dX6_compare_31 (by decide) ?_
      refine lv_goto (tgt := 47) hx hb dX6_compare_32 (by decide) ?_
      have hP9 : va_P D vwCl (wM cC cI cJ h0 h1 h2 h3 h4 h5 z1.2) _ := hP
      have hD9 : va_D A (wM cC cI cJ h0 h1 h2 h3 h4 h5 z1.2) := hD
      have hf := Option.some.inj hf
      have hf1 := congrArg Prod.fst hf
      have hf2 := congrArg Prod.snd hf
      exact W.iret (v := (-1)) hx hb hr (fun t ht hW => ⟨⟨(-1), z1.2, rfl, ⟨hf1, hf2⟩, by rw [ht]; exact hP9, va_K.moved hW.alike hK, hD9⟩, hS.F ht⟩) hS.2.2 dX6_compare_47
  · rw [if_neg c2] at hf
    refine lv_iconst (v := 0) hx hb dX6_compare_9 (by decide) ?_
    have hP9 : va_P D vwCl (wM cC cI cJ h0 h1 h2 h3 h4 h5 z1.2) _ := hP
    have hD9 : va_D A (wM cC cI cJ h0 h1 h2 h3 h4 h5 z1.2) := hD
    have hf := Option.some.inj hf
    have hf1 := congrArg Prod.fst hf
    have hf2 := congrArg Prod.snd hf
    exact W.iret (v := 0) hx hb hr (fun t ht hW => ⟨⟨0, z1.2, rfl, ⟨hf1, hf2⟩, by rw [ht]; exact hP9, va_K.moved hW.alike hK, hD9⟩, hS.F ht⟩) hS.2.2 dX6_compare_10

set_option maxHeartbeats 4000000 in
set_option maxRecDepth 100000 in
theorem m_X6_least (l : Launch) (D : va_G) (cC cI cJ : ClassId) (h0 h1 h2 h3 h4 h5 : Nat) (u : StM) (sz : Nat)  (res : Int32 × StM) (hf : f_X6_least u = some res) : Met l yX6_least wsX6_least rmX6_least (my_PcM D vwCl (KT cC cI cJ) sz (wM cC cI cJ h0 h1 h2 h3 h4 h5 u) [.ref h0]) (va_Qi (fun r v => r = res.1 ∧ v = res.2) (my_B D vwCl (KT cC cI cJ) (va_A (wM cC cI cJ h0 h1 h2 h3 h4 h5 u) sz) (fun v : StM => (wM cC cI cJ h0 h1 h2 h3 h4 h5 v))) (va_A (wM cC cI cJ h0 h1 h2 h3 h4 h5 u) sz)) 0 0 (va_A (wM cC cI cJ h0 h1 h2 h3 h4 h5 u) sz) := by
  refine Met.ofW (cc := cX6_least) (maxL := 3) (ret := (some .int)) (by decide) rfl ?_
  intro p e s m args below meth c s₁ B hml hv
  obtain ⟨rfl, hsz, hP, hK, hD0⟩ := hv
  have hx := B.exec
  have hb := B.bytes
  have hr := B.returns
  have hts : ∀ w ∈ wsX6_least, w.before ([.ref h0] : List Value).toArray s = true := atoms_spec (ws := wsX6_least) B.pre
  have hown : s.vm.findClass RX6 = some m.cls := findClass_of_methodNamed B.named
  have hlk : meth.locks = false := B.notSynchronized
  subst hsz
  have hD := hD0.self (sz := s.heap.size)
  generalize hAe : va_A (wM cC cI cJ h0 h1 h2 h3 h4 h5 u) s.heap.size = A at hD ⊢
  have hA : ∀ q : Nat, s.heap.size ≤ q → A q := fun q h => by rw [← hAe]; exact Or.inr h
  have hS : va_S A s.heap s.heap [] := va_S.rf
  have hP : va_P D vwCl [(h0, .inr (5, [.ref h1, .ref h2, .ref h3, .int u.2.2.2.1, .ref h4, .ref h5, .int u.2.2.2.2.2.2.1, .int u.2.2.2.2.2.2.2])), (h1, .inl (cJ, 8, .inr (.inl u.1))), (h2, .inl (cI, 8, .inl u.2.1)), (h3, .inl (cJ, 8, .inr (.inl u.2.2.1))), (h4, .inl (cC, 40, .inl u.2.2.2.2.1)), (h5, .inl (cI, 40, .inl u.2.2.2.2.2.1))] s.heap := hP
  have hD : va_D A [(h0, .inr (5, [.ref h1, .ref h2, .ref h3, .int u.2.2.2.1, .ref h4, .ref h5, .int u.2.2.2.2.2.2.1, .int u.2.2.2.2.2.2.2])), (h1, .inl (cJ, 8, .inr (.inl u.1))), (h2, .inl (cI, 8, .inl u.2.1)), (h3, .inl (cJ, 8, .inr (.inl u.2.2.1))), (h4, .inl (cC, 40, .inl u.2.2.2.2.1)), (h5, .inl (cI, 40, .inl u.2.2.2.2.2.1))] := hD
  have q1 := hts (.fieldLink RX6 27 "DoublelineModel" "thrown" "I") (by decide +kernel)
  have q2 : ∀ w ∈ u_ws RX6 TX6 8, w ∈ wsX6_least := by decide +kernel
  have hl := lv_entry ([.ref h0]) (n := 3) (Nat.le_of_ble_eq_true rfl)
  rw [lg_entry_eq]
  generalize (lg_sl ([.ref h0]) ++ List.replicate (3 - (lg_sl ([.ref h0])).length) Slot.unset).toArray = ls at hl ⊢
  have hl : lv_has ls 3 [(0, .ref h0)] := hl
  unfold f_X6_least at hf
  refine lv_iconst (v := 0) hx hb dX6_least_0 (by decide) ?_
  refine lv_istore_n (lv' := [(1, .int 0), (0, .ref h0)]) hx hb dX6_least_1 rfl hl (by decide) rfl (fun ls hl => ?_)
  refine lv_aload_n hx hb dX6_least_2 rfl (lv_at hl 1 rfl) ?_
  refine lv_iconst (v := 0) hx hb dX6_least_3 (by decide) ?_
  refine va_put (D := D) (ci := 5) (v := .int 0) (ty := .int) (C := RX6) (T := TX6) (N := 8) hx hb hts q2 tyX6 tyX6_ok nmX6 hown hK hP hD hS 0 rfl rfl 7 (by decide) q1 (fun _ h9 => h9) rfl (by decide +kernel) rfl rfl (Nat.le_of_ble_eq_true rfl) dX6_least_4 (fun H locs hP hD hS => ?_)
  have hP : va_P D vwCl [(h0, .inr (5, [.ref h1, .ref h2, .ref h3, .int u.2.2.2.1, .ref h4, .ref h5, .int u.2.2.2.2.2.2.1, .int 0])), (h1, .inl (cJ, 8, .inr (.inl u.1))), (h2, .inl (cI, 8, .inl u.2.1)), (h3, .inl (cJ, 8, .inr (.inl u.2.2.1))), (h4, .inl (cC, 40, .inl u.2.2.2.2.1)), (h5, .inl (cI, 40, .inl u.2.2.2.2.2.1))] H := hP
  have hD : va_D A [(h0, .inr (5, [.ref h1, .ref h2, .ref h3, .int u.2.2.2.1, .ref h4, .ref h5, .int u.2.2.2.2.2.2.1, .int 0])), (h1, .inl (cJ, 8, .inr (.inl u.1))), (h2, .inl (cI, 8, .inl u.2.1)), (h3, .inl (cJ, 8, .inr (.inl u.2.2.1))), (h4, .inl (cC, 40, .inl u.2.2.2.2.1)), (h5, .inl (cI, 40, .inl u.2.2.2.2.2.1))] := hD
  refine lv_iconst (v := 1) hx hb dX6_least_7 (by decide) ?_
  refine lv_istore_n (lv' := [(2, .int 1), (1, .int 0), (0, .ref h0)]) hx hb dX6_least_8 rfl hl (by decide) rfl (fun ls hl => ?_)
  have loop9 : ∀ (n9 : Nat) (v9_2 : Int32) (v9_1 : Int32) (s9 : StM) (H : Heap) (locs : List Loc) (hP : va_P D vwCl [(h0, .inr (5, [.ref h1, .ref h2, .ref h3, .int s9.2.2.2.1, .ref h4, .ref h5, .int s9.2.2.2.2.2.2.1, .int s9.2.2.2.2.2.2.2])), (h1, .inl (cJ, 8, .inr (.inl s9.1))), (h2, .inl (cI, 8, .inl s9.2.1)), (h3, .inl (cJ, 8, .inr (.inl s9.2.2.1))), (h4, .inl (cC, 40, .inl s9.2.2.2.2.1)), (h5, .inl (cI, 40, .inl s9.2.2.2.2.2.1))] H) (hD : va_D A [(h0, .inr (5, [.ref h1, .ref h2, .ref h3, .int s9.2.2.2.1, .ref h4, .ref h5, .int s9.2.2.2.2.2.2.1, .int s9.2.2.2.2.2.2.2])), (h1, .inl (cJ, 8, .inr (.inl s9.1))), (h2, .inl (cI, 8, .inl s9.2.1)), (h3, .inl (cJ, 8, .inr (.inl s9.2.2.1))), (h4, .inl (cC, 40, .inl s9.2.2.2.2.1)), (h5, .inl (cI, 40, .inl s9.2.2.2.2.2.1))]) (hS : va_S A s.heap H locs) (ls : Array Slot), lv_has ls 3 [(2, .int v9_2), (1, .int v9_1), (0, .ref h0)] → f_X6_least_L9 u n9 v9_2 v9_1 s9 = some res → W p l e (rmX6_least) s m ([.ref h0] : List Value).toArray below meth c H locs 0 0 (MQ below (va_Qi (fun r v => r = res.1 ∧ v = res.2) (my_B D vwCl (KT cC cI cJ) A (fun v : StM => (wM cC cI cJ h0 h1 h2 h3 h4 h5 v))) A) ([.ref h0] : List Value).toArray s 0 0 A) (F0 m 9 ls []) := by
    intro n9
    induction n9 with
    | zero => intro v9_2 v9_1 s9 H locs hP hD hS ls hl hf; rw [f_X6_least_L9] at hf; cases hf
    | succ n9 ih9 =>
      intro v9_2 v9_1 s9 H locs hP hD hS ls hl hf
      rw [f_X6_least_L9] at hf
      refine lv_iload_n hx hb dX6_least_9 rfl (lv_at hl 0 rfl) ?_
      refine lv_bipush (v := 8) hx hb dX6_least_10 (by decide) ?_
      refine my_ic_ge (tgt := 37) hx hb dX6_least_12 (by decide) (fun c1 => ?_) (fun c1 => ?_)
      · rw [if_neg c1] at hf
        refine lv_iload_n hx hb dX6_least_37 rfl (lv_at hl 1 rfl) ?_
        have hP9 : va_P D vwCl (wM cC cI cJ h0 h1 h2 h3 h4 h5 s9) _ := hP
        have hD9 : va_D A (wM cC cI cJ h0 h1 h2 h3 h4 h5 s9) := hD
        have hf := Option.some.inj hf
        have hf1 := congrArg Prod.fst hf
        have hf2 := congrArg Prod.snd hf
        exact W.iret (v := v9_1) hx hb hr (fun t ht hW => ⟨⟨v9_1, s9, rfl, ⟨hf1, hf2⟩, by rw [ht]; exact hP9, va_K.moved hW.alike hK, hD9⟩, hS.F ht⟩) hS.2.2 dX6_least_38
      · rw [if_pos c1] at hf
        refine lv_aload_n hx hb dX6_least_15 rfl (lv_at hl 2 rfl) ?_
        refine lv_iload_n hx hb dX6_least_16 rfl (lv_at hl 0 rfl) ?_
        obtain ⟨r2, er2, hf⟩ := ob_e hf
        refine my_callRl (As := [.int v9_2]) (n := 1) (rest := []) ⟨hx, hb, hml, hown, hts⟩ hK (hP.sub (ws' := (wM cC cI cJ h0 h1 h2 h3 h4 h5 s9)) [0, 1, 2, 3, 4, 5] rfl) (m_X6_placeIn l D cC cI cJ h0 h1 h2 h3 h4 h5 s9 v9_2 _ er2) gX6_least_X6_placeIn rfl ⟨rfl, rfl⟩ (ci := 5) rfl rfl (by decide +kernel) ⟨Nat.le_of_ble_eq_true rfl, Nat.le_of_ble_eq_true rfl⟩ ⟨Nat.le_of_ble_eq_true rfl, Nat.le_of_ble_eq_true rfl⟩ hl.1 rfl rfl (Nat.le_of_ble_eq_true rfl) dX6_least_17 ?_
        refine lv_aload_n hx hb dX6_least_20 rfl (lv_at hl 2 rfl) ?_
        refine lv_iload_n hx hb dX6_least_21 rfl (lv_at hl 1 rfl) ?_
        obtain ⟨r3, er3, hf⟩ := ob_e hf
        refine my_callRl (As := [.int v9_1]) (n := 1) (rest := [.long r2]) ⟨hx, hb, hml, hown, hts⟩ hK (hP.sub (ws' := (wM cC cI cJ h0 h1 h2 h3 h4 h5 s9)) [0, 1, 2, 3, 4, 5] rfl) (m_X6_placeIn l D cC cI cJ h0 h1 h2 h3 h4 h5 s9 v9_1 _ er3) gX6_least_X6_placeIn rfl ⟨rfl, rfl⟩ (ci := 5) rfl rfl (by decide +kernel) ⟨Nat.le_of_ble_eq_true rfl, Nat.le_of_ble_eq_true rfl⟩ ⟨Nat.le_of_ble_eq_true rfl, Nat.le_of_ble_eq_true rfl⟩ hl.1 rfl rfl (Nat.le_of_ble_eq_true rfl) dX6_least_22 ?_
        refine my_lc_ge (tgt := 31) hx hb dX6_least_25 dX6_least_26 (by decide) (fun c4 => ?_) (fun c4 => ?_)
        · rw [if_neg c4] at hf
          refine lv_iinc (v := (v9_2 + 1)) (lv' := [(2, .int (v9_2 + 1)), (1, .int v9_1), (0, .ref h0)]) hx hb dX6_least_31 hl (k := 0) rfl rfl (by decide) rfl (fun ls hl => ?_)
          refine lv_goto (tgt := 9) hx hb dX6_least_34 (by decide) ?_
          exact ih9 (v9_2 + 1) v9_1 s9 _ _ hP hD hS _ (lv_sub hl [0, 1, 2] rfl) hf
        · rw [if_pos c4] at hf
          refine lv_iload_n hx hb dX6_least_29 rfl (lv_at hl 0 rfl) ?_
          refine lv_istore_n (lv' := [(1, .int v9_2), (2, .int v9_2), (0, .ref h0)]) hx hb dX6_least_30 rfl hl (by decide) rfl (fun ls hl => ?_)
          refine lv_iinc (v := (v9_2 + 1)) (lv' := [(2, .int (v9_2 + 1)), (1, .int v9_2), (0, .ref h0)]) hx hb dX6_least_31 hl (k := 1) rfl rfl (by decide) rfl (fun ls hl => ?_)
          refine lv_goto (tgt := 9) hx hb dX6_least_34 (by decide) ?_
          exact ih9 (v9_2 + 1) v9_2 s9 _ _ hP hD hS _ (lv_sub hl [0, 1, 2] rfl) hf
  exact loop9 100 1 0 (u.1, (u.2.1, (u.2.2.1, (u.2.2.2.1, (u.2.2.2.2.1, (u.2.2.2.2.2.1, (u.2.2.2.2.2.2.1, 0))))))) _ _ hP hD hS _ (lv_sub hl [0, 1, 2] rfl) hf

set_option maxHeartbeats 4000000 in
set_option maxRecDepth 100000 in
theorem m_X6_rank (l : Launch) (D : va_G) (cC cI cJ : ClassId) (h0 h1 h2 h3 h4 h5 : Nat) (u : StM) (sz : Nat) (a0 : Int32) (res : Int32 × StM) (hf : f_X6_rank u a0 = some res) : Met l yX6_rank wsX6_rank rmX6_rank (my_PcM D vwCl (KT cC cI cJ) sz (wM cC cI cJ h0 h1 h2 h3 h4 h5 u) [.ref h0, .int a0]) (va_Qi (fun r v => r = res.1 ∧ v = res.2) (my_B D vwCl (KT cC cI cJ) (va_A (wM cC cI cJ h0 h1 h2 h3 h4 h5 u) sz) (fun v : StM => (wM cC cI cJ h0 h1 h2 h3 h4 h5 v))) (va_A (wM cC cI cJ h0 h1 h2 h3 h4 h5 u) sz)) 0 0 (va_A (wM cC cI cJ h0 h1 h2 h3 h4 h5 u) sz) := by
  refine Met.ofW (cc := cX6_rank) (maxL := 4) (ret := (some .int)) (by decide) rfl ?_
  intro p e s m args below meth c s₁ B hml hv
  obtain ⟨rfl, hsz, hP, hK, hD0⟩ := hv
  have hx := B.exec
  have hb := B.bytes
  have hr := B.returns
  have hts : ∀ w ∈ wsX6_rank, w.before ([.ref h0, .int a0] : List Value).toArray s = true := atoms_spec (ws := wsX6_rank) B.pre
  have hown : s.vm.findClass RX6 = some m.cls := findClass_of_methodNamed B.named
  have hlk : meth.locks = false := B.notSynchronized
  subst hsz
  have hD := hD0.self (sz := s.heap.size)
  generalize hAe : va_A (wM cC cI cJ h0 h1 h2 h3 h4 h5 u) s.heap.size = A at hD ⊢
  have hA : ∀ q : Nat, s.heap.size ≤ q → A q := fun q h => by rw [← hAe]; exact Or.inr h
  have hS : va_S A s.heap s.heap [] := va_S.rf
  have hP : va_P D vwCl [(h0, .inr (5, [.ref h1, .ref h2, .ref h3, .int u.2.2.2.1, .ref h4, .ref h5, .int u.2.2.2.2.2.2.1, .int u.2.2.2.2.2.2.2])), (h1, .inl (cJ, 8, .inr (.inl u.1))), (h2, .inl (cI, 8, .inl u.2.1)), (h3, .inl (cJ, 8, .inr (.inl u.2.2.1))), (h4, .inl (cC, 40, .inl u.2.2.2.2.1)), (h5, .inl (cI, 40, .inl u.2.2.2.2.2.1))] s.heap := hP
  have hD : va_D A [(h0, .inr (5, [.ref h1, .ref h2, .ref h3, .int u.2.2.2.1, .ref h4, .ref h5, .int u.2.2.2.2.2.2.1, .int u.2.2.2.2.2.2.2])), (h1, .inl (cJ, 8, .inr (.inl u.1))), (h2, .inl (cI, 8, .inl u.2.1)), (h3, .inl (cJ, 8, .inr (.inl u.2.2.1))), (h4, .inl (cC, 40, .inl u.2.2.2.2.1)), (h5, .inl (cI, 40, .inl u.2.2.2.2.2.1))] := hD
  have hl := lv_entry ([.ref h0, .int a0]) (n := 4) (Nat.le_of_ble_eq_true rfl)
  rw [lg_entry_eq]
  generalize (lg_sl ([.ref h0, .int a0]) ++ List.replicate (4 - (lg_sl ([.ref h0, .int a0])).length) Slot.unset).toArray = ls at hl ⊢
  have hl : lv_has ls 4 [(0, .ref h0), (1, .int a0)] := hl
  unfold f_X6_rank at hf
  refine lv_aload_n hx hb dX6_rank_0 rfl (lv_at hl 0 rfl) ?_
  refine lv_iload_n hx hb dX6_rank_1 rfl (lv_at hl 1 rfl) ?_
  obtain ⟨z1, ez1, hf⟩ := ob_e hf
  refine my_callMi (As := [.int a0]) (n := 1) (rest := []) (wr := []) ⟨hx, hb, hml, hown, hts⟩ hK hP hD hS hA [0, 1, 2, 3, 4, 5] [] rfl rfl (by decide) (by decide) (by decide) (m_X6_lacks l D cC cI cJ h0 h1 h2 h3 h4 h5 u s.heap.size a0 _ ez1) gX6_rank_X6_lacks rfl ⟨rfl, rfl⟩ (ci := 5) rfl rfl (by decide +kernel) ⟨Nat.le_of_ble_eq_true rfl, Nat.le_of_ble_eq_true rfl⟩ ⟨Nat.le_of_ble_eq_true rfl, Nat.le_of_ble_eq_true rfl⟩ hl.1 rfl rfl (Nat.le_of_ble_eq_true rfl) dX6_rank_2 (fun r9 u9 H locs hw hP hD hS => ?_)
  obtain ⟨rfl, rfl⟩ := hw
  have hP : va_P D vwCl [(h0, .inr (5, [.ref h1, .ref h2, .ref h3, .int z1.2.2.2.2.1, .ref h4, .ref h5, .int z1.2.2.2.2.2.2.2.1, .int z1.2.2.2.2.2.2.2.2])), (h1, .inl (cJ, 8, .inr (.inl z1.2.1))), (h2, .inl (cI, 8, .inl z1.2.2.1)), (h3, .inl (cJ, 8, .inr (.inl z1.2.2.2.1))), (h4, .inl (cC, 40, .inl z1.2.2.2.2.2.1)), (h5, .inl (cI, 40, .inl z1.2.2.2.2.2.2.1))] H := hP.sub [0, 1, 2, 3, 4, 5] rfl
  have hD : va_D A [(h0, .inr (5, [.ref h1, .ref h2, .ref h3, .int z1.2.2.2.2.1, .ref h4, .ref h5, .int z1.2.2.2.2.2.2.2.1, .int z1.2.2.2.2.2.2.2.2])), (h1, .inl (cJ, 8, .inr (.inl z1.2.1))), (h2, .inl (cI, 8, .inl z1.2.2.1)), (h3, .inl (cJ, 8, .inr (.inl z1.2.2.2.1))), (h4, .inl (cC, 40, .inl z1.2.2.2.2.2.1)), (h5, .inl (cI, 40, .inl z1.2.2.2.2.2.2.1))] := hD.sub [0, 1, 2, 3, 4, 5] (by decide) rfl
  refine my_bz_eq (x := z1.1) (tgt := 10) hx hb dX6_rank_5 (by decide) (fun c2 => ?_) (fun c2 => ?_)
  · rw [if_pos c2] at hf
    refine lv_iconst (v := 0) hx hb dX6_rank_10 (by decide) ?_
    refine lv_istore_n (lv' := [(2, .int 0), (0, .ref h0), (1, .int a0)]) hx hb dX6_rank_11 rfl hl (by decide) rfl (fun ls hl => ?_)
    refine lv_iconst (v := 0) hx hb dX6_rank_12 (by decide) ?_
    refine lv_istore_n (lv' := [(3, .int 0), (2, .int 0), (0, .ref h0), (1, .int a0)]) hx hb dX6_rank_13 rfl hl (by decide) rfl (fun ls hl => ?_)
    have loop14 : ∀ (n14 : Nat) (v14_3 : Int32) (v14_2 : Int32) (s14 : StM) (H : Heap) (locs : List Loc) (hP : va_P D vwCl [(h0, .inr (5, [.ref h1, .ref h2, .ref h3, .int s14.2.2.2.1, .ref h4, .ref h5, .int s14.2.2.2.2.2.2.1, .int s14.2.2.2.2.2.2.2])), (h1, .inl (cJ, 8, .inr (.inl s14.1))), (h2, .inl (cI, 8, .inl s14.2.1)), (h3, .inl (cJ, 8, .inr (.inl s14.2.2.1))), (h4, .inl (cC, 40, .inl s14.2.2.2.2.1)), (h5, .inl (cI, 40, .inl s14.2.2.2.2.2.1))] H) (hD : va_D A [(h0, .inr (5, [.ref h1, .ref h2, .ref h3, .int s14.2.2.2.1, .ref h4, .ref h5, .int s14.2.2.2.2.2.2.1, .int s14.2.2.2.2.2.2.2])), (h1, .inl (cJ, 8, .inr (.inl s14.1))), (h2, .inl (cI, 8, .inl s14.2.1)), (h3, .inl (cJ, 8, .inr (.inl s14.2.2.1))), (h4, .inl (cC, 40, .inl s14.2.2.2.2.1)), (h5, .inl (cI, 40, .inl s14.2.2.2.2.2.1))]) (hS : va_S A s.heap H locs) (ls : Array Slot), lv_has ls 4 [(3, .int v14_3), (2, .int v14_2), (0, .ref h0), (1, .int a0)] → f_X6_rank_L14 u a0 n14 v14_3 v14_2 s14 = some res → W p l e (rmX6_rank) s m ([.ref h0, .int a0] : List Value).toArray below meth c H locs 0 0 (MQ below (va_Qi (fun r v => r = res.1 ∧ v = res.2) (my_B D vwCl (KT cC cI cJ) A (fun v : StM => (wM cC cI cJ h0 h1 h2 h3 h4 h5 v))) A) ([.ref h0, .int a0] : List Value).toArray s 0 0 A) (F0 m 14 ls []) := by
      intro n14
      induction n14 with
      | zero => intro v14_3 v14_2 s14 H locs hP hD hS ls hl hf; rw [f_X6_rank_L14] at hf; cases hf
      | succ n14 ih14 =>
        intro v14_3 v14_2 s14 H locs hP hD hS ls hl hf
        rw [f_X6_rank_L14] at hf
        refine lv_iload_n hx hb dX6_rank_14 rfl (lv_at hl 0 rfl) ?_
        refine lv_bipush (v := 8) hx hb dX6_rank_15 (by decide) ?_
        refine my_ic_ge (tgt := 43) hx hb dX6_rank_17 (by decide) (fun c3 => ?_) (fun c3 => ?_)
        · rw [if_neg c3] at hf
          refine lv_iload_n hx hb dX6_rank_43 rfl (lv_at hl 1 rfl) ?_
          have hP9 : va_P D vwCl (wM cC cI cJ h0 h1 h2 h3 h4 h5 s14) _ := hP
          have hD9 : va_D A (wM cC cI cJ h0 h1 h2 h3 h4 h5 s14) := hD
          have hf := Option.some.inj hf
          have hf1 := congrArg Prod.fst hf
          have hf2 := congrArg Prod.snd hf
          exact W.iret (v := v14_2) hx hb hr (fun t ht hW => ⟨⟨v14_2, s14, rfl, ⟨hf1, hf2⟩, by rw [ht]; exact hP9, va_K.moved hW.alike hK, hD9⟩, hS.F ht⟩) hS.2.2 dX6_rank_44
        · rw [if_pos c3] at hf
          refine lv_aload_n hx hb dX6_rank_20 rfl (lv_at hl 2 rfl) ?_
          refine lv_iload_n hx hb dX6_rank_21 rfl (lv_at hl 0 rfl) ?_
          obtain ⟨r4, er4, hf⟩ := ob_e hf
          refine my_callRl (As := [.int v14_3]) (n := 1) (rest := []) ⟨hx, hb, hml, hown, hts⟩ hK (hP.sub (ws' := (wM cC cI cJ h0 h1 h2 h3 h4 h5 s14)) [0, 1, 2, 3, 4, 5] rfl) (m_X6_placeIn l D cC cI cJ h0 h1 h2 h3 h4 h5 s14 v14_3 _ er4) gX6_rank_X6_placeIn rfl ⟨rfl, rfl⟩ (ci := 5) rfl rfl (by decide +kernel) ⟨Nat.le_of_ble_eq_true rfl, Nat.le_of_ble_eq_true rfl⟩ ⟨Nat.le_of_ble_eq_true rfl, Nat.le_of_ble_eq_true rfl⟩ hl.1 rfl rfl (Nat.le_of_ble_eq_true rfl) dX6_rank_22 ?_
          refine lv_aload_n hx hb dX6_rank_25 rfl (lv_at hl 2 rfl) ?_
          refine lv_iload_n hx hb dX6_rank_26 rfl (lv_at hl 3 rfl) ?_
          obtain ⟨r5, er5, hf⟩ := ob_e hf
          refine my_callRl (As := [.int a0]) (n := 1) (rest := [.long r4]) ⟨hx, hb, hml, hown, hts⟩ hK (hP.sub (ws' := (wM cC cI cJ h0 h1 h2 h3 h4 h5 s14)) [0, 1, 2, 3, 4, 5] rfl) (m_X6_placeIn l D cC cI cJ h0 h1 h2 h3 h4 h5 s14 a0 _ er5) gX6_rank_X6_placeIn rfl ⟨rfl, rfl⟩ (ci := 5) rfl rfl (by decide +kernel) ⟨Nat.le_of_ble_eq_true rfl, Nat.le_of_ble_eq_true rfl⟩ ⟨Nat.le_of_ble_eq_true rfl, Nat.le_of_ble_eq_true rfl⟩ hl.1 rfl rfl (Nat.le_of_ble_eq_true rfl) dX6_rank_27 ?_
          refine my_lc_ge (tgt := 37) hx hb dX6_rank_30 dX6_rank_31 (by decide) (fun c6 => ?_) (fun c6 => ?_)
          · rw [if_neg c6] at hf
            refine lv_iinc (v := (v14_3 + 1)) (lv' := [(3, .int (v14_3 + 1)), (2, .int v14_2), (0, .ref h0), (1, .int a0)]) hx hb dX6_rank_37 hl (k := 0) rfl rfl (by decide) rfl (fun ls hl => ?_)
            refine lv_goto (tgt := 14) hx hb dX6_rank_40 (by decide) ?_
            exact ih14 (v14_3 + 1) v14_2 s14 _ _ hP hD hS _ (lv_sub hl [0, 1, 2, 3] rfl) hf
          · rw [if_pos c6] at hf
            refine lv_iinc (v := (v14_2 + 1)) (lv' := [(2, .int (v14_2 + 1)), (3, .int v14_3), (0, .ref h0), (1, .int a0)]) hx hb dX6_rank_34 hl (k := 1) rfl rfl (by decide) rfl (fun ls hl => ?_)
            refine lv_iinc (v := (v14_3 + 1)) (lv' := [(3, .int (v14_3 + 1)), (2, .int (v14_2 + 1)), (0, .ref h0), (1, .int a0)]) hx hb dX6_rank_37 hl (k := 1) rfl rfl (by decide) rfl (fun ls hl => ?_)
            refine lv_goto (tgt := 14) hx hb dX6_rank_40 (by decide) ?_
            exact ih14 (v14_3 + 1) (v14_2 + 1) s14 _ _ hP hD hS _ (lv_sub hl [0, 1, 2, 3] rfl) hf
    exact loop14 100 0 0 z1.2 _ _ hP hD hS _ (lv_sub hl [0, 1, 2, 3] rfl) hf
  · rw [if_neg c2] at hf
    refine lv_iconst (v := 0) hx hb dX6_rank_8 (by decide) ?_
    have hP9 : va_P D vwCl (wM cC cI cJ h0 h1 h2 h3 h4 h5 z1.2) _ := hP
    have hD9 : va_D A (wM cC cI cJ h0 h1 h2 h3 h4 h5 z1.2) := hD
    have hf := Option.some.inj hf
    have hf1 := congrArg Prod.fst hf
    have hf2 := congrArg Prod.snd hf
    exact W.iret (v := 0) hx hb hr (fun t ht hW => ⟨⟨0, z1.2, rfl, ⟨hf1, hf2⟩, by rw [ht]; exact hP9, va_K.moved hW.alike hK, hD9⟩, hS.F ht⟩) hS.2.2 dX6_rank_9

set_option maxHeartbeats 4000000 in
set_option maxRecDepth 100000 in
theorem m_X6_scale (l : Launch) (D : va_G) (cC cI cJ : ClassId) (h0 h1 h2 h3 h4 h5 : Nat) (u : StM) (sz : Nat) (a0 : Int32) (a1 : Int32) (a2 : Int32) (res : Int64 × StM) (hf : f_X6_scale u a0 a1 a2 = some res) : Met l yX6_scale wsX6_scale rmX6_scale (my_PcM D vwCl (KT cC cI cJ) sz (wM cC cI cJ h0 h1 h2 h3 h4 h5 u) [.ref h0, .int a0, .int a1, .int a2]) (va_Ql (fun r v => r = res.1 ∧ v = res.2) (my_B D vwCl (KT cC cI cJ) (va_A (wM cC cI cJ h0 h1 h2 h3 h4 h5 u) sz) (fun v : StM => (wM cC cI cJ h0 h1 h2 h3 h4 h5 v))) (va_A (wM cC cI cJ h0 h1 h2 h3 h4 h5 u) sz)) 0 0 (va_A (wM cC cI cJ h0 h1 h2 h3 h4 h5 u) sz) := by
  refine Met.ofW (cc := cX6_scale) (maxL := 4) (ret := (some .long)) (by decide) rfl ?_
  intro p e s m args below meth c s₁ B hml hv
  obtain ⟨rfl, hsz, hP, hK, hD0⟩ := hv
  have hx := B.exec
  have hb := B.bytes
  have hr := B.returns
  have hts : ∀ w ∈ wsX6_scale, w.before ([.ref h0, .int a0, .int a1, .int a2] : List Value).toArray s = true := atoms_spec (ws := wsX6_scale) B.pre
  have hown : s.vm.findClass RX6 = some m.cls := findClass_of_methodNamed B.named
  have hlk : meth.locks = false := B.notSynchronized
  subst hsz
  have hD := hD0.self (sz := s.heap.size)
  generalize hAe : va_A (wM cC cI cJ h0 h1 h2 h3 h4 h5 u) s.heap.size = A at hD ⊢
  have hA : ∀ q : Nat, s.heap.size ≤ q → A q := fun q h => by rw [← hAe]; exact Or.inr h
  have hS : va_S A s.heap s.heap [] := va_S.rf
  have hP : va_P D vwCl [(h0, .inr (5, [.ref h1, .ref h2, .ref h3, .int u.2.2.2.1, .ref h4, .ref h5, .int u.2.2.2.2.2.2.1, .int u.2.2.2.2.2.2.2])), (h1, .inl (cJ, 8, .inr (.inl u.1))), (h2, .inl (cI, 8, .inl u.2.1)), (h3, .inl (cJ, 8, .inr (.inl u.2.2.1))), (h4, .inl (cC, 40, .inl u.2.2.2.2.1)), (h5, .inl (cI, 40, .inl u.2.2.2.2.2.1))] s.heap := hP
  have hD : va_D A [(h0, .inr (5, [.ref h1, .ref h2, .ref h3, .int u.2.2.2.1, .ref h4, .ref h5, .int u.2.2.2.2.2.2.1, .int u.2.2.2.2.2.2.2])), (h1, .inl (cJ, 8, .inr (.inl u.1))), (h2, .inl (cI, 8, .inl u.2.1)), (h3, .inl (cJ, 8, .inr (.inl u.2.2.1))), (h4, .inl (cC, 40, .inl u.2.2.2.2.1)), (h5, .inl (cI, 40, .inl u.2.2.2.2.2.1))] := hD
  have q1 := hts (.fieldLink RX6 9 "DoublelineModel" "codes" "[J") (by decide +kernel)
  have q2 : ∀ w ∈ u_ws RX6 TX6 8, w ∈ wsX6_scale := by decide +kernel
  have hl := lv_entry ([.ref h0, .int a0, .int a1, .int a2]) (n := 4) (Nat.le_of_ble_eq_true rfl)
  rw [lg_entry_eq]
  generalize (lg_sl ([.ref h0, .int a0, .int a1, .int a2]) ++ List.replicate (4 - (lg_sl ([.ref h0, .int a0, .int a1, .int a2])).length) Slot.unset).toArray = ls at hl ⊢
  have hl : lv_has ls 4 [(0, .ref h0), (1, .int a0), (2, .int a1), (3, .int a2)] := hl
  unfold f_X6_scale at hf
  refine lv_aload_n hx hb dX6_scale_0 rfl (lv_at hl 0 rfl) ?_
  refine lv_iload_n hx hb dX6_scale_1 rfl (lv_at hl 1 rfl) ?_
  refine lv_iload_n hx hb dX6_scale_2 rfl (lv_at hl 3 rfl) ?_
  obtain ⟨z1, ez1, hf⟩ := ob_e hf
  refine my_callMi (As := [.int a0, .int a2]) (n := 2) (rest := []) (wr := []) ⟨hx, hb, hml, hown, hts⟩ hK hP hD hS hA [0, 1, 2, 3, 4, 5] [] rfl rfl (by decide) (by decide) (by decide) (m_X6_lacks_ l D cC cI cJ h0 h1 h2 h3 h4 h5 u s.heap.size a0 a2 _ ez1) gX6_scale_X6_lacks_ rfl ⟨rfl, rfl⟩ (ci := 5) rfl rfl (by decide +kernel) ⟨Nat.le_of_ble_eq_true rfl, Nat.le_of_ble_eq_true rfl⟩ ⟨Nat.le_of_ble_eq_true rfl, Nat.le_of_ble_eq_true rfl⟩ hl.1 rfl rfl (Nat.le_of_ble_eq_true rfl) dX6_scale_3 (fun r9 u9 H locs hw hP hD hS => ?_)
  obtain ⟨rfl, rfl⟩ := hw
  have hP : va_P D vwCl [(h0, .inr (5, [.ref h1, .ref h2, .ref h3, .int z1.2.2.2.2.1, .ref h4, .ref h5, .int z1.2.2.2.2.2.2.2.1, .int z1.2.2.2.2.2.2.2.2])), (h1, .inl (cJ, 8, .inr (.inl z1.2.1))), (h2, .inl (cI, 8, .inl z1.2.2.1)), (h3, .inl (cJ, 8, .inr (.inl z1.2.2.2.1))), (h4, .inl (cC, 40, .inl z1.2.2.2.2.2.1)), (h5, .inl (cI, 40, .inl z1.2.2.2.2.2.2.1))] H := hP.sub [0, 1, 2, 3, 4, 5] rfl
  have hD : va_D A [(h0, .inr (5, [.ref h1, .ref h2, .ref h3, .int z1.2.2.2.2.1, .ref h4, .ref h5, .int z1.2.2.2.2.2.2.2.1, .int z1.2.2.2.2.2.2.2.2])), (h1, .inl (cJ, 8, .inr (.inl z1.2.1))), (h2, .inl (cI, 8, .inl z1.2.2.1)), (h3, .inl (cJ, 8, .inr (.inl z1.2.2.2.1))), (h4, .inl (cC, 40, .inl z1.2.2.2.2.2.1)), (h5, .inl (cI, 40, .inl z1.2.2.2.2.2.2.1))] := hD.sub [0, 1, 2, 3, 4, 5] (by decide) rfl
  refine my_bz_ne (x := z1.1) (tgt := 27) hx hb dX6_scale_6 (by decide) (fun c2 => ?_) (fun c2 => ?_)
  · rw [if_neg c2] at hf
    refine lv_lconst (v := 0) hx hb dX6_scale_27 (by decide) ?_
    have hP9 : va_P D vwCl (wM cC cI cJ h0 h1 h2 h3 h4 h5 z1.2) _ := hP
    have hD9 : va_D A (wM cC cI cJ h0 h1 h2 h3 h4 h5 z1.2) := hD
    have hf := Option.some.inj hf
    have hf1 := congrArg Prod.fst hf
    have hf2 := congrArg Prod.snd hf
    exact W.lret (v := 0) hx hb hr (fun t ht hW => ⟨⟨0, z1.2, rfl, ⟨hf1, hf2⟩, by rw [ht]; exact hP9, va_K.moved hW.alike hK, hD9⟩, hS.F ht⟩) hS.2.2 dX6_scale_28
  · rw [if_pos c2] at hf
    refine lv_aload_n hx hb dX6_scale_9 rfl (lv_at hl 0 rfl) ?_
    refine lv_iload_n hx hb dX6_scale_10 rfl (lv_at hl 2 rfl) ?_
    refine lv_sipush (v := (-4200)) hx hb dX6_scale_11 (by decide) ?_
    refine lv_sipush (v := 4200) hx hb dX6_scale_14 (by decide) ?_
    refine my_callPi (As := [.int a1, .int (-4200), .int 4200]) (n := 3) (rest := [.ref h0]) ⟨hx, hb, hml, hown, hts⟩ (m_X6_in l a1 (-4200) 4200 _ rfl) gX6_scale_X6_in rfl ⟨rfl, rfl⟩ (by decide +kernel) ⟨Nat.le_of_ble_eq_true rfl, Nat.le_of_ble_eq_true rfl⟩ ⟨Nat.le_of_ble_eq_true rfl, Nat.le_of_ble_eq_true rfl⟩ hl.1 rfl rfl (Nat.le_of_ble_eq_true rfl) dX6_scale_17 ?_
    refine lv_iconst (v := 2) hx hb dX6_scale_20 (by decide) ?_
    refine my_callMi (As := [.int (b2i (f_X6_in a1 (-4200) 4200)), .int 2]) (n := 2) (rest := []) (wr := []) ⟨hx, hb, hml, hown, hts⟩ hK hP hD hS hA [0, 1, 2, 3, 4, 5] [] rfl rfl (by decide) (by decide) (by decide) (m_X6_no l D cC cI cJ h0 h1 h2 h3 h4 h5 z1.2 H.size (f_X6_in a1 (-4200) 4200) 2 _ (no_b z1.2 (f_X6_in a1 (-4200) 4200) 2)) gX6_scale_X6_no rfl ⟨rfl, rfl⟩ (ci := 5) rfl rfl (by decide +kernel) ⟨Nat.le_of_ble_eq_true rfl, Nat.le_of_ble_eq_true rfl⟩ ⟨Nat.le_of_ble_eq_true rfl, Nat.le_of_ble_eq_true rfl⟩ hl.1 rfl rfl (Nat.le_of_ble_eq_true rfl) dX6_scale_21 (fun r9 u9 H locs hw hP hD hS => ?_)
    obtain ⟨rfl, rfl⟩ := hw
    have hP : va_P D vwCl [(h0, .inr (5, [.ref h1, .ref h2, .ref h3, .int z1.2.2.2.2.1, .ref h4, .ref h5, .int z1.2.2.2.2.2.2.2.1, .int (if (f_X6_in a1 (-4200) 4200) = true then 0 else 2)])), (h1, .inl (cJ, 8, .inr (.inl z1.2.1))), (h2, .inl (cI, 8, .inl z1.2.2.1)), (h3, .inl (cJ, 8, .inr (.inl z1.2.2.2.1))), (h4, .inl (cC, 40, .inl z1.2.2.2.2.2.1)), (h5, .inl (cI, 40, .inl z1.2.2.2.2.2.2.1))] H := hP.sub [0, 1, 2, 3, 4, 5] rfl
    have hD : va_D A [(h0, .inr (5, [.ref h1, .ref h2, .ref h3, .int z1.2.2.2.2.1, .ref h4, .ref h5, .int z1.2.2.2.2.2.2.2.1, .int (if (f_X6_in a1 (-4200) 4200) = true then 0 else 2)])), (h1, .inl (cJ, 8, .inr (.inl z1.2.1))), (h2, .inl (cI, 8, .inl z1.2.2.1)), (h3, .inl (cJ, 8, .inr (.inl z1.2.2.2.1))), (h4, .inl (cC, 40, .inl z1.2.2.2.2.2.1)), (h5, .inl (cI, 40, .inl z1.2.2.2.2.2.2.1))] := hD.sub [0, 1, 2, 3, 4, 5] (by decide) rfl
    refine my_bz_eq (x := (!(f_X6_in a1 (-4200) 4200))) (tgt := 29) hx hb dX6_scale_24 (by decide) (fun c3 => ?_) (fun c3 => ?_)
    · rw [if_pos c3] at hf
      refine lv_aload_n hx hb dX6_scale_29 rfl (lv_at hl 0 rfl) ?_
      refine lv_iload_n hx hb dX6_scale_30 rfl (lv_at hl 3 rfl) ?_
      refine lv_aload_n hx hb dX6_scale_31 rfl (lv_at hl 0 rfl) ?_
      refine va_get (D := D) (ci := 5) (v := .ref h1) (C := RX6) (T := TX6) (N := 8) hx hb hts q2 hown hK hP 0 rfl rfl 0 (by decide) q1 (fun _ h9 => h9) rfl dX6_scale_32 ?_
      refine lv_iload_n hx hb dX6_scale_35 rfl (lv_at hl 1 rfl) ?_
      obtain ⟨g4, hf⟩ := og_e hf
      refine va_lald hx hb hK hP 1 2 rfl rfl g4 dX6_scale_36 ?_
      refine lv_iload_n hx hb dX6_scale_37 rfl (lv_at hl 2 rfl) ?_
      obtain ⟨r5, er5, hf⟩ := ob_e hf
      refine my_callPl (As := [.long (z1.2.1 a0.toNatClampNeg), .int a1]) (n := 2) (rest := [.int a2, .ref h0]) ⟨hx, hb, hml, hown, hts⟩ (m_X6_scaled l (z1.2.1 a0.toNatClampNeg) a1 _ er5) gX6_scale_X6_scaled rfl ⟨rfl, rfl⟩ (by decide +kernel) ⟨Nat.le_of_ble_eq_true rfl, Nat.le_of_ble_eq_true rfl⟩ ⟨Nat.le_of_ble_eq_true rfl, Nat.le_of_ble_eq_true rfl⟩ hl.1 rfl rfl (Nat.le_of_ble_eq_true rfl) dX6_scale_38 ?_
      obtain ⟨z6, ez6, hf⟩ := ob_e hf
      refine my_callMl (As := [.int a2, .long r5]) (n := 2) (rest := []) (wr := []) ⟨hx, hb, hml, hown, hts⟩ hK hP hD hS hA [0, 1, 2, 3, 4, 5] [] rfl rfl (by decide) (by decide) (by decide) (m_X6_becomes l D cC cI cJ h0 h1 h2 h3 h4 h5 (z1.2.1, (z1.2.2.1, (z1.2.2.2.1, (z1.2.2.2.2.1, (z1.2.2.2.2.2.1, (z1.2.2.2.2.2.2.1, (z1.2.2.2.2.2.2.2.1, (if (f_X6_in a1 (-4200) 4200) = true then 0 else 2)))))))) H.size a2 r5 _ ez6) gX6_scale_X6_becomes rfl ⟨rfl, rfl⟩ (ci := 5) rfl rfl (by decide +kernel) ⟨Nat.le_of_ble_eq_true rfl, Nat.le_of_ble_eq_true rfl⟩ ⟨Nat.le_of_ble_eq_true rfl, Nat.le_of_ble_eq_true rfl⟩ hl.1 rfl rfl (Nat.le_of_ble_eq_true rfl) dX6_scale_41 (fun r9 u9 H locs hw hP hD hS => ?_)
      obtain ⟨rfl, rfl⟩ := hw
      have hP : va_P D vwCl [(h0, .inr (5, [.ref h1, .ref h2, .ref h3, .int z6.2.2.2.2.1, .ref h4, .ref h5, .int z6.2.2.2.2.2.2.2.1, .int z6.2.2.2.2.2.2.2.2])), (h1, .inl (cJ, 8, .inr (.inl z6.2.1))), (h2, .inl (cI, 8, .inl z6.2.2.1)), (h3, .inl (cJ, 8, .inr (.inl z6.2.2.2.1))), (h4, .inl (cC, 40, .inl z6.2.2.2.2.2.1)), (h5, .inl (cI, 40, .inl z6.2.2.2.2.2.2.1))] H := hP.sub [0, 1, 2, 3, 4, 5] rfl
      have hD : va_D A [(h0, .inr (5, [.ref h1, .ref h2, .ref h3, .int z6.2.2.2.2.1, .ref h4, .ref h5, .int z6.2.2.2.2.2.2.2.1, .int z6.2.2.2.2.2.2.2.2])), (h1, .inl (cJ, 8, .inr (.inl z6.2.1))), (h2, .inl (cI, 8, .inl z6.2.2.1)), (h3, .inl (cJ, 8, .inr (.inl z6.2.2.2.1))), (h4, .inl (cC, 40, .inl z6.2.2.2.2.2.1)), (h5, .inl (cI, 40, .inl z6.2.2.2.2.2.2.1))] := hD.sub [0, 1, 2, 3, 4, 5] (by decide) rfl
      have hP9 : va_P D vwCl (wM cC cI cJ h0 h1 h2 h3 h4 h5 z6.2) _ := hP
      have hD9 : va_D A (wM cC cI cJ h0 h1 h2 h3 h4 h5 z6.2) := hD
      have hf := Option.some.inj hf
      have hf1 := congrArg Prod.fst hf
      have hf2 := congrArg Prod.snd hf
      exact W.lret (v := z6.1) hx hb hr (fun t ht hW => ⟨⟨z6.1, z6.2, rfl, ⟨hf1, hf2⟩, by rw [ht]; exact hP9, va_K.moved hW.alike hK, hD9⟩, hS.F ht⟩) hS.2.2 dX6_scale_44
    · rw [if_neg c3] at hf
      refine lv_lconst (v := 0) hx hb dX6_scale_27 (by decide) ?_
      have hP9 : va_P D vwCl (wM cC cI cJ h0 h1 h2 h3 h4 h5 (z1.2.1, (z1.2.2.1, (z1.2.2.2.1, (z1.2.2.2.2.1, (z1.2.2.2.2.2.1, (z1.2.2.2.2.2.2.1, (z1.2.2.2.2.2.2.2.1, (if (f_X6_in a1 (-4200) 4200) = true then 0 else 2))))))))) _ := hP
      have hD9 : va_D A (wM cC cI cJ h0 h1 h2 h3 h4 h5 (z1.2.1, (z1.2.2.1, (z1.2.2.2.1, (z1.2.2.2.2.1, (z1.2.2.2.2.2.1, (z1.2.2.2.2.2.2.1, (z1.2.2.2.2.2.2.2.1, (if (f_X6_in a1 (-4200) 4200) = true then 0 else 2))))))))) := hD
      have hf := Option.some.inj hf
      have hf1 := congrArg Prod.fst hf
      have hf2 := congrArg Prod.snd hf
      exact W.lret (v := 0) hx hb hr (fun t ht hW => ⟨⟨0, (z1.2.1, (z1.2.2.1, (z1.2.2.2.1, (z1.2.2.2.2.1, (z1.2.2.2.2.2.1, (z1.2.2.2.2.2.2.1, (z1.2.2.2.2.2.2.2.1, (if (f_X6_in a1 (-4200) 4200) = true then 0 else 2)))))))), rfl, ⟨hf1, hf2⟩, by rw [ht]; exact hP9, va_K.moved hW.alike hK, hD9⟩, hS.F ht⟩) hS.2.2 dX6_scale_28

set_option maxHeartbeats 4000000 in
set_option maxRecDepth 100000 in
theorem m_X6_isKept (l : Launch) (D : va_G) (cC cI cJ : ClassId) (h0 h1 h2 h3 h4 h5 : Nat) (u : StM) (sz : Nat) (a0 : Int32) (a1 : Int32) (res : Bool × StM) (hf : f_X6_isKept u a0 a1 = some res) : Met l yX6_isKept wsX6_isKept rmX6_isKept (my_PcM D vwCl (KT cC cI cJ) sz (wM cC cI cJ h0 h1 h2 h3 h4 h5 u) [.ref h0, .int a0, .int a1]) (va_Qi (fun r v => r = b2i res.1 ∧ v = res.2) (my_B D vwCl (KT cC cI cJ) (va_A (wM cC cI cJ h0 h1 h2 h3 h4 h5 u) sz) (fun v : StM => (wM cC cI cJ h0 h1 h2 h3 h4 h5 v))) (va_A (wM cC cI cJ h0 h1 h2 h3 h4 h5 u) sz)) 0 0 (va_A (wM cC cI cJ h0 h1 h2 h3 h4 h5 u) sz) := by
  refine Met.ofW (cc := cX6_isKept) (maxL := 3) (ret := (some .boolean)) (by decide) rfl ?_
  intro p e s m args below meth c s₁ B hml hv
  obtain ⟨rfl, hsz, hP, hK, hD0⟩ := hv
  have hx := B.exec
  have hb := B.bytes
  have hr := B.returns
  have hts : ∀ w ∈ wsX6_isKept, w.before ([.ref h0, .int a0, .int a1] : List Value).toArray s = true := atoms_spec (ws := wsX6_isKept) B.pre
  have hown : s.vm.findClass RX6 = some m.cls := findClass_of_methodNamed B.named
  have hlk : meth.locks = false := B.notSynchronized
  subst hsz
  have hD := hD0.self (sz := s.heap.size)
  generalize hAe : va_A (wM cC cI cJ h0 h1 h2 h3 h4 h5 u) s.heap.size = A at hD ⊢
  have hA : ∀ q : Nat, s.heap.size ≤ q → A q := fun q h => by rw [← hAe]; exact Or.inr h
  have hS : va_S A s.heap s.heap [] := va_S.rf
  have hP : va_P D vwCl [(h0, .inr (5, [.ref h1, .ref h2, .ref h3, .int u.2.2.2.1, .ref h4, .ref h5, .int u.2.2.2.2.2.2.1, .int u.2.2.2.2.2.2.2])), (h1, .inl (cJ, 8, .inr (.inl u.1))), (h2, .inl (cI, 8, .inl u.2.1)), (h3, .inl (cJ, 8, .inr (.inl u.2.2.1))), (h4, .inl (cC, 40, .inl u.2.2.2.2.1)), (h5, .inl (cI, 40, .inl u.2.2.2.2.2.1))] s.heap := hP
  have hD : va_D A [(h0, .inr (5, [.ref h1, .ref h2, .ref h3, .int u.2.2.2.1, .ref h4, .ref h5, .int u.2.2.2.2.2.2.1, .int u.2.2.2.2.2.2.2])), (h1, .inl (cJ, 8, .inr (.inl u.1))), (h2, .inl (cI, 8, .inl u.2.1)), (h3, .inl (cJ, 8, .inr (.inl u.2.2.1))), (h4, .inl (cC, 40, .inl u.2.2.2.2.1)), (h5, .inl (cI, 40, .inl u.2.2.2.2.2.1))] := hD
  have q1 := hts (.fieldLink RX6 9 "DoublelineModel" "codes" "[J") (by decide +kernel)
  have q2 : ∀ w ∈ u_ws RX6 TX6 8, w ∈ wsX6_isKept := by decide +kernel
  have hl := lv_entry ([.ref h0, .int a0, .int a1]) (n := 3) (Nat.le_of_ble_eq_true rfl)
  rw [lg_entry_eq]
  generalize (lg_sl ([.ref h0, .int a0, .int a1]) ++ List.replicate (3 - (lg_sl ([.ref h0, .int a0, .int a1])).length) Slot.unset).toArray = ls at hl ⊢
  have hl : lv_has ls 3 [(0, .ref h0), (1, .int a0), (2, .int a1)] := hl
  unfold f_X6_isKept at hf
  refine lv_aload_n hx hb dX6_isKept_0 rfl (lv_at hl 0 rfl) ?_
  refine lv_iload_n hx hb dX6_isKept_1 rfl (lv_at hl 1 rfl) ?_
  obtain ⟨z1, ez1, hf⟩ := ob_e hf
  refine my_callMi (As := [.int a0]) (n := 1) (rest := []) (wr := []) ⟨hx, hb, hml, hown, hts⟩ hK hP hD hS hA [0, 1, 2, 3, 4, 5] [] rfl rfl (by decide) (by decide) (by decide) (m_X6_lacks l D cC cI cJ h0 h1 h2 h3 h4 h5 u s.heap.size a0 _ ez1) gX6_isKept_X6_lacks rfl ⟨rfl, rfl⟩ (ci := 5) rfl rfl (by decide +kernel) ⟨Nat.le_of_ble_eq_true rfl, Nat.le_of_ble_eq_true rfl⟩ ⟨Nat.le_of_ble_eq_true rfl, Nat.le_of_ble_eq_true rfl⟩ hl.1 rfl rfl (Nat.le_of_ble_eq_true rfl) dX6_isKept_2 (fun r9 u9 H locs hw hP hD hS => ?_)
  obtain ⟨rfl, rfl⟩ := hw
  have hP : va_P D vwCl [(h0, .inr (5, [.ref h1, .ref h2, .ref h3, .int z1.2.2.2.2.1, .ref h4, .ref h5, .int z1.2.2.2.2.2.2.2.1, .int z1.2.2.2.2.2.2.2.2])), (h1, .inl (cJ, 8, .inr (.inl z1.2.1))), (h2, .inl (cI, 8, .inl z1.2.2.1)), (h3, .inl (cJ, 8, .inr (.inl z1.2.2.2.1))), (h4, .inl (cC, 40, .inl z1.2.2.2.2.2.1)), (h5, .inl (cI, 40, .inl z1.2.2.2.2.2.2.1))] H := hP.sub [0, 1, 2, 3, 4, 5] rfl
  have hD : va_D A [(h0, .inr (5, [.ref h1, .ref h2, .ref h3, .int z1.2.2.2.2.1, .ref h4, .ref h5, .int z1.2.2.2.2.2.2.2.1, .int z1.2.2.2.2.2.2.2.2])), (h1, .inl (cJ, 8, .inr (.inl z1.2.1))), (h2, .inl (cI, 8, .inl z1.2.2.1)), (h3, .inl (cJ, 8, .inr (.inl z1.2.2.2.1))), (h4, .inl (cC, 40, .inl z1.2.2.2.2.2.1)), (h5, .inl (cI, 40, .inl z1.2.2.2.2.2.2.1))] := hD.sub [0, 1, 2, 3, 4, 5] (by decide) rfl
  refine my_bz_ne (x := z1.1) (tgt := 26) hx hb dX6_isKept_5 (by decide) (fun c2 => ?_) (fun c2 => ?_)
  · rw [if_neg c2] at hf
    refine lv_iconst (v := 0) hx hb dX6_isKept_26 (by decide) ?_
    have hP9 : va_P D vwCl (wM cC cI cJ h0 h1 h2 h3 h4 h5 z1.2) _ := hP
    have hD9 : va_D A (wM cC cI cJ h0 h1 h2 h3 h4 h5 z1.2) := hD
    have hf := Option.some.inj hf
    have hf1 := congrArg (fun z => b2i z.1) hf
    have hf2 := congrArg Prod.snd hf
    exact W.zret (v := b2i false) (ty := .boolean) hx hb hr (b2i_nar _) (fun t ht hW => ⟨⟨b2i false, z1.2, rfl, ⟨hf1, hf2⟩, by rw [ht]; exact hP9, va_K.moved hW.alike hK, hD9⟩, hS.F ht⟩) hS.2.2 dX6_isKept_27
  · rw [if_pos c2] at hf
    refine lv_aload_n hx hb dX6_isKept_8 rfl (lv_at hl 0 rfl) ?_
    refine lv_iload_n hx hb dX6_isKept_9 rfl (lv_at hl 2 rfl) ?_
    refine lv_sipush (v := (-4200)) hx hb dX6_isKept_10 (by decide) ?_
    refine lv_sipush (v := 4200) hx hb dX6_isKept_13 (by decide) ?_
    refine my_callPi (As := [.int a1, .int (-4200), .int 4200]) (n := 3) (rest := [.ref h0]) ⟨hx, hb, hml, hown, hts⟩ (m_X6_in l a1 (-4200) 4200 _ rfl) gX6_isKept_X6_in rfl ⟨rfl, rfl⟩ (by decide +kernel) ⟨Nat.le_of_ble_eq_true rfl, Nat.le_of_ble_eq_true rfl⟩ ⟨Nat.le_of_ble_eq_true rfl, Nat.le_of_ble_eq_true rfl⟩ hl.1 rfl rfl (Nat.le_of_ble_eq_true rfl) dX6_isKept_16 ?_
    refine lv_iconst (v := 2) hx hb dX6_isKept_19 (by decide) ?_
    refine my_callMi (As := [.int (b2i (f_X6_in a1 (-4200) 4200)), .int 2]) (n := 2) (rest := []) (wr := []) ⟨hx, hb, hml, hown, hts⟩ hK hP hD hS hA [0, 1, 2, 3, 4, 5] [] rfl rfl (by decide) (by decide) (by decide) (m_X6_no l D cC cI cJ h0 h1 h2 h3 h4 h5 z1.2 H.size (f_X6_in a1 (-4200) 4200) 2 _ (no_b z1.2 (f_X6_in a1 (-4200) 4200) 2)) gX6_isKept_X6_no rfl ⟨rfl, rfl⟩ (ci := 5) rfl rfl (by decide +kernel) ⟨Nat.le_of_ble_eq_true rfl, Nat.le_of_ble_eq_true rfl⟩ ⟨Nat.le_of_ble_eq_true rfl, Nat.le_of_ble_eq_true rfl⟩ hl.1 rfl rfl (Nat.le_of_ble_eq_true rfl) dX6_isKept_20 (fun r9 u9 H locs hw hP hD hS => ?_)
    obtain ⟨rfl, rfl⟩ := hw
    have hP : va_P D vwCl [(h0, .inr (5, [.ref h1, .ref h2, .ref h3, .int z1.2.2.2.2.1, .ref h4, .ref h5, .int z1.2.2.2.2.2.2.2.1, .int (if (f_X6_in a1 (-4200) 4200) = true then 0 else 2)])), (h1, .inl (cJ, 8, .inr (.inl z1.2.1))), (h2, .inl (cI, 8, .inl z1.2.2.1)), (h3, .inl (cJ, 8, .inr (.inl z1.2.2.2.1))), (h4, .inl (cC, 40, .inl z1.2.2.2.2.2.1)), (h5, .inl (cI, 40, .inl z1.2.2.2.2.2.2.1))] H := hP.sub [0, 1, 2, 3, 4, 5] rfl
    have hD : va_D A [(h0, .inr (5, [.ref h1, .ref h2, .ref h3, .int z1.2.2.2.2.1, .ref h4, .ref h5, .int z1.2.2.2.2.2.2.2.1, .int (if (f_X6_in a1 (-4200) 4200) = true then 0 else 2)])), (h1, .inl (cJ, 8, .inr (.inl z1.2.1))), (h2, .inl (cI, 8, .inl z1.2.2.1)), (h3, .inl (cJ, 8, .inr (.inl z1.2.2.2.1))), (h4, .inl (cC, 40, .inl z1.2.2.2.2.2.1)), (h5, .inl (cI, 40, .inl z1.2.2.2.2.2.2.1))] := hD.sub [0, 1, 2, 3, 4, 5] (by decide) rfl
    refine my_bz_eq (x := (!(f_X6_in a1 (-4200) 4200))) (tgt := 28) hx hb dX6_isKept_23 (by decide) (fun c3 => ?_) (fun c3 => ?_)
    · rw [if_pos c3] at hf
      refine lv_aload_n hx hb dX6_isKept_28 rfl (lv_at hl 0 rfl) ?_
      refine va_get (D := D) (ci := 5) (v := .ref h1) (C := RX6) (T := TX6) (N := 8) hx hb hts q2 hown hK hP 0 rfl rfl 0 (by decide) q1 (fun _ h9 => h9) rfl dX6_isKept_29 ?_
      refine lv_iload_n hx hb dX6_isKept_32 rfl (lv_at hl 1 rfl) ?_
      obtain ⟨g4, hf⟩ := og_e hf
      refine va_lald hx hb hK hP 1 2 rfl rfl g4 dX6_isKept_33 ?_
      refine lv_iload_n hx hb dX6_isKept_34 rfl (lv_at hl 2 rfl) ?_
      obtain ⟨r5, er5, hf⟩ := ob_e hf
      refine my_callPl (As := [.long (z1.2.1 a0.toNatClampNeg), .int a1]) (n := 2) (rest := []) ⟨hx, hb, hml, hown, hts⟩ (m_X6_scaled l (z1.2.1 a0.toNatClampNeg) a1 _ er5) gX6_isKept_X6_scaled rfl ⟨rfl, rfl⟩ (by decide +kernel) ⟨Nat.le_of_ble_eq_true rfl, Nat.le_of_ble_eq_true rfl⟩ ⟨Nat.le_of_ble_eq_true rfl, Nat.le_of_ble_eq_true rfl⟩ hl.1 rfl rfl (Nat.le_of_ble_eq_true rfl) dX6_isKept_35 ?_
      refine lv_iload_n hx hb dX6_isKept_38 rfl (lv_at hl 2 rfl) ?_
      refine lv_ineg hx hb dX6_isKept_39 ?_
      obtain ⟨r6, er6, hf⟩ := ob_e hf
      refine my_callPl (As := [.long r5, .int (-a1)]) (n := 2) (rest := []) ⟨hx, hb, hml, hown, hts⟩ (m_X6_scaled l r5 (-a1) _ er6) gX6_isKept_X6_scaled rfl ⟨rfl, rfl⟩ (by decide +kernel) ⟨Nat.le_of_ble_eq_true rfl, Nat.le_of_ble_eq_true rfl⟩ ⟨Nat.le_of_ble_eq_true rfl, Nat.le_of_ble_eq_true rfl⟩ hl.1 rfl rfl (Nat.le_of_ble_eq_true rfl) dX6_isKept_40 ?_
      refine lv_aload_n hx hb dX6_isKept_43 rfl (lv_at hl 0 rfl) ?_
      refine va_get (D := D) (ci := 5) (v := .ref h1) (C := RX6) (T := TX6) (N := 8) hx hb hts q2 hown hK hP 0 rfl rfl 0 (by decide) q1 (fun _ h9 => h9) rfl dX6_isKept_44 ?_
      refine lv_iload_n hx hb dX6_isKept_47 rfl (lv_at hl 1 rfl) ?_
      obtain ⟨g7, hf⟩ := og_e hf
      refine va_lald hx hb hK hP 1 2 rfl rfl g7 dX6_isKept_48 ?_
      refine my_lc_ne (tgt := 57) hx hb dX6_isKept_49 dX6_isKept_50 (by decide) (fun c8 => ?_) (fun c8 => ?_)
      · rw [if_neg c8] at hf
        refine lv_iconst (v := 0) hx hb dX6_isKept_57 (by decide) ?_
        have hP9 : va_P D vwCl (wM cC cI cJ h0 h1 h2 h3 h4 h5 (z1.2.1, (z1.2.2.1, (z1.2.2.2.1, (z1.2.2.2.2.1, (z1.2.2.2.2.2.1, (z1.2.2.2.2.2.2.1, (z1.2.2.2.2.2.2.2.1, (if (f_X6_in a1 (-4200) 4200) = true then 0 else 2))))))))) _ := hP
        have hD9 : va_D A (wM cC cI cJ h0 h1 h2 h3 h4 h5 (z1.2.1, (z1.2.2.1, (z1.2.2.2.1, (z1.2.2.2.2.1, (z1.2.2.2.2.2.1, (z1.2.2.2.2.2.2.1, (z1.2.2.2.2.2.2.2.1, (if (f_X6_in a1 (-4200) 4200) = true then 0 else 2))))))))) := hD
        have hf := Option.some.inj hf
        have hf1 := congrArg (fun z => b2i z.1) hf
        have hf2 := congrArg Prod.snd hf
        exact W.zret (v := b2i false) (ty := .boolean) hx hb hr (b2i_nar _) (fun t ht hW => ⟨⟨b2i false, (z1.2.1, (z1.2.2.1, (z1.2.2.2.1, (z1.2.2.2.2.1, (z1.2.2.2.2.2.1, (z1.2.2.2.2.2.2.1, (z1.2.2.2.2.2.2.2.1, (if (f_X6_in a1 (-4200) 4200) = true then 0 else 2)))))))), rfl, ⟨hf1, hf2⟩, by rw [ht]; exact hP9, va_K.moved hW.alike hK, hD9⟩, hS.F ht⟩) hS.2.2 dX6_isKept_58
      · rw [if_pos c8] at hf
        refine lv_iconst (v := 1) hx hb dX6_isKept_53 (by decide) ?_
        refine lv_goto (tgt := 58) hx hb dX6_isKept_54 (by decide) ?_
        have hP9 : va_P D vwCl (wM cC cI cJ h0 h1 h2 h3 h4 h5 (z1.2.1, (z1.2.2.1, (z1.2.2.2.1, (z1.2.2.2.2.1, (z1.2.2.2.2.2.1, (z1.2.2.2.2.2.2.1, (z1.2.2.2.2.2.2.2.1, (if (f_X6_in a1 (-4200) 4200) = true then 0 else 2))))))))) _ := hP
        have hD9 : va_D A (wM cC cI cJ h0 h1 h2 h3 h4 h5 (z1.2.1, (z1.2.2.1, (z1.2.2.2.1, (z1.2.2.2.2.1, (z1.2.2.2.2.2.1, (z1.2.2.2.2.2.2.1, (z1.2.2.2.2.2.2.2.1, (if (f_X6_in a1 (-4200) 4200) = true then 0 else 2))))))))) := hD
        have hf := Option.some.inj hf
        have hf1 := congrArg (fun z => b2i z.1) hf
        have hf2 := congrArg Prod.snd hf
        exact W.zret (v := b2i true) (ty := .boolean) hx hb hr (b2i_nar _) (fun t ht hW => ⟨⟨b2i true, (z1.2.1, (z1.2.2.1, (z1.2.2.2.1, (z1.2.2.2.2.1, (z1.2.2.2.2.2.1, (z1.2.2.2.2.2.2.1, (z1.2.2.2.2.2.2.2.1, (if (f_X6_in a1 (-4200) 4200) = true then 0 else 2)))))))), rfl, ⟨hf1, hf2⟩, by rw [ht]; exact hP9, va_K.moved hW.alike hK, hD9⟩, hS.F ht⟩) hS.2.2 dX6_isKept_58
    · rw [if_neg c3] at hf
      refine lv_iconst (v := 0) hx hb dX6_isKept_26 (by decide) ?_
      have hP9 : va_P D vwCl (wM cC cI cJ h0 h1 h2 h3 h4 h5 (z1.2.1, (z1.2.2.1, (z1.2.2.2.1, (z1.2.2.2.2.1, (z1.2.2.2.2.2.1, (z1.2.2.2.2.2.2.1, (z1.2.2.2.2.2.2.2.1, (if (f_X6_in a1 (-4200) 4200) = true then 0 else 2))))))))) _ := hP
      have hD9 : va_D A (wM cC cI cJ h0 h1 h2 h3 h4 h5 (z1.2.1, (z1.2.2.1, (z1.2.2.2.1, (z1.2.2.2.2.1, (z1.2.2.2.2.2.1, (z1.2.2.2.2.2.2.1, (z1.2.2.2.2.2.2.2.1, (if (f_X6_in a1 (-4200) 4200) = true then 0 else 2))))))))) := hD
      have hf := Option.some.inj hf
      have hf1 := congrArg (fun z => b2i z.1) hf
      have hf2 := congrArg Prod.snd hf
      exact W.zret (v := b2i false) (ty := .boolean) hx hb hr (b2i_nar _) (fun t ht hW => ⟨⟨b2i false, (z1.2.1, (z1.2.2.1, (z1.2.2.2.1, (z1.2.2.2.2.1, (z1.2.2.2.2.2.1, (z1.2.2.2.2.2.2.1, (z1.2.2.2.2.2.2.2.1, (if (f_X6_in a1 (-4200) 4200) = true then 0 else 2)))))))), rfl, ⟨hf1, hf2⟩, by rw [ht]; exact hP9, va_K.moved hW.alike hK, hD9⟩, hS.F ht⟩) hS.2.2 dX6_isKept_27

set_option maxHeartbeats 4000000 in
set_option maxRecDepth 100000 in
theorem m_X6_isOne (l : Launch) (D : va_G) (cC cI cJ : ClassId) (h0 h1 h2 h3 h4 h5 : Nat) (u : StM) (sz : Nat) (a0 : Int32) (a1 : Int32) (a2 : Int32) (res : Bool × StM) (hf : f_X6_isOne u a0 a1 a2 = some res) : Met l yX6_isOne wsX6_isOne rmX6_isOne (my_PcM D vwCl (KT cC cI cJ) sz (wM cC cI cJ h0 h1 h2 h3 h4 h5 u) [.ref h0, .int a0, .int a1, .int a2]) (va_Qi (fun r v => r = b2i res.1 ∧ v = res.2) (my_B D vwCl (KT cC cI cJ) (va_A (wM cC cI cJ h0 h1 h2 h3 h4 h5 u) sz) (fun v : StM => (wM cC cI cJ h0 h1 h2 h3 h4 h5 v))) (va_A (wM cC cI cJ h0 h1 h2 h3 h4 h5 u) sz)) 0 0 (va_A (wM cC cI cJ h0 h1 h2 h3 h4 h5 u) sz) := by
  refine Met.ofW (cc := cX6_isOne) (maxL := 4) (ret := (some .boolean)) (by decide) rfl ?_
  intro p e s m args below meth c s₁ B hml hv
  obtain ⟨rfl, hsz, hP, hK, hD0⟩ := hv
  have hx := B.exec
  have hb := B.bytes
  have hr := B.returns
  have hts : ∀ w ∈ wsX6_isOne, w.before ([.ref h0, .int a0, .int a1, .int a2] : List Value).toArray s = true := atoms_spec (ws := wsX6_isOne) B.pre
  have hown : s.vm.findClass RX6 = some m.cls := findClass_of_methodNamed B.named
  have hlk : meth.locks = false := B.notSynchronized
  subst hsz
  have hD := hD0.self (sz := s.heap.size)
  generalize hAe : va_A (wM cC cI cJ h0 h1 h2 h3 h4 h5 u) s.heap.size = A at hD ⊢
  have hA : ∀ q : Nat, s.heap.size ≤ q → A q := fun q h => by rw [← hAe]; exact Or.inr h
  have hS : va_S A s.heap s.heap [] := va_S.rf
  have hP : va_P D vwCl [(h0, .inr (5, [.ref h1, .ref h2, .ref h3, .int u.2.2.2.1, .ref h4, .ref h5, .int u.2.2.2.2.2.2.1, .int u.2.2.2.2.2.2.2])), (h1, .inl (cJ, 8, .inr (.inl u.1))), (h2, .inl (cI, 8, .inl u.2.1)), (h3, .inl (cJ, 8, .inr (.inl u.2.2.1))), (h4, .inl (cC, 40, .inl u.2.2.2.2.1)), (h5, .inl (cI, 40, .inl u.2.2.2.2.2.1))] s.heap := hP
  have hD : va_D A [(h0, .inr (5, [.ref h1, .ref h2, .ref h3, .int u.2.2.2.1, .ref h4, .ref h5, .int u.2.2.2.2.2.2.1, .int u.2.2.2.2.2.2.2])), (h1, .inl (cJ, 8, .inr (.inl u.1))), (h2, .inl (cI, 8, .inl u.2.1)), (h3, .inl (cJ, 8, .inr (.inl u.2.2.1))), (h4, .inl (cC, 40, .inl u.2.2.2.2.1)), (h5, .inl (cI, 40, .inl u.2.2.2.2.2.1))] := hD
  have q1 := hts (.fieldLink RX6 9 "DoublelineModel" "codes" "[J") (by decide +kernel)
  have q2 : ∀ w ∈ u_ws RX6 TX6 8, w ∈ wsX6_isOne := by decide +kernel
  have hl := lv_entry ([.ref h0, .int a0, .int a1, .int a2]) (n := 4) (Nat.le_of_ble_eq_true rfl)
  rw [lg_entry_eq]
  generalize (lg_sl ([.ref h0, .int a0, .int a1, .int a2]) ++ List.replicate (4 - (lg_sl ([.ref h0, .int a0, .int a1, .int a2])).length) Slot.unset).toArray = ls at hl ⊢
  have hl : lv_has ls 4 [(0, .ref h0), (1, .int a0), (2, .int a1), (3, .int a2)] := hl
  unfold f_X6_isOne at hf
  refine lv_aload_n hx hb dX6_isOne_0 rfl (lv_at hl 0 rfl) ?_
  refine lv_iload_n hx hb dX6_isOne_1 rfl (lv_at hl 1 rfl) ?_
  obtain ⟨z1, ez1, hf⟩ := ob_e hf
  refine my_callMi (As := [.int a0]) (n := 1) (rest := []) (wr := []) ⟨hx, hb, hml, hown, hts⟩ hK hP hD hS hA [0, 1, 2, 3, 4, 5] [] rfl rfl (by decide) (by decide) (by decide) (m_X6_lacks l D cC cI cJ h0 h1 h2 h3 h4 h5 u s.heap.size a0 _ ez1) gX6_isOne_X6_lacks rfl ⟨rfl, rfl⟩ (ci := 5) rfl rfl (by decide +kernel) ⟨Nat.le_of_ble_eq_true rfl, Nat.le_of_ble_eq_true rfl⟩ ⟨Nat.le_of_ble_eq_true rfl, Nat.le_of_ble_eq_true rfl⟩ hl.1 rfl rfl (Nat.le_of_ble_eq_true rfl) dX6_isOne_2 (fun r9 u9 H locs hw hP hD hS => ?_)
  obtain ⟨rfl, rfl⟩ := hw
  have hP : va_P D vwCl [(h0, .inr (5, [.ref h1, .ref h2, .ref h3, .int z1.2.2.2.2.1, .ref h4, .ref h5, .int z1.2.2.2.2.2.2.2.1, .int z1.2.2.2.2.2.2.2.2])), (h1, .inl (cJ, 8, .inr (.inl z1.2.1))), (h2, .inl (cI, 8, .inl z1.2.2.1)), (h3, .inl (cJ, 8, .inr (.inl z1.2.2.2.1))), (h4, .inl (cC, 40, .inl z1.2.2.2.2.2.1)), (h5, .inl (cI, 40, .inl z1.2.2.2.2.2.2.1))] H := hP.sub [0, 1, 2, 3, 4, 5] rfl
  have hD : va_D A [(h0, .inr (5, [.ref h1, .ref h2, .ref h3, .int z1.2.2.2.2.1, .ref h4, .ref h5, .int z1.2.2.2.2.2.2.2.1, .int z1.2.2.2.2.2.2.2.2])), (h1, .inl (cJ, 8, .inr (.inl z1.2.1))), (h2, .inl (cI, 8, .inl z1.2.2.1)), (h3, .inl (cJ, 8, .inr (.inl z1.2.2.2.1))), (h4, .inl (cC, 40, .inl z1.2.2.2.2.2.1)), (h5, .inl (cI, 40, .inl z1.2.2.2.2.2.2.1))] := hD.sub [0, 1, 2, 3, 4, 5] (by decide) rfl
  refine my_bz_ne (x := z1.1) (tgt := 47) hx hb dX6_isOne_5 (by decide) (fun c2 => ?_) (fun c2 => ?_)
  · rw [if_neg c2] at hf
    refine lv_iconst (v := 0) hx hb dX6_isOne_47 (by decide) ?_
    have hP9 : va_P D vwCl (wM cC cI cJ h0 h1 h2 h3 h4 h5 z1.2) _ := hP
    have hD9 : va_D A (wM cC cI cJ h0 h1 h2 h3 h4 h5 z1.2) := hD
    have hf := Option.some.inj hf
    have hf1 := congrArg (fun z => b2i z.1) hf
    have hf2 := congrArg Prod.snd hf
    exact W.zret (v := b2i false) (ty := .boolean) hx hb hr (b2i_nar _) (fun t ht hW => ⟨⟨b2i false, z1.2, rfl, ⟨hf1, hf2⟩, by rw [ht]; exact hP9, va_K.moved hW.alike hK, hD9⟩, hS.F ht⟩) hS.2.2 dX6_isOne_48
  · rw [if_pos c2] at hf
    refine lv_aload_n hx hb dX6_isOne_8 rfl (lv_at hl 0 rfl) ?_
    refine lv_iload_n hx hb dX6_isOne_9 rfl (lv_at hl 2 rfl) ?_
    refine lv_sipush (v := (-2100)) hx hb dX6_isOne_10 (by decide) ?_
    refine lv_sipush (v := 2100) hx hb dX6_isOne_13 (by decide) ?_
    refine my_callPi (As := [.int a1, .int (-2100), .int 2100]) (n := 3) (rest := [.ref h0]) ⟨hx, hb, hml, hown, hts⟩ (m_X6_in l a1 (-2100) 2100 _ rfl) gX6_isOne_X6_in rfl ⟨rfl, rfl⟩ (by decide +kernel) ⟨Nat.le_of_ble_eq_true rfl, Nat.le_of_ble_eq_true rfl⟩ ⟨Nat.le_of_ble_eq_true rfl, Nat.le_of_ble_eq_true rfl⟩ hl.1 rfl rfl (Nat.le_of_ble_eq_true rfl) dX6_isOne_16 ?_
    refine my_bz_eq (x := (f_X6_in a1 (-2100) 2100)) (tgt := 39) hx hb dX6_isOne_19 (by decide) (fun c3 => ?_) (fun c3 => ?_)
    · rw [if_pos c3] at hf
      refine lv_iconst (v := 0) hx hb dX6_isOne_39 (by decide) ?_
      refine lv_iconst (v := 2) hx hb dX6_isOne_40 (by decide) ?_
      refine my_callMi (As := [.int (b2i false), .int 2]) (n := 2) (rest := []) (wr := []) ⟨hx, hb, hml, hown, hts⟩ hK hP hD hS hA [0, 1, 2, 3, 4, 5] [] rfl rfl (by decide) (by decide) (by decide) (m_X6_no l D cC cI cJ h0 h1 h2 h3 h4 h5 z1.2 H.size false 2 _ (no_f z1.2 2)) gX6_isOne_X6_no rfl ⟨rfl, rfl⟩ (ci := 5) rfl rfl (by decide +kernel) ⟨Nat.le_of_ble_eq_true rfl, Nat.le_of_ble_eq_true rfl⟩ ⟨Nat.le_of_ble_eq_true rfl, Nat.le_of_ble_eq_true rfl⟩ hl.1 rfl rfl (Nat.le_of_ble_eq_true rfl) dX6_isOne_41 (fun r9 u9 H locs hw hP hD hS => ?_)
      obtain ⟨rfl, rfl⟩ := hw
      have hP : va_P D vwCl [(h0, .inr (5, [.ref h1, .ref h2, .ref h3, .int z1.2.2.2.2.1, .ref h4, .ref h5, .int z1.2.2.2.2.2.2.2.1, .int 2])), (h1, .inl (cJ, 8, .inr (.inl z1.2.1))), (h2, .inl (cI, 8, .inl z1.2.2.1)), (h3, .inl (cJ, 8, .inr (.inl z1.2.2.2.1))), (h4, .inl (cC, 40, .inl z1.2.2.2.2.2.1)), (h5, .inl (cI, 40, .inl z1.2.2.2.2.2.2.1))] H := hP.sub [0, 1, 2, 3, 4, 5] rfl
      have hD : va_D A [(h0, .inr (5, [.ref h1, .ref h2, .ref h3, .int z1.2.2.2.2.1, .ref h4, .ref h5, .int z1.2.2.2.2.2.2.2.1, .int 2])), (h1, .inl (cJ, 8, .inr (.inl z1.2.1))), (h2, .inl (cI, 8, .inl z1.2.2.1)), (h3, .inl (cJ, 8, .inr (.inl z1.2.2.2.1))), (h4, .inl (cC, 40, .inl z1.2.2.2.2.2.1)), (h5, .inl (cI, 40, .inl z1.2.2.2.2.2.2.1))] := hD.sub [0, 1, 2, 3, 4, 5] (by decide) rfl
      refine my_bz_eq (x := true) (tgt := 49) hx hb dX6_isOne_44 (by decide) (fun h9 => absurd h9 (by decide)) (fun _ => ?_)
      refine lv_iconst (v := 0) hx hb dX6_isOne_47 (by decide) ?_
      have hP9 : va_P D vwCl (wM cC cI cJ h0 h1 h2 h3 h4 h5 (z1.2.1, (z1.2.2.1, (z1.2.2.2.1, (z1.2.2.2.2.1, (z1.2.2.2.2.2.1, (z1.2.2.2.2.2.2.1, (z1.2.2.2.2.2.2.2.1, 2)))))))) _ := hP
      have hD9 : va_D A (wM cC cI cJ h0 h1 h2 h3 h4 h5 (z1.2.1, (z1.2.2.1, (z1.2.2.2.1, (z1.2.2.2.2.1, (z1.2.2.2.2.2.1, (z1.2.2.2.2.2.2.1, (z1.2.2.2.2.2.2.2.1, 2)))))))) := hD
      have hf := Option.some.inj hf
      have hf1 := congrArg (fun z => b2i z.1) hf
      have hf2 := congrArg Prod.snd hf
      exact W.zret (v := b2i false) (ty := .boolean) hx hb hr (b2i_nar _) (fun t ht hW => ⟨⟨b2i false, (z1.2.1, (z1.2.2.1, (z1.2.2.2.1, (z1.2.2.2.2.1, (z1.2.2.2.2.2.1, (z1.2.2.2.2.2.2.1, (z1.2.2.2.2.2.2.2.1, 2))))))), rfl, ⟨hf1, hf2⟩, by rw [ht]; exact hP9, va_K.moved hW.alike hK, hD9⟩, hS.F ht⟩) hS.2.2 dX6_isOne_48
    · rw [if_neg c3] at hf
      refine lv_iload_n hx hb dX6_isOne_22 rfl (lv_at hl 3 rfl) ?_
      refine lv_sipush (v := (-2100)) hx hb dX6_isOne_23 (by decide) ?_
      refine lv_sipush (v := 2100) hx hb dX6_isOne_26 (by decide) ?_
      refine my_callPi (As := [.int a2, .int (-2100), .int 2100]) (n := 3) (rest := [.ref h0]) ⟨hx, hb, hml, hown, hts⟩ (m_X6_in l a2 (-2100) 2100 _ rfl) gX6_isOne_X6_in rfl ⟨rfl, rfl⟩ (by decide +kernel) ⟨Nat.le_of_ble_eq_true rfl, Nat.le_of_ble_eq_true rfl⟩ ⟨Nat.le_of_ble_eq_true rfl, Nat.le_of_ble_eq_true rfl⟩ hl.1 rfl rfl (Nat.le_of_ble_eq_true rfl) dX6_isOne_29 ?_
      refine my_bz_eq (x := (f_X6_in a2 (-2100) 2100)) (tgt := 39) hx hb dX6_isOne_32 (by decide) (fun c4 => ?_) (fun c4 => ?_)
      · rw [if_pos c4] at hf
        refine lv_iconst (v := 0) hx hb dX6_isOne_39 (by decide) ?_
        refine lv_iconst (v := 2) hx hb dX6_isOne_40 (by decide) ?_
        refine my_callMi (As := [.int (b2i false), .int 2]) (n := 2) (rest := []) (wr := []) ⟨hx, hb, hml, hown, hts⟩ hK hP hD hS hA [0, 1, 2, 3, 4, 5] [] rfl rfl (by decide) (by decide) (by decide) (m_X6_no l D cC cI cJ h0 h1 h2 h3 h4 h5 z1.2 H.size false 2 _ (no_f z1.2 2)) gX6_isOne_X6_no rfl ⟨rfl, rfl⟩ (ci := 5) rfl rfl (by decide +kernel) ⟨Nat.le_of_ble_eq_true rfl, Nat.le_of_ble_eq_true rfl⟩ ⟨Nat.le_of_ble_eq_true rfl, Nat.le_of_ble_eq_true rfl⟩ hl.1 rfl rfl (Nat.le_of_ble_eq_true rfl) dX6_isOne_41 (fun r9 u9 H locs hw hP hD hS => ?_)
        obtain ⟨rfl, rfl⟩ := hw
        have hP : va_P D vwCl [(h0, .inr (5, [.ref h1, .ref h2, .ref h3, .int z1.2.2.2.2.1, .ref h4, .ref h5, .int z1.2.2.2.2.2.2.2.1, .int 2])), (h1, .inl (cJ, 8, .inr (.inl z1.2.1))), (h2, .inl (cI, 8, .inl z1.2.2.1)), (h3, .inl (cJ, 8, .inr (.inl z1.2.2.2.1))), (h4, .inl (cC, 40, .inl z1.2.2.2.2.2.1)), (h5, .inl (cI, 40, .inl z1.2.2.2.2.2.2.1))] H := hP.sub [0, 1, 2, 3, 4, 5] rfl
        have hD : va_D A [(h0, .inr (5, [.ref h1, .ref h2, .ref h3, .int z1.2.2.2.2.1, .ref h4, .ref h5, .int z1.2.2.2.2.2.2.2.1, .int 2])), (h1, .inl (cJ, 8, .inr (.inl z1.2.1))), (h2, .inl (cI, 8, .inl z1.2.2.1)), (h3, .inl (cJ, 8, .inr (.inl z1.2.2.2.1))), (h4, .inl (cC, 40, .inl z1.2.2.2.2.2.1)), (h5, .inl (cI, 40, .inl z1.2.2.2.2.2.2.1))] := hD.sub [0, 1, 2, 3, 4, 5] (by decide) rfl
        refine my_bz_eq (x := true) (tgt := 49) hx hb dX6_isOne_44 (by decide) (fun h9 => absurd h9 (by decide)) (fun _ => ?_)
        refine lv_iconst (v := 0) hx hb dX6_isOne_47 (by decide) ?_
        have hP9 : va_P D vwCl (wM cC cI cJ h0 h1 h2 h3 h4 h5 (z1.2.1, (z1.2.2.1, (z1.2.2.2.1, (z1.2.2.2.2.1, (z1.2.2.2.2.2.1, (z1.2.2.2.2.2.2.1, (z1.2.2.2.2.2.2.2.1, 2)))))))) _ := hP
        have hD9 : va_D A (wM cC cI cJ h0 h1 h2 h3 h4 h5 (z1.2.1, (z1.2.2.1, (z1.2.2.2.1, (z1.2.2.2.2.1, (z1.2.2.2.2.2.1, (z1.2.2.2.2.2.2.1, (z1.2.2.2.2.2.2.2.1, 2)))))))) := hD
        have hf := Option.some.inj hf
        have hf1 := congrArg (fun z => b2i z.1) hf
        have hf2 := congrArg Prod.snd hf
        exact W.zret (v := b2i false) (ty := .boolean) hx hb hr (b2i_nar _) (fun t ht hW => ⟨⟨b2i false, (z1.2.1, (z1.2.2.1, (z1.2.2.2.1, (z1.2.2.2.2.1, (z1.2.2.2.2.2.1, (z1.2.2.2.2.2.2.1, (z1.2.2.2.2.2.2.2.1, 2))))))), rfl, ⟨hf1, hf2⟩, by rw [ht]; exact hP9, va_K.moved hW.alike hK, hD9⟩, hS.F ht⟩) hS.2.2 dX6_isOne_48
      · rw [if_neg c4] at hf
        refine lv_iconst (v := 1) hx hb dX6_isOne_35 (by decide) ?_
        refine lv_goto (tgt := 40) hx hb dX6_isOne_36 (by decide) ?_
        refine lv_iconst (v := 2) hx hb dX6_isOne_40 (by decide) ?_
        refine my_callMi (As := [.int (b2i true), .int 2]) (n := 2) (rest := []) (wr := []) ⟨hx, hb, hml, hown, hts⟩ hK hP hD hS hA [0, 1, 2, 3, 4, 5] [] rfl rfl (by decide) (by decide) (by decide) (m_X6_no l D cC cI cJ h0 h1 h2 h3 h4 h5 z1.2 H.size true 2 _ (no_t z1.2 2)) gX6_isOne_X6_no rfl ⟨rfl, rfl⟩ (ci := 5) rfl rfl (by decide +kernel) ⟨Nat.le_of_ble_eq_true rfl, Nat.le_of_ble_eq_true rfl⟩ ⟨Nat.le_of_ble_eq_true rfl, Nat.le_of_ble_eq_true rfl⟩ hl.1 rfl rfl (Nat.le_of_ble_eq_true rfl) dX6_isOne_41 (fun r9 u9 H locs hw hP hD hS => ?_)
        obtain ⟨rfl, rfl⟩ := hw
        have hP : va_P D vwCl [(h0, .inr (5, [.ref h1, .ref h2, .ref h3, .int z1.2.2.2.2.1, .ref h4, .ref h5, .int z1.2.2.2.2.2.2.2.1, .int 0])), (h1, .inl (cJ, 8, .inr (.inl z1.2.1))), (h2, .inl (cI, 8, .inl z1.2.2.1)), (h3, .inl (cJ, 8, .inr (.inl z1.2.2.2.1))), (h4, .inl (cC, 40, .inl z1.2.2.2.2.2.1)), (h5, .inl (cI, 40, .inl z1.2.2.2.2.2.2.1))] H := hP.sub [0, 1, 2, 3, 4, 5] rfl
        have hD : va_D A [(h0, .inr (5, [.ref h1, .ref h2, .ref h3, .int z1.2.2.2.2.1, .ref h4, .ref h5, .int z1.2.2.2.2.2.2.2.1, .int 0])), (h1, .inl (cJ, 8, .inr (.inl z1.2.1))), (h2, .inl (cI, 8, .inl z1.2.2.1)), (h3, .inl (cJ, 8, .inr (.inl z1.2.2.2.1))), (h4, .inl (cC, 40, .inl z1.2.2.2.2.2.1)), (h5, .inl (cI, 40, .inl z1.2.2.2.2.2.2.1))] := hD.sub [0, 1, 2, 3, 4, 5] (by decide) rfl
        refine my_bz_eq (x := false) (tgt := 49) hx hb dX6_isOne_44 (by decide) (fun _ => ?_) (fun h9 => absurd h9 (by decide))
        refine lv_aload_n hx hb dX6_isOne_49 rfl (lv_at hl 0 rfl) ?_
        refine va_get (D := D) (ci := 5) (v := .ref h1) (C := RX6) (T := TX6) (N := 8) hx hb hts q2 hown hK hP 0 rfl rfl 0 (by decide) q1 (fun _ h9 => h9) rfl dX6_isOne_50 ?_
        refine lv_iload_n hx hb dX6_isOne_53 rfl (lv_at hl 1 rfl) ?_
        obtain ⟨g5, hf⟩ := og_e hf
        refine va_lald hx hb hK hP 1 2 rfl rfl g5 dX6_isOne_54 ?_
        refine lv_iload_n hx hb dX6_isOne_55 rfl (lv_at hl 2 rfl) ?_
        obtain ⟨r6, er6, hf⟩ := ob_e hf
        refine my_callPl (As := [.long (z1.2.1 a0.toNatClampNeg), .int a1]) (n := 2) (rest := []) ⟨hx, hb, hml, hown, hts⟩ (m_X6_scaled l (z1.2.1 a0.toNatClampNeg) a1 _ er6) gX6_isOne_X6_scaled rfl ⟨rfl, rfl⟩ (by decide +kernel) ⟨Nat.le_of_ble_eq_true rfl, Nat.le_of_ble_eq_true rfl⟩ ⟨Nat.le_of_ble_eq_true rfl, Nat.le_of_ble_eq_true rfl⟩ hl.1 rfl rfl (Nat.le_of_ble_eq_true rfl) dX6_isOne_56 ?_
        refine lv_iload_n hx hb dX6_isOne_59 rfl (lv_at hl 3 rfl) ?_
        obtain ⟨r7, er7, hf⟩ := ob_e hf
        refine my_callPl (As := [.long r6, .int a2]) (n := 2) (rest := []) ⟨hx, hb, hml, hown, hts⟩ (m_X6_scaled l r6 a2 _ er7) gX6_isOne_X6_scaled rfl ⟨rfl, rfl⟩ (by decide +kernel) ⟨Nat.le_of_ble_eq_true rfl, Nat.le_of_ble_eq_true rfl⟩ ⟨Nat.le_of_ble_eq_true rfl, Nat.le_of_ble_eq_true rfl⟩ hl.1 rfl rfl (Nat.le_of_ble_eq_true rfl) dX6_isOne_60 ?_
        refine lv_aload_n hx hb dX6_isOne_63 rfl (lv_at hl 0 rfl) ?_
        refine va_get (D := D) (ci := 5) (v := .ref h1) (C := RX6) (T := TX6) (N := 8) hx hb hts q2 hown hK hP 0 rfl rfl 0 (by decide) q1 (fun _ h9 => h9) rfl dX6_isOne_64 ?_
        refine lv_iload_n hx hb dX6_isOne_67 rfl (lv_at hl 1 rfl) ?_
        obtain ⟨g8, hf⟩ := og_e hf
        refine va_lald hx hb hK hP 1 2 rfl rfl g8 dX6_isOne_68 ?_
        refine lv_iload_n hx hb dX6_isOne_69 rfl (lv_at hl 2 rfl) ?_
        refine lv_iload_n hx hb dX6_isOne_70 rfl (lv_at hl 3 rfl) ?_
        refine lv_iadd hx hb dX6_isOne_71 ?_
        obtain ⟨r9, er9, hf⟩ := ob_e hf
        refine my_callPl (As := [.long (z1.2.1 a0.toNatClampNeg), .int (a1 + a2)]) (n := 2) (rest := [.long r7]) ⟨hx, hb, hml, hown, hts⟩ (m_X6_scaled l (z1.2.1 a0.toNatClampNeg) (a1 + a2) _ er9) gX6_isOne_X6_scaled rfl ⟨rfl, rfl⟩ (by decide +kernel) ⟨Nat.le_of_ble_eq_true rfl, Nat.le_of_ble_eq_true rfl⟩ ⟨Nat.le_of_ble_eq_true rfl, Nat.le_of_ble_eq_true rfl⟩ hl.1 rfl rfl (Nat.le_of_ble_eq_true rfl) dX6_isOne_72 ?_
        refine my_lc_ne (tgt := 83) hx hb dX6_isOne_75 dX6_isOne_76 (by decide) (fun c10 => ?_) (fun c10 => ?_)
        · rw [if_neg c10] at hf
          refine lv_iconst (v := 0) hx hb dX6_isOne_83 (by decide) ?_
          have hP9 : va_P D vwCl (wM cC cI cJ h0 h1 h2 h3 h4 h5 (z1.2.1, (z1.2.2.1, (z1.2.2.2.1, (z1.2.2.2.2.1, (z1.2.2.2.2.2.1, (z1.2.2.2.2.2.2.1, (z1.2.2.2.2.2.2.2.1, 0)))))))) _ := hP
          have hD9 : va_D A (wM cC cI cJ h0 h1 h2 h3 h4 h5 (z1.2.1, (z1.2.2.1, (z1.2.2.2.1, (z1.2.2.2.2.1, (z1.2.2.2.2.2.1, (z1.2.2.2.2.2.2.1, (z1.2.2.2.2.2.2.2.1, 0)))))))) := hD
          have hf := Option.some.inj hf
          have hf1 := congrArg (fun z => b2i z.1) hf
          have hf2 := congrArg Prod.snd hf
          exact W.zret (v := b2i false) (ty := .boolean) hx hb hr (b2i_nar _) (fun t ht hW => ⟨⟨b2i false, (z1.2.1, (z1.2.2.1, (z1.2.2.2.1, (z1.2.2.2.2.1, (z1.2.2.2.2.2.1, (z1.2.2.2.2.2.2.1, (z1.2.2.2.2.2.2.2.1, 0))))))), rfl, ⟨hf1, hf2⟩, by rw [ht]; exact hP9, va_K.moved hW.alike hK, hD9⟩, hS.F ht⟩) hS.2.2 dX6_isOne_84
        · rw [if_pos c10] at hf
          refine lv_iconst (v := 1) hx hb dX6_isOne_79 (by decide) ?_
          refine lv_goto (tgt := 84) hx hb dX6_isOne_80 (by decide) ?_
          have hP9 : va_P D vwCl (wM cC cI cJ h0 h1 h2 h3 h4 h5 (z1.2.1, (z1.2.2.1, (z1.2.2.2.1, (z1.2.2.2.2.1, (z1.2.2.2.2.2.1, (z1.2.2.2.2.2.2.1, (z1.2.2.2.2.2.2.2.1, 0)))))))) _ := hP
          have hD9 : va_D A (wM cC cI cJ h0 h1 h2 h3 h4 h5 (z1.2.1, (z1.2.2.1, (z1.2.2.2.1, (z1.2.2.2.2.1, (z1.2.2.2.2.2.1, (z1.2.2.2.2.2.2.1, (z1.2.2.2.2.2.2.2.1, 0)))))))) := hD
          have hf := Option.some.inj hf
          have hf1 := congrArg (fun z => b2i z.1) hf
          have hf2 := congrArg Prod.snd hf
          exact W.zret (v := b2i true) (ty := .boolean) hx hb hr (b2i_nar _) (fun t ht hW => ⟨⟨b2i true, (z1.2.1, (z1.2.2.1, (z1.2.2.2.1, (z1.2.2.2.2.1, (z1.2.2.2.2.2.1, (z1.2.2.2.2.2.2.1, (z1.2.2.2.2.2.2.2.1, 0))))))), rfl, ⟨hf1, hf2⟩, by rw [ht]; exact hP9, va_K.moved hW.alike hK, hD9⟩, hS.F ht⟩) hS.2.2 dX6_isOne_84

set_option maxHeartbeats 4000000 in
set_option maxRecDepth 100000 in
theorem m_X6_exponent (l : Launch) (D : va_G) (cC cI cJ : ClassId) (h0 h1 h2 h3 h4 h5 : Nat) (u : StM) (sz : Nat) (a0 : Int32) (res : Int32 × StM) (hf : f_X6_exponent u a0 = some res) : Met l yX6_exponent wsX6_exponent rmX6_exponent (my_PcM D vwCl (KT cC cI cJ) sz (wM cC cI cJ h0 h1 h2 h3 h4 h5 u) [.ref h0, .int a0]) (va_Qi (fun r v => r = res.1 ∧ v = res.2) (my_B D vwCl (KT cC cI cJ) (va_A (wM cC cI cJ h0 h1 h2 h3 h4 h5 u) sz) (fun v : StM => (wM cC cI cJ h0 h1 h2 h3 h4 h5 v))) (va_A (wM cC cI cJ h0 h1 h2 h3 h4 h5 u) sz)) 0 0 (va_A (wM cC cI cJ h0 h1 h2 h3 h4 h5 u) sz) := by
  refine Met.ofW (cc := cX6_exponent) (maxL := 2) (ret := (some .int)) (by decide) rfl ?_
  intro p e s m args below meth c s₁ B hml hv
  obtain ⟨rfl, hsz, hP, hK, hD0⟩ := hv
  have hx := B.exec
  have hb := B.bytes
  have hr := B.returns
  have hts : ∀ w ∈ wsX6_exponent, w.before ([.ref h0, .int a0] : List Value).toArray s = true := atoms_spec (ws := wsX6_exponent) B.pre
  have hown : s.vm.findClass RX6 = some m.cls := findClass_of_methodNamed B.named
  have hlk : meth.locks = false := B.notSynchronized
  subst hsz
  have hD := hD0.self (sz := s.heap.size)
  generalize hAe : va_A (wM cC cI cJ h0 h1 h2 h3 h4 h5 u) s.heap.size = A at hD ⊢
  have hA : ∀ q : Nat, s.heap.size ≤ q → A q := fun q h => by rw [← hAe]; exact Or.inr h
  have hS : va_S A s.heap s.heap [] := va_S.rf
  have hP : va_P D vwCl [(h0, .inr (5, [.ref h1, .ref h2, .ref h3, .int u.2.2.2.1, .ref h4, .ref h5, .int u.2.2.2.2.2.2.1, .int u.2.2.2.2.2.2.2])), (h1, .inl (cJ, 8, .inr (.inl u.1))), (h2, .inl (cI, 8, .inl u.2.1)), (h3, .inl (cJ, 8, .inr (.inl u.2.2.1))), (h4, .inl (cC, 40, .inl u.2.2.2.2.1)), (h5, .inl (cI, 40, .inl u.2.2.2.2.2.1))] s.heap := hP
  have hD : va_D A [(h0, .inr (5, [.ref h1, .ref h2, .ref h3, .int u.2.2.2.1, .ref h4, .ref h5, .int u.2.2.2.2.2.2.1, .int u.2.2.2.2.2.2.2])), (h1, .inl (cJ, 8, .inr (.inl u.1))), (h2, .inl (cI, 8, .inl u.2.1)), (h3, .inl (cJ, 8, .inr (.inl u.2.2.1))), (h4, .inl (cC, 40, .inl u.2.2.2.2.1)), (h5, .inl (cI, 40, .inl u.2.2.2.2.2.1))] := hD
  have q1 := hts (.fieldLink RX6 9 "DoublelineModel" "codes" "[J") (by decide +kernel)
  have q2 : ∀ w ∈ u_ws RX6 TX6 8, w ∈ wsX6_exponent := by decide +kernel
  have hl := lv_entry ([.ref h0, .int a0]) (n := 2) (Nat.le_of_ble_eq_true rfl)
  rw [lg_entry_eq]
  generalize (lg_sl ([.ref h0, .int a0]) ++ List.replicate (2 - (lg_sl ([.ref h0, .int a0])).length) Slot.unset).toArray = ls at hl ⊢
  have hl : lv_has ls 2 [(0, .ref h0), (1, .int a0)] := hl
  unfold f_X6_exponent at hf
  refine lv_aload_n hx hb dX6_exponent_0 rfl (lv_at hl 0 rfl) ?_
  refine lv_iload_n hx hb dX6_exponent_1 rfl (lv_at hl 1 rfl) ?_
  obtain ⟨z1, ez1, hf⟩ := ob_e hf
  refine my_callMi (As := [.int a0]) (n := 1) (rest := []) (wr := []) ⟨hx, hb, hml, hown, hts⟩ hK hP hD hS hA [0, 1, 2, 3, 4, 5] [] rfl rfl (by decide) (by decide) (by decide) (m_X6_lacks l D cC cI cJ h0 h1 h2 h3 h4 h5 u s.heap.size a0 _ ez1) gX6_exponent_X6_lacks rfl ⟨rfl, rfl⟩ (ci := 5) rfl rfl (by decide +kernel) ⟨Nat.le_of_ble_eq_true rfl, Nat.le_of_ble_eq_true rfl⟩ ⟨Nat.le_of_ble_eq_true rfl, Nat.le_of_ble_eq_true rfl⟩ hl.1 rfl rfl (Nat.le_of_ble_eq_true rfl) dX6_exponent_2 (fun r9 u9 H locs hw hP hD hS => ?_)
  obtain ⟨rfl, rfl⟩ := hw
  have hP : va_P D vwCl [(h0, .inr (5, [.ref h1, .ref h2, .ref h3, .int z1.2.2.2.2.1, .ref h4, .ref h5, .int z1.2.2.2.2.2.2.2.1, .int z1.2.2.2.2.2.2.2.2])), (h1, .inl (cJ, 8, .inr (.inl z1.2.1))), (h2, .inl (cI, 8, .inl z1.2.2.1)), (h3, .inl (cJ, 8, .inr (.inl z1.2.2.2.1))), (h4, .inl (cC, 40, .inl z1.2.2.2.2.2.1)), (h5, .inl (cI, 40, .inl z1.2.2.2.2.2.2.1))] H := hP.sub [0, 1, 2, 3, 4, 5] rfl
  have hD : va_D A [(h0, .inr (5, [.ref h1, .ref h2, .ref h3, .int z1.2.2.2.2.1, .ref h4, .ref h5, .int z1.2.2.2.2.2.2.2.1, .int z1.2.2.2.2.2.2.2.2])), (h1, .inl (cJ, 8, .inr (.inl z1.2.1))), (h2, .inl (cI, 8, .inl z1.2.2.1)), (h3, .inl (cJ, 8, .inr (.inl z1.2.2.2.1))), (h4, .inl (cC, 40, .inl z1.2.2.2.2.2.1)), (h5, .inl (cI, 40, .inl z1.2.2.2.2.2.2.1))] := hD.sub [0, 1, 2, 3, 4, 5] (by decide) rfl
  refine my_bz_eq (x := z1.1) (tgt := 10) hx hb dX6_exponent_5 (by decide) (fun c2 => ?_) (fun c2 => ?_)
  · rw [if_pos c2] at hf
    refine lv_aload_n hx hb dX6_exponent_10 rfl (lv_at hl 0 rfl) ?_
    refine va_get (D := D) (ci := 5) (v := .ref h1) (C := RX6) (T := TX6) (N := 8) hx hb hts q2 hown hK hP 0 rfl rfl 0 (by decide) q1 (fun _ h9 => h9) rfl dX6_exponent_11 ?_
    refine lv_iload_n hx hb dX6_exponent_14 rfl (lv_at hl 1 rfl) ?_
    obtain ⟨g3, hf⟩ := og_e hf
    refine va_lald hx hb hK hP 1 2 rfl rfl g3 dX6_exponent_15 ?_
    refine my_callPi (As := [.long (z1.2.1 a0.toNatClampNeg)]) (n := 1) (rest := []) ⟨hx, hb, hml, hown, hts⟩ (m_X6_exponentOf l (z1.2.1 a0.toNatClampNeg) _ rfl) gX6_exponent_X6_exponentOf rfl ⟨rfl, rfl⟩ (by decide +kernel) ⟨Nat.le_of_ble_eq_true rfl, Nat.le_of_ble_eq_true rfl⟩ ⟨Nat.le_of_ble_eq_true rfl, Nat.le_of_ble_eq_true rfl⟩ hl.1 rfl rfl (Nat.le_of_ble_eq_true rfl) dX6_exponent_16 ?_
    have hP9 : va_P D vwCl (wM cC cI cJ h0 h1 h2 h3 h4 h5 z1.2) _ := hP
    have hD9 : va_D A (wM cC cI cJ h0 h1 h2 h3 h4 h5 z1.2) := hD
    have hf := Option.some.inj hf
    have hf1 := congrArg Prod.fst hf
    have hf2 := congrArg Prod.snd hf
    exact W.iret (v := (f_X6_exponentOf (z1.2.1 a0.toNatClampNeg))) hx hb hr (fun t ht hW => ⟨⟨(f_X6_exponentOf (z1.2.1 a0.toNatClampNeg)), z1.2, rfl, ⟨hf1, hf2⟩, by rw [ht]; exact hP9, va_K.moved hW.alike hK, hD9⟩, hS.F ht⟩) hS.2.2 dX6_exponent_19
  · rw [if_neg c2] at hf
    refine lv_iconst (v := 0) hx hb dX6_exponent_8 (by decide) ?_
    have hP9 : va_P D vwCl (wM cC cI cJ h0 h1 h2 h3 h4 h5 z1.2) _ := hP
    have hD9 : va_D A (wM cC cI cJ h0 h1 h2 h3 h4 h5 z1.2) := hD
    have hf := Option.some.inj hf
    have hf1 := congrArg Prod.fst hf
    have hf2 := congrArg Prod.snd hf
    exact W.iret (v := 0) hx hb hr (fun t ht hW => ⟨⟨0, z1.2, rfl, ⟨hf1, hf2⟩, by rw [ht]; exact hP9, va_K.moved hW.alike hK, hD9⟩, hS.F ht⟩) hS.2.2 dX6_exponent_9

set_option maxHeartbeats 4000000 in
set_option maxRecDepth 100000 in
theorem m_X6_unit (l : Launch) (D : va_G) (cC cI cJ : ClassId) (h0 h1 h2 h3 h4 h5 : Nat) (u : StM) (sz : Nat) (a0 : Int32) (a1 : Int32) (res : Int64 × StM) (hf : f_X6_unit u a0 a1 = some res) : Met l yX6_unit wsX6_unit rmX6_unit (my_PcM D vwCl (KT cC cI cJ) sz (wM cC cI cJ h0 h1 h2 h3 h4 h5 u) [.ref h0, .int a0, .int a1]) (va_Ql (fun r v => r = res.1 ∧ v = res.2) (my_B D vwCl (KT cC cI cJ) (va_A (wM cC cI cJ h0 h1 h2 h3 h4 h5 u) sz) (fun v : StM => (wM cC cI cJ h0 h1 h2 h3 h4 h5 v))) (va_A (wM cC cI cJ h0 h1 h2 h3 h4 h5 u) sz)) 0 0 (va_A (wM cC cI cJ h0 h1 h2 h3 h4 h5 u) sz) := by
  refine Met.ofW (cc := cX6_unit) (maxL := 3) (ret := (some .long)) (by decide) rfl ?_
  intro p e s m args below meth c s₁ B hml hv
  obtain ⟨rfl, hsz, hP, hK, hD0⟩ := hv
  have hx := B.exec
  have hb := B.bytes
  have hr := B.returns
  have hts : ∀ w ∈ wsX6_unit, w.before ([.ref h0, .int a0, .int a1] : List Value).toArray s = true := atoms_spec (ws := wsX6_unit) B.pre
  have hown : s.vm.findClass RX6 = some m.cls := findClass_of_methodNamed B.named
  have hlk : meth.locks = false := B.notSynchronized
  subst hsz
  have hD := hD0.self (sz := s.heap.size)
  generalize hAe : va_A (wM cC cI cJ h0 h1 h2 h3 h4 h5 u) s.heap.size = A at hD ⊢
  have hA : ∀ q : Nat, s.heap.size ≤ q → A q := fun q h => by rw [← hAe]; exact Or.inr h
  have hS : va_S A s.heap s.heap [] := va_S.rf
  have hP : va_P D vwCl [(h0, .inr (5, [.ref h1, .ref h2, .ref h3, .int u.2.2.2.1, .ref h4, .ref h5, .int u.2.2.2.2.2.2.1, .int u.2.2.2.2.2.2.2])), (h1, .inl (cJ, 8, .inr (.inl u.1))), (h2, .inl (cI, 8, .inl u.2.1)), (h3, .inl (cJ, 8, .inr (.inl u.2.2.1))), (h4, .inl (cC, 40, .inl u.2.2.2.2.1)), (h5, .inl (cI, 40, .inl u.2.2.2.2.2.1))] s.heap := hP
  have hD : va_D A [(h0, .inr (5, [.ref h1, .ref h2, .ref h3, .int u.2.2.2.1, .ref h4, .ref h5, .int u.2.2.2.2.2.2.1, .int u.2.2.2.2.2.2.2])), (h1, .inl (cJ, 8, .inr (.inl u.1))), (h2, .inl (cI, 8, .inl u.2.1)), (h3, .inl (cJ, 8, .inr (.inl u.2.2.1))), (h4, .inl (cC, 40, .inl u.2.2.2.2.1)), (h5, .inl (cI, 40, .inl u.2.2.2.2.2.1))] := hD
  have q1 := hts (.fieldLink RX6 9 "DoublelineModel" "codes" "[J") (by decide +kernel)
  have q2 : ∀ w ∈ u_ws RX6 TX6 8, w ∈ wsX6_unit := by decide +kernel
  have hl := lv_entry ([.ref h0, .int a0, .int a1]) (n := 3) (Nat.le_of_ble_eq_true rfl)
  rw [lg_entry_eq]
  generalize (lg_sl ([.ref h0, .int a0, .int a1]) ++ List.replicate (3 - (lg_sl ([.ref h0, .int a0, .int a1])).length) Slot.unset).toArray = ls at hl ⊢
  have hl : lv_has ls 3 [(0, .ref h0), (1, .int a0), (2, .int a1)] := hl
  unfold f_X6_unit at hf
  refine lv_aload_n hx hb dX6_unit_0 rfl (lv_at hl 0 rfl) ?_
  refine lv_iload_n hx hb dX6_unit_1 rfl (lv_at hl 1 rfl) ?_
  refine lv_iload_n hx hb dX6_unit_2 rfl (lv_at hl 2 rfl) ?_
  obtain ⟨z1, ez1, hf⟩ := ob_e hf
  refine my_callMi (As := [.int a0, .int a1]) (n := 2) (rest := []) (wr := []) ⟨hx, hb, hml, hown, hts⟩ hK hP hD hS hA [0, 1, 2, 3, 4, 5] [] rfl rfl (by decide) (by decide) (by decide) (m_X6_lacks_ l D cC cI cJ h0 h1 h2 h3 h4 h5 u s.heap.size a0 a1 _ ez1) gX6_unit_X6_lacks_ rfl ⟨rfl, rfl⟩ (ci := 5) rfl rfl (by decide +kernel) ⟨Nat.le_of_ble_eq_true rfl, Nat.le_of_ble_eq_true rfl⟩ ⟨Nat.le_of_ble_eq_true rfl, Nat.le_of_ble_eq_true rfl⟩ hl.1 rfl rfl (Nat.le_of_ble_eq_true rfl) dX6_unit_3 (fun r9 u9 H locs hw hP hD hS => ?_)
  obtain ⟨rfl, rfl⟩ := hw
  have hP : va_P D vwCl [(h0, .inr (5, [.ref h1, .ref h2, .ref h3, .int z1.2.2.2.2.1, .ref h4, .ref h5, .int z1.2.2.2.2.2.2.2.1, .int z1.2.2.2.2.2.2.2.2])), (h1, .inl (cJ, 8, .inr (.inl z1.2.1))), (h2, .inl (cI, 8, .inl z1.2.2.1)), (h3, .inl (cJ, 8, .inr (.inl z1.2.2.2.1))), (h4, .inl (cC, 40, .inl z1.2.2.2.2.2.1)), (h5, .inl (cI, 40, .inl z1.2.2.2.2.2.2.1))] H := hP.sub [0, 1, 2, 3, 4, 5] rfl
  have hD : va_D A [(h0, .inr (5, [.ref h1, .ref h2, .ref h3, .int z1.2.2.2.2.1, .ref h4, .ref h5, .int z1.2.2.2.2.2.2.2.1, .int z1.2.2.2.2.2.2.2.2])), (h1, .inl (cJ, 8, .inr (.inl z1.2.1))), (h2, .inl (cI, 8, .inl z1.2.2.1)), (h3, .inl (cJ, 8, .inr (.inl z1.2.2.2.1))), (h4, .inl (cC, 40, .inl z1.2.2.2.2.2.1)), (h5, .inl (cI, 40, .inl z1.2.2.2.2.2.2.1))] := hD.sub [0, 1, 2, 3, 4, 5] (by decide) rfl
  refine my_bz_eq (x := z1.1) (tgt := 11) hx hb dX6_unit_6 (by decide) (fun c2 => ?_) (fun c2 => ?_)
  · rw [if_pos c2] at hf
    refine lv_aload_n hx hb dX6_unit_11 rfl (lv_at hl 0 rfl) ?_
    refine lv_iload_n hx hb dX6_unit_12 rfl (lv_at hl 2 rfl) ?_
    refine lv_aload_n hx hb dX6_unit_13 rfl (lv_at hl 0 rfl) ?_
    refine va_get (D := D) (ci := 5) (v := .ref h1) (C := RX6) (T := TX6) (N := 8) hx hb hts q2 hown hK hP 0 rfl rfl 0 (by decide) q1 (fun _ h9 => h9) rfl dX6_unit_14 ?_
    refine lv_iload_n hx hb dX6_unit_17 rfl (lv_at hl 1 rfl) ?_
    obtain ⟨g3, hf⟩ := og_e hf
    refine va_lald hx hb hK hP 1 2 rfl rfl g3 dX6_unit_18 ?_
    obtain ⟨r4, er4, hf⟩ := ob_e hf
    refine my_callPl (As := [.long (z1.2.1 a0.toNatClampNeg)]) (n := 1) (rest := [.int a1, .ref h0]) ⟨hx, hb, hml, hown, hts⟩ (m_X6_unitOf l (z1.2.1 a0.toNatClampNeg) _ er4) gX6_unit_X6_unitOf rfl ⟨rfl, rfl⟩ (by decide +kernel) ⟨Nat.le_of_ble_eq_true rfl, Nat.le_of_ble_eq_true rfl⟩ ⟨Nat.le_of_ble_eq_true rfl, Nat.le_of_ble_eq_true rfl⟩ hl.1 rfl rfl (Nat.le_of_ble_eq_true rfl) dX6_unit_19 ?_
    obtain ⟨z5, ez5, hf⟩ := ob_e hf
    refine my_callMl (As := [.int a1, .long r4]) (n := 2) (rest := []) (wr := []) ⟨hx, hb, hml, hown, hts⟩ hK hP hD hS hA [0, 1, 2, 3, 4, 5] [] rfl rfl (by decide) (by decide) (by decide) (m_X6_becomes l D cC cI cJ h0 h1 h2 h3 h4 h5 z1.2 H.size a1 r4 _ ez5) gX6_unit_X6_becomes rfl ⟨rfl, rfl⟩ (ci := 5) rfl rfl (by decide +kernel) ⟨Nat.le_of_ble_eq_true rfl, Nat.le_of_ble_eq_true rfl⟩ ⟨Nat.le_of_ble_eq_true rfl, Nat.le_of_ble_eq_true rfl⟩ hl.1 rfl rfl (Nat.le_of_ble_eq_true rfl) dX6_unit_22 (fun r9 u9 H locs hw hP hD hS => ?_)
    obtain ⟨rfl, rfl⟩ := hw
    have hP : va_P D vwCl [(h0, .inr (5, [.ref h1, .ref h2, .ref h3, .int z5.2.2.2.2.1, .ref h4, .ref h5, .int z5.2.2.2.2.2.2.2.1, .int z5.2.2.2.2.2.2.2.2])), (h1, .inl (cJ, 8, .inr (.inl z5.2.1))), (h2, .inl (cI, 8, .inl z5.2.2.1)), (h3, .inl (cJ, 8, .inr (.inl z5.2.2.2.1))), (h4, .inl (cC, 40, .inl z5.2.2.2.2.2.1)), (h5, .inl (cI, 40, .inl z5.2.2.2.2.2.2.1))] H := hP.sub [0, 1, 2, 3, 4, 5] rfl
    have hD : va_D A [(h0, .inr (5, [.ref h1, .ref h2, .ref h3, .int z5.2.2.2.2.1, .ref h4, .ref h5, .int z5.2.2.2.2.2.2.2.1, .int z5.2.2.2.2.2.2.2.2])), (h1, .inl (cJ, 8, .inr (.inl z5.2.1))), (h2, .inl (cI, 8, .inl z5.2.2.1)), (h3, .inl (cJ, 8, .inr (.inl z5.2.2.2.1))), (h4, .inl (cC, 40, .inl z5.2.2.2.2.2.1)), (h5, .inl (cI, 40, .inl z5.2.2.2.2.2.2.1))] := hD.sub [0, 1, 2, 3, 4, 5] (by decide) rfl
    have hP9 : va_P D vwCl (wM cC cI cJ h0 h1 h2 h3 h4 h5 z5.2) _ := hP
    have hD9 : va_D A (wM cC cI cJ h0 h1 h2 h3 h4 h5 z5.2) := hD
    have hf := Option.some.inj hf
    have hf1 := congrArg Prod.fst hf
    have hf2 := congrArg Prod.snd hf
    exact W.lret (v := z5.1) hx hb hr (fun t ht hW => ⟨⟨z5.1, z5.2, rfl, ⟨hf1, hf2⟩, by rw [ht]; exact hP9, va_K.moved hW.alike hK, hD9⟩, hS.F ht⟩) hS.2.2 dX6_unit_25
  · rw [if_neg c2] at hf
    refine lv_lconst (v := 0) hx hb dX6_unit_9 (by decide) ?_
    have hP9 : va_P D vwCl (wM cC cI cJ h0 h1 h2 h3 h4 h5 z1.2) _ := hP
    have hD9 : va_D A (wM cC cI cJ h0 h1 h2 h3 h4 h5 z1.2) := hD
    have hf := Option.some.inj hf
    have hf1 := congrArg Prod.fst hf
    have hf2 := congrArg Prod.snd hf
    exact W.lret (v := 0) hx hb hr (fun t ht hW => ⟨⟨0, z1.2, rfl, ⟨hf1, hf2⟩, by rw [ht]; exact hP9, va_K.moved hW.alike hK, hD9⟩, hS.F ht⟩) hS.2.2 dX6_unit_10

set_option maxHeartbeats 4000000 in
set_option maxRecDepth 100000 in
theorem m_X6_lacksSize (l : Launch) (D : va_G) (cC cI cJ : ClassId) (h0 h1 h2 h3 h4 h5 : Nat) (u : StM) (sz : Nat) (a0 : Int32) (a1 : Int32) (res : Bool × StM) (hf : f_X6_lacksSize u a0 a1 = some res) : Met l yX6_lacksSize wsX6_lacksSize rmX6_lacksSize (my_PcM D vwCl (KT cC cI cJ) sz (wM cC cI cJ h0 h1 h2 h3 h4 h5 u) [.ref h0, .int a0, .int a1]) (va_Qi (fun r v => r = b2i res.1 ∧ v = res.2) (my_B D vwCl (KT cC cI cJ) (va_A (wM cC cI cJ h0 h1 h2 h3 h4 h5 u) sz) (fun v : StM => (wM cC cI cJ h0 h1 h2 h3 h4 h5 v))) (va_A (wM cC cI cJ h0 h1 h2 h3 h4 h5 u) sz)) 0 0 (va_A (wM cC cI cJ h0 h1 h2 h3 h4 h5 u) sz) := by
  refine Met.ofW (cc := cX6_lacksSize) (maxL := 3) (ret := (some .boolean)) (by decide) rfl ?_
  intro p e s m args below meth c s₁ B hml hv
  obtain ⟨rfl, hsz, hP, hK, hD0⟩ := hv
  have hx := B.exec
  have hb := B.bytes
  have hr := B.returns
  have hts : ∀ w ∈ wsX6_lacksSize, w.before ([.ref h0, .int a0, .int a1] : List Value).toArray s = true := atoms_spec (ws := wsX6_lacksSize) B.pre
  have hown : s.vm.findClass RX6 = some m.cls := findClass_of_methodNamed B.named
  have hlk : meth.locks = false := B.notSynchronized
  subst hsz
  have hD := hD0.self (sz := s.heap.size)
  generalize hAe : va_A (wM cC cI cJ h0 h1 h2 h3 h4 h5 u) s.heap.size = A at hD ⊢
  have hA : ∀ q : Nat, s.heap.size ≤ q → A q := fun q h => by rw [← hAe]; exact Or.inr h
  have hS : va_S A s.heap s.heap [] := va_S.rf
  have hP : va_P D vwCl [(h0, .inr (5, [.ref h1, .ref h2, .ref h3, .int u.2.2.2.1, .ref h4, .ref h5, .int u.2.2.2.2.2.2.1, .int u.2.2.2.2.2.2.2])), (h1, .inl (cJ, 8, .inr (.inl u.1))), (h2, .inl (cI, 8, .inl u.2.1)), (h3, .inl (cJ, 8, .inr (.inl u.2.2.1))), (h4, .inl (cC, 40, .inl u.2.2.2.2.1)), (h5, .inl (cI, 40, .inl u.2.2.2.2.2.1))] s.heap := hP
  have hD : va_D A [(h0, .inr (5, [.ref h1, .ref h2, .ref h3, .int u.2.2.2.1, .ref h4, .ref h5, .int u.2.2.2.2.2.2.1, .int u.2.2.2.2.2.2.2])), (h1, .inl (cJ, 8, .inr (.inl u.1))), (h2, .inl (cI, 8, .inl u.2.1)), (h3, .inl (cJ, 8, .inr (.inl u.2.2.1))), (h4, .inl (cC, 40, .inl u.2.2.2.2.1)), (h5, .inl (cI, 40, .inl u.2.2.2.2.2.1))] := hD
  have q1 := hts (.fieldLink RX6 9 "DoublelineModel" "codes" "[J") (by decide +kernel)
  have q2 : ∀ w ∈ u_ws RX6 TX6 8, w ∈ wsX6_lacksSize := by decide +kernel
  have hl := lv_entry ([.ref h0, .int a0, .int a1]) (n := 3) (Nat.le_of_ble_eq_true rfl)
  rw [lg_entry_eq]
  generalize (lg_sl ([.ref h0, .int a0, .int a1]) ++ List.replicate (3 - (lg_sl ([.ref h0, .int a0, .int a1])).length) Slot.unset).toArray = ls at hl ⊢
  have hl : lv_has ls 3 [(0, .ref h0), (1, .int a0), (2, .int a1)] := hl
  unfold f_X6_lacksSize at hf
  refine lv_aload_n hx hb dX6_lacksSize_0 rfl (lv_at hl 0 rfl) ?_
  refine lv_iload_n hx hb dX6_lacksSize_1 rfl (lv_at hl 1 rfl) ?_
  refine lv_iload_n hx hb dX6_lacksSize_2 rfl (lv_at hl 2 rfl) ?_
  obtain ⟨z1, ez1, hf⟩ := ob_e hf
  refine my_callMi (As := [.int a0, .int a1]) (n := 2) (rest := []) (wr := []) ⟨hx, hb, hml, hown, hts⟩ hK hP hD hS hA [0, 1, 2, 3, 4, 5] [] rfl rfl (by decide) (by decide) (by decide) (m_X6_lacks_ l D cC cI cJ h0 h1 h2 h3 h4 h5 u s.heap.size a0 a1 _ ez1) gX6_lacksSize_X6_lacks_ rfl ⟨rfl, rfl⟩ (ci := 5) rfl rfl (by decide +kernel) ⟨Nat.le_of_ble_eq_true rfl, Nat.le_of_ble_eq_true rfl⟩ ⟨Nat.le_of_ble_eq_true rfl, Nat.le_of_ble_eq_true rfl⟩ hl.1 rfl rfl (Nat.le_of_ble_eq_true rfl) dX6_lacksSize_3 (fun r9 u9 H locs hw hP hD hS => ?_)
  obtain ⟨rfl, rfl⟩ := hw
  have hP : va_P D vwCl [(h0, .inr (5, [.ref h1, .ref h2, .ref h3, .int z1.2.2.2.2.1, .ref h4, .ref h5, .int z1.2.2.2.2.2.2.2.1, .int z1.2.2.2.2.2.2.2.2])), (h1, .inl (cJ, 8, .inr (.inl z1.2.1))), (h2, .inl (cI, 8, .inl z1.2.2.1)), (h3, .inl (cJ, 8, .inr (.inl z1.2.2.2.1))), (h4, .inl (cC, 40, .inl z1.2.2.2.2.2.1)), (h5, .inl (cI, 40, .inl z1.2.2.2.2.2.2.1))] H := hP.sub [0, 1, 2, 3, 4, 5] rfl
  have hD : va_D A [(h0, .inr (5, [.ref h1, .ref h2, .ref h3, .int z1.2.2.2.2.1, .ref h4, .ref h5, .int z1.2.2.2.2.2.2.2.1, .int z1.2.2.2.2.2.2.2.2])), (h1, .inl (cJ, 8, .inr (.inl z1.2.1))), (h2, .inl (cI, 8, .inl z1.2.2.1)), (h3, .inl (cJ, 8, .inr (.inl z1.2.2.2.1))), (h4, .inl (cC, 40, .inl z1.2.2.2.2.2.1)), (h5, .inl (cI, 40, .inl z1.2.2.2.2.2.2.1))] := hD.sub [0, 1, 2, 3, 4, 5] (by decide) rfl
  refine my_bz_ne (x := z1.1) (tgt := 46) hx hb dX6_lacksSize_6 (by decide) (fun c2 => ?_) (fun c2 => ?_)
  · rw [if_neg c2] at hf
    refine lv_iconst (v := 1) hx hb dX6_lacksSize_46 (by decide) ?_
    refine lv_goto (tgt := 51) hx hb dX6_lacksSize_47 (by decide) ?_
    have hP9 : va_P D vwCl (wM cC cI cJ h0 h1 h2 h3 h4 h5 z1.2) _ := hP
    have hD9 : va_D A (wM cC cI cJ h0 h1 h2 h3 h4 h5 z1.2) := hD
    have hf := Option.some.inj hf
    have hf1 := congrArg (fun z => b2i z.1) hf
    have hf2 := congrArg Prod.snd hf
    exact W.zret (v := b2i true) (ty := .boolean) hx hb hr (b2i_nar _) (fun t ht hW => ⟨⟨b2i true, z1.2, rfl, ⟨hf1, hf2⟩, by rw [ht]; exact hP9, va_K.moved hW.alike hK, hD9⟩, hS.F ht⟩) hS.2.2 dX6_lacksSize_51
  · rw [if_pos c2] at hf
    refine lv_aload_n hx hb dX6_lacksSize_9 rfl (lv_at hl 0 rfl) ?_
    refine lv_aload_n hx hb dX6_lacksSize_10 rfl (lv_at hl 0 rfl) ?_
    refine va_get (D := D) (ci := 5) (v := .ref h1) (C := RX6) (T := TX6) (N := 8) hx hb hts q2 hown hK hP 0 rfl rfl 0 (by decide) q1 (fun _ h9 => h9) rfl dX6_lacksSize_11 ?_
    refine lv_iload_n hx hb dX6_lacksSize_14 rfl (lv_at hl 1 rfl) ?_
    obtain ⟨g3, hf⟩ := og_e hf
    refine va_lald hx hb hK hP 1 2 rfl rfl g3 dX6_lacksSize_15 ?_
    refine my_callPi (As := [.long (z1.2.1 a0.toNatClampNeg)]) (n := 1) (rest := [.ref h0]) ⟨hx, hb, hml, hown, hts⟩ (m_X6_isNothing l (z1.2.1 a0.toNatClampNeg) _ rfl) gX6_lacksSize_X6_isNothing rfl ⟨rfl, rfl⟩ (by decide +kernel) ⟨Nat.le_of_ble_eq_true rfl, Nat.le_of_ble_eq_true rfl⟩ ⟨Nat.le_of_ble_eq_true rfl, Nat.le_of_ble_eq_true rfl⟩ hl.1 rfl rfl (Nat.le_of_ble_eq_true rfl) dX6_lacksSize_16 ?_
    refine my_bz_ne (x := (f_X6_isNothing (z1.2.1 a0.toNatClampNeg))) (tgt := 38) hx hb dX6_lacksSize_19 (by decide) (fun c4 => ?_) (fun c4 => ?_)
    · rw [if_neg c4] at hf
      refine lv_iconst (v := 0) hx hb dX6_lacksSize_38 (by decide) ?_
      refine lv_iconst (v := 2) hx hb dX6_lacksSize_39 (by decide) ?_
      refine my_callMi (As := [.int (b2i false), .int 2]) (n := 2) (rest := []) (wr := []) ⟨hx, hb, hml, hown, hts⟩ hK hP hD hS hA [0, 1, 2, 3, 4, 5] [] rfl rfl (by decide) (by decide) (by decide) (m_X6_no l D cC cI cJ h0 h1 h2 h3 h4 h5 z1.2 H.size false 2 _ (no_f z1.2 2)) gX6_lacksSize_X6_no rfl ⟨rfl, rfl⟩ (ci := 5) rfl rfl (by decide +kernel) ⟨Nat.le_of_ble_eq_true rfl, Nat.le_of_ble_eq_true rfl⟩ ⟨Nat.le_of_ble_eq_true rfl, Nat.le_of_ble_eq_true rfl⟩ hl.1 rfl rfl (Nat.le_of_ble_eq_true rfl) dX6_lacksSize_40 (fun r9 u9 H locs hw hP hD hS => ?_)
      obtain ⟨rfl, rfl⟩ := hw
      have hP : va_P D vwCl [(h0, .inr (5, [.ref h1, .ref h2, .ref h3, .int z1.2.2.2.2.1, .ref h4, .ref h5, .int z1.2.2.2.2.2.2.2.1, .int 2])), (h1, .inl (cJ, 8, .inr (.inl z1.2.1))), (h2, .inl (cI, 8, .inl z1.2.2.1)), (h3, .inl (cJ, 8, .inr (.inl z1.2.2.2.1))), (h4, .inl (cC, 40, .inl z1.2.2.2.2.2.1)), (h5, .inl (cI, 40, .inl z1.2.2.2.2.2.2.1))] H := hP.sub [0, 1, 2, 3, 4, 5] rfl
      have hD : va_D A [(h0, .inr (5, [.ref h1, .ref h2, .ref h3, .int z1.2.2.2.2.1, .ref h4, .ref h5, .int z1.2.2.2.2.2.2.2.1, .int 2])), (h1, .inl (cJ, 8, .inr (.inl z1.2.1))), (h2, .inl (cI, 8, .inl z1.2.2.1)), (h3, .inl (cJ, 8, .inr (.inl z1.2.2.2.1))), (h4, .inl (cC, 40, .inl z1.2.2.2.2.2.1)), (h5, .inl (cI, 40, .inl z1.2.2.2.2.2.2.1))] := hD.sub [0, 1, 2, 3, 4, 5] (by decide) rfl
      refine my_bz_eq (x := true) (tgt := 50) hx hb dX6_lacksSize_43 (by decide) (fun h9 => absurd h9 (by decide)) (fun _ => ?_)
      refine lv_iconst (v := 1) hx hb dX6_lacksSize_46 (by decide) ?_
      refine lv_goto (tgt := 51) hx hb dX6_lacksSize_47 (by decide) ?_
      have hP9 : va_P D vwCl (wM cC cI cJ h0 h1 h2 h3 h4 h5 (z1.2.1, (z1.2.2.1, (z1.2.2.2.1, (z1.2.2.2.2.1, (z1.2.2.2.2.2.1, (z1.2.2.2.2.2.2.1, (z1.2.2.2.2.2.2.2.1, 2)))))))) _ := hP
      have hD9 : va_D A (wM cC cI cJ h0 h1 h2 h3 h4 h5 (z1.2.1, (z1.2.2.1, (z1.2.2.2.1, (z1.2.2.2.2.1, (z1.2.2.2.2.2.1, (z1.2.2.2.2.2.2.1, (z1.2.2.2.2.2.2.2.1, 2)))))))) := hD
      have hf := Option.some.inj hf
      have hf1 := congrArg (fun z => b2i z.1) hf
      have hf2 := congrArg Prod.snd hf
      exact W.zret (v := b2i true) (ty := .boolean) hx hb hr (b2i_nar _) (fun t ht hW => ⟨⟨b2i true, (z1.2.1, (z1.2.2.1, (z1.2.2.2.1, (z1.2.2.2.2.1, (z1.2.2.2.2.2.1, (z1.2.2.2.2.2.2.1, (z1.2.2.2.2.2.2.2.1, 2))))))), rfl, ⟨hf1, hf2⟩, by rw [ht]; exact hP9, va_K.moved hW.alike hK, hD9⟩, hS.F ht⟩) hS.2.2 dX6_lacksSize_51
    · rw [if_pos c4] at hf
      refine lv_aload_n hx hb dX6_lacksSize_22 rfl (lv_at hl 0 rfl) ?_
      refine va_get (D := D) (ci := 5) (v := .ref h1) (C := RX6) (T := TX6) (N := 8) hx hb hts q2 hown hK hP 0 rfl rfl 0 (by decide) q1 (fun _ h9 => h9) rfl dX6_lacksSize_23 ?_
      refine lv_iload_n hx hb dX6_lacksSize_26 rfl (lv_at hl 1 rfl) ?_
      obtain ⟨g5, hf⟩ := og_e hf
      refine va_lald hx hb hK hP 1 2 rfl rfl g5 dX6_lacksSize_27 ?_
      refine my_callPi (As := [.long (z1.2.1 a0.toNatClampNeg)]) (n := 1) (rest := [.ref h0]) ⟨hx, hb, hml, hown, hts⟩ (m_X6_isEnd l (z1.2.1 a0.toNatClampNeg) _ rfl) gX6_lacksSize_X6_isEnd rfl ⟨rfl, rfl⟩ (by decide +kernel) ⟨Nat.le_of_ble_eq_true rfl, Nat.le_of_ble_eq_true rfl⟩ ⟨Nat.le_of_ble_eq_true rfl, Nat.le_of_ble_eq_true rfl⟩ hl.1 rfl rfl (Nat.le_of_ble_eq_true rfl) dX6_lacksSize_28 ?_
      refine my_bz_ne (x := (f_X6_isEnd (z1.2.1 a0.toNatClampNeg))) (tgt := 38) hx hb dX6_lacksSize_31 (by decide) (fun c6 => ?_) (fun c6 => ?_)
      · rw [if_neg c6] at hf
        refine lv_iconst (v := 0) hx hb dX6_lacksSize_38 (by decide) ?_
        refine lv_iconst (v := 2) hx hb dX6_lacksSize_39 (by decide) ?_
        refine my_callMi (As := [.int (b2i false), .int 2]) (n := 2) (rest := []) (wr := []) ⟨hx, hb, hml, hown, hts⟩ hK hP hD hS hA [0, 1, 2, 3, 4, 5] [] rfl rfl (by decide) (by decide) (by decide) (m_X6_no l D cC cI cJ h0 h1 h2 h3 h4 h5 z1.2 H.size false 2 _ (no_f z1.2 2)) gX6_lacksSize_X6_no rfl ⟨rfl, rfl⟩ (ci := 5) rfl rfl (by decide +kernel) ⟨Nat.le_of_ble_eq_true rfl, Nat.le_of_ble_eq_true rfl⟩ ⟨Nat.le_of_ble_eq_true rfl, Nat.le_of_ble_eq_true rfl⟩ hl.1 rfl rfl (Nat.le_of_ble_eq_true rfl) dX6_lacksSize_40 (fun r9 u9 H locs hw hP hD hS => ?_)
        obtain ⟨rfl, rfl⟩ := hw
        have hP : va_P D vwCl [(h0, .inr (5, [.ref h1, .ref h2, .ref h3, .int z1.2.2.2.2.1, .ref h4, .ref h5, .int z1.2.2.2.2.2.2.2.1, .int 2])), (h1, .inl (cJ, 8, .inr (.inl z1.2.1))), (h2, .inl (cI, 8, .inl z1.2.2.1)), (h3, .inl (cJ, 8, .inr (.inl z1.2.2.2.1))), (h4, .inl (cC, 40, .inl z1.2.2.2.2.2.1)), (h5, .inl (cI, 40, .inl z1.2.2.2.2.2.2.1))] H := hP.sub [0, 1, 2, 3, 4, 5] rfl
        have hD : va_D A [(h0, .inr (5, [.ref h1, .ref h2, .ref h3, .int z1.2.2.2.2.1, .ref h4, .ref h5, .int z1.2.2.2.2.2.2.2.1, .int 2])), (h1, .inl (cJ, 8, .inr (.inl z1.2.1))), (h2, .inl (cI, 8, .inl z1.2.2.1)), (h3, .inl (cJ, 8, .inr (.inl z1.2.2.2.1))), (h4, .inl (cC, 40, .inl z1.2.2.2.2.2.1)), (h5, .inl (cI, 40, .inl z1.2.2.2.2.2.2.1))] := hD.sub [0, 1, 2, 3, 4, 5] (by decide) rfl
        refine my_bz_eq (x := true) (tgt := 50) hx hb dX6_lacksSize_43 (by decide) (fun h9 => absurd h9 (by decide)) (fun _ => ?_)
        refine lv_iconst (v := 1) hx hb dX6_lacksSize_46 (by decide) ?_
        refine lv_goto (tgt := 51) hx hb dX6_lacksSize_47 (by decide) ?_
        have hP9 : va_P D vwCl (wM cC cI cJ h0 h1 h2 h3 h4 h5 (z1.2.1, (z1.2.2.1, (z1.2.2.2.1, (z1.2.2.2.2.1, (z1.2.2.2.2.2.1, (z1.2.2.2.2.2.2.1, (z1.2.2.2.2.2.2.2.1, 2)))))))) _ := hP
        have hD9 : va_D A (wM cC cI cJ h0 h1 h2 h3 h4 h5 (z1.2.1, (z1.2.2.1, (z1.2.2.2.1, (z1.2.2.2.2.1, (z1.2.2.2.2.2.1, (z1.2.2.2.2.2.2.1, (z1.2.2.2.2.2.2.2.1, 2)))))))) := hD
        have hf := Option.some.inj hf
        have hf1 := congrArg (fun z => b2i z.1) hf
        have hf2 := congrArg Prod.snd hf
        exact W.zret (v := b2i true) (ty := .boolean) hx hb hr (b2i_nar _) (fun t ht hW => ⟨⟨b2i true, (z1.2.1, (z1.2.2.1, (z1.2.2.2.1, (z1.2.2.2.2.1, (z1.2.2.2.2.2.1, (z1.2.2.2.2.2.2.1, (z1.2.2.2.2.2.2.2.1, 2))))))), rfl, ⟨hf1, hf2⟩, by rw [ht]; exact hP9, va_K.moved hW.alike hK, hD9⟩, hS.F ht⟩) hS.2.2 dX6_lacksSize_51
      · rw [if_pos c6] at hf
        refine lv_iconst (v := 1) hx hb dX6_lacksSize_34 (by decide) ?_
        refine lv_goto (tgt := 39) hx hb dX6_lacksSize_35 (by decide) ?_
        refine lv_iconst (v := 2) hx hb dX6_lacksSize_39 (by decide) ?_
        refine my_callMi (As := [.int (b2i true), .int 2]) (n := 2) (rest := []) (wr := []) ⟨hx, hb, hml, hown, hts⟩ hK hP hD hS hA [0, 1, 2, 3, 4, 5] [] rfl rfl (by decide) (by decide) (by decide) (m_X6_no l D cC cI cJ h0 h1 h2 h3 h4 h5 z1.2 H.size true 2 _ (no_t z1.2 2)) gX6_lacksSize_X6_no rfl ⟨rfl, rfl⟩ (ci := 5) rfl rfl (by decide +kernel) ⟨Nat.le_of_ble_eq_true rfl, Nat.le_of_ble_eq_true rfl⟩ ⟨Nat.le_of_ble_eq_true rfl, Nat.le_of_ble_eq_true rfl⟩ hl.1 rfl rfl (Nat.le_of_ble_eq_true rfl) dX6_lacksSize_40 (fun r9 u9 H locs hw hP hD hS => ?_)
        obtain ⟨rfl, rfl⟩ := hw
        have hP : va_P D vwCl [(h0, .inr (5, [.ref h1, .ref h2, .ref h3, .int z1.2.2.2.2.1, .ref h4, .ref h5, .int z1.2.2.2.2.2.2.2.1, .int 0])), (h1, .inl (cJ, 8, .inr (.inl z1.2.1))), (h2, .inl (cI, 8, .inl z1.2.2.1)), (h3, .inl (cJ, 8, .inr (.inl z1.2.2.2.1))), (h4, .inl (cC, 40, .inl z1.2.2.2.2.2.1)), (h5, .inl (cI, 40, .inl z1.2.2.2.2.2.2.1))] H := hP.sub [0, 1, 2, 3, 4, 5] rfl
        have hD : va_D A [(h0, .inr (5, [.ref h1, .ref h2, .ref h3, .int z1.2.2.2.2.1, .ref h4, .ref h5, .int z1.2.2.2.2.2.2.2.1, .int 0])), (h1, .inl (cJ, 8, .inr (.inl z1.2.1))), (h2, .inl (cI, 8, .inl z1.2.2.1)), (h3, .inl (cJ, 8, .inr (.inl z1.2.2.2.1))), (h4, .inl (cC, 40, .inl z1.2.2.2.2.2.1)), (h5, .inl (cI, 40, .inl z1.2.2.2.2.2.2.1))] := hD.sub [0, 1, 2, 3, 4, 5] (by decide) rfl
        refine my_bz_eq (x := false) (tgt := 50) hx hb dX6_lacksSize_43 (by decide) (fun _ => ?_) (fun h9 => absurd h9 (by decide))
        refine lv_iconst (v := 0) hx hb dX6_lacksSize_50 (by decide) ?_
        have hP9 : va_P D vwCl (wM cC cI cJ h0 h1 h2 h3 h4 h5 (z1.2.1, (z1.2.2.1, (z1.2.2.2.1, (z1.2.2.2.2.1, (z1.2.2.2.2.2.1, (z1.2.2.2.2.2.2.1, (z1.2.2.2.2.2.2.2.1, 0)))))))) _ := hP
        have hD9 : va_D A (wM cC cI cJ h0 h1 h2 h3 h4 h5 (z1.2.1, (z1.2.2.1, (z1.2.2.2.1, (z1.2.2.2.2.1, (z1.2.2.2.2.2.1, (z1.2.2.2.2.2.2.1, (z1.2.2.2.2.2.2.2.1, 0)))))))) := hD
        have hf := Option.some.inj hf
        have hf1 := congrArg (fun z => b2i z.1) hf
        have hf2 := congrArg Prod.snd hf
        exact W.zret (v := b2i false) (ty := .boolean) hx hb hr (b2i_nar _) (fun t ht hW => ⟨⟨b2i false, (z1.2.1, (z1.2.2.1, (z1.2.2.2.1, (z1.2.2.2.2.1, (z1.2.2.2.2.2.1, (z1.2.2.2.2.2.2.1, (z1.2.2.2.2.2.2.2.1, 0))))))), rfl, ⟨hf1, hf2⟩, by rw [ht]; exact hP9, va_K.moved hW.alike hK, hD9⟩, hS.F ht⟩) hS.2.2 dX6_lacksSize_51

set_option maxHeartbeats 4000000 in
set_option maxRecDepth 100000 in
theorem m_X6_lead (l : Launch) (D : va_G) (cC cI cJ : ClassId) (h0 h1 h2 h3 h4 h5 : Nat) (u : StM) (sz : Nat) (a0 : Int32) (res : Int32 × StM) (hf : f_X6_lead u a0 = some res) : Met l yX6_lead wsX6_lead rmX6_lead (my_PcM D vwCl (KT cC cI cJ) sz (wM cC cI cJ h0 h1 h2 h3 h4 h5 u) [.ref h0, .int a0]) (va_Qi (fun r v => r = res.1 ∧ v = res.2) (my_B D vwCl (KT cC cI cJ) (va_A (wM cC cI cJ h0 h1 h2 h3 h4 h5 u) sz) (fun v : StM => (wM cC cI cJ h0 h1 h2 h3 h4 h5 v))) (va_A (wM cC cI cJ h0 h1 h2 h3 h4 h5 u) sz)) 0 0 (va_A (wM cC cI cJ h0 h1 h2 h3 h4 h5 u) sz) := by
  refine Met.ofW (cc := cX6_lead) (maxL := 2) (ret := (some .int)) (by decide) rfl ?_
  intro p e s m args below meth c s₁ B hml hv
  obtain ⟨rfl, hsz, hP, hK, hD0⟩ := hv
  have hx := B.exec
  have hb := B.bytes
  have hr := B.returns
  have hts : ∀ w ∈ wsX6_lead, w.before ([.ref h0, .int a0] : List Value).toArray s = true := atoms_spec (ws := wsX6_lead) B.pre
  have hown : s.vm.findClass RX6 = some m.cls := findClass_of_methodNamed B.named
  have hlk : meth.locks = false := B.notSynchronized
  subst hsz
  have hD := hD0.self (sz := s.heap.size)
  generalize hAe : va_A (wM cC cI cJ h0 h1 h2 h3 h4 h5 u) s.heap.size = A at hD ⊢
  have hA : ∀ q : Nat, s.heap.size ≤ q → A q := fun q h => by rw [← hAe]; exact Or.inr h
  have hS : va_S A s.heap s.heap [] := va_S.rf
  have hP : va_P D vwCl [(h0, .inr (5, [.ref h1, .ref h2, .ref h3, .int u.2.2.2.1, .ref h4, .ref h5, .int u.2.2.2.2.2.2.1, .int u.2.2.2.2.2.2.2])), (h1, .inl (cJ, 8, .inr (.inl u.1))), (h2, .inl (cI, 8, .inl u.2.1)), (h3, .inl (cJ, 8, .inr (.inl u.2.2.1))), (h4, .inl (cC, 40, .inl u.2.2.2.2.1)), (h5, .inl (cI, 40, .inl u.2.2.2.2.2.1))] s.heap := hP
  have hD : va_D A [(h0, .inr (5, [.ref h1, .ref h2, .ref h3, .int u.2.2.2.1, .ref h4, .ref h5, .int u.2.2.2.2.2.2.1, .int u.2.2.2.2.2.2.2])), (h1, .inl (cJ, 8, .inr (.inl u.1))), (h2, .inl (cI, 8, .inl u.2.1)), (h3, .inl (cJ, 8, .inr (.inl u.2.2.1))), (h4, .inl (cC, 40, .inl u.2.2.2.2.1)), (h5, .inl (cI, 40, .inl u.2.2.2.2.2.1))] := hD
  have q1 := hts (.fieldLink RX6 9 "DoublelineModel" "codes" "[J") (by decide +kernel)
  have q2 : ∀ w ∈ u_ws RX6 TX6 8, w ∈ wsX6_lead := by decide +kernel
  have hl := lv_entry ([.ref h0, .int a0]) (n := 2) (Nat.le_of_ble_eq_true rfl)
  rw [lg_entry_eq]
  generalize (lg_sl ([.ref h0, .int a0]) ++ List.replicate (2 - (lg_sl ([.ref h0, .int a0])).length) Slot.unset).toArray = ls at hl ⊢
  have hl : lv_has ls 2 [(0, .ref h0), (1, .int a0)] := hl
  unfold f_X6_lead at hf
  refine lv_aload_n hx hb dX6_lead_0 rfl (lv_at hl 0 rfl) ?_
  refine lv_iload_n hx hb dX6_lead_1 rfl (lv_at hl 1 rfl) ?_
  refine lv_iload_n hx hb dX6_lead_2 rfl (lv_at hl 1 rfl) ?_
  obtain ⟨z1, ez1, hf⟩ := ob_e hf
  refine my_callMi (As := [.int a0, .int a0]) (n := 2) (rest := []) (wr := []) ⟨hx, hb, hml, hown, hts⟩ hK hP hD hS hA [0, 1, 2, 3, 4, 5] [] rfl rfl (by decide) (by decide) (by decide) (m_X6_lacksSize l D cC cI cJ h0 h1 h2 h3 h4 h5 u s.heap.size a0 a0 _ ez1) gX6_lead_X6_lacksSize rfl ⟨rfl, rfl⟩ (ci := 5) rfl rfl (by decide +kernel) ⟨Nat.le_of_ble_eq_true rfl, Nat.le_of_ble_eq_true rfl⟩ ⟨Nat.le_of_ble_eq_true rfl, Nat.le_of_ble_eq_true rfl⟩ hl.1 rfl rfl (Nat.le_of_ble_eq_true rfl) dX6_lead_3 (fun r9 u9 H locs hw hP hD hS => ?_)
  obtain ⟨rfl, rfl⟩ := hw
  have hP : va_P D vwCl [(h0, .inr (5, [.ref h1, .ref h2, .ref h3, .int z1.2.2.2.2.1, .ref h4, .ref h5, .int z1.2.2.2.2.2.2.2.1, .int z1.2.2.2.2.2.2.2.2])), (h1, .inl (cJ, 8, .inr (.inl z1.2.1))), (h2, .inl (cI, 8, .inl z1.2.2.1)), (h3, .inl (cJ, 8, .inr (.inl z1.2.2.2.1))), (h4, .inl (cC, 40, .inl z1.2.2.2.2.2.1)), (h5, .inl (cI, 40, .inl z1.2.2.2.2.2.2.1))] H := hP.sub [0, 1, 2, 3, 4, 5] rfl
  have hD : va_D A [(h0, .inr (5, [.ref h1, .ref h2, .ref h3, .int z1.2.2.2.2.1, .ref h4, .ref h5, .int z1.2.2.2.2.2.2.2.1, .int z1.2.2.2.2.2.2.2.2])), (h1, .inl (cJ, 8, .inr (.inl z1.2.1))), (h2, .inl (cI, 8, .inl z1.2.2.1)), (h3, .inl (cJ, 8, .inr (.inl z1.2.2.2.1))), (h4, .inl (cC, 40, .inl z1.2.2.2.2.2.1)), (h5, .inl (cI, 40, .inl z1.2.2.2.2.2.2.1))] := hD.sub [0, 1, 2, 3, 4, 5] (by decide) rfl
  refine my_bz_eq (x := z1.1) (tgt := 11) hx hb dX6_lead_6 (by decide) (fun c2 => ?_) (fun c2 => ?_)
  · rw [if_pos c2] at hf
    refine lv_aload_n hx hb dX6_lead_11 rfl (lv_at hl 0 rfl) ?_
    refine va_get (D := D) (ci := 5) (v := .ref h1) (C := RX6) (T := TX6) (N := 8) hx hb hts q2 hown hK hP 0 rfl rfl 0 (by decide) q1 (fun _ h9 => h9) rfl dX6_lead_12 ?_
    refine lv_iload_n hx hb dX6_lead_15 rfl (lv_at hl 1 rfl) ?_
    obtain ⟨g3, hf⟩ := og_e hf
    refine va_lald hx hb hK hP 1 2 rfl rfl g3 dX6_lead_16 ?_
    refine my_callPl (As := [.long (z1.2.1 a0.toNatClampNeg)]) (n := 1) (rest := []) ⟨hx, hb, hml, hown, hts⟩ (m_X6_size l (z1.2.1 a0.toNatClampNeg) _ rfl) gX6_lead_X6_size rfl ⟨rfl, rfl⟩ (by decide +kernel) ⟨Nat.le_of_ble_eq_true rfl, Nat.le_of_ble_eq_true rfl⟩ ⟨Nat.le_of_ble_eq_true rfl, Nat.le_of_ble_eq_true rfl⟩ hl.1 rfl rfl (Nat.le_of_ble_eq_true rfl) dX6_lead_17 ?_
    obtain ⟨r4, er4, hf⟩ := ob_e hf
    refine my_callPi (As := [.long (f_X6_size (z1.2.1 a0.toNatClampNeg))]) (n := 1) (rest := []) ⟨hx, hb, hml, hown, hts⟩ (m_X6_leadOf l (f_X6_size (z1.2.1 a0.toNatClampNeg)) _ er4) gX6_lead_X6_leadOf rfl ⟨rfl, rfl⟩ (by decide +kernel) ⟨Nat.le_of_ble_eq_true rfl, Nat.le_of_ble_eq_true rfl⟩ ⟨Nat.le_of_ble_eq_true rfl, Nat.le_of_ble_eq_true rfl⟩ hl.1 rfl rfl (Nat.le_of_ble_eq_true rfl) dX6_lead_20 ?_
    have hP9 : va_P D vwCl (wM cC cI cJ h0 h1 h2 h3 h4 h5 z1.2) _ := hP
    have hD9 : va_D A (wM cC cI cJ h0 h1 h2 h3 h4 h5 z1.2) := hD
    have hf := Option.some.inj hf
    have hf1 := congrArg Prod.fst hf
    have hf2 := congrArg Prod.snd hf
    exact W.iret (v := r4) hx hb hr (fun t ht hW => ⟨⟨r4, z1.2, rfl, ⟨hf1, hf2⟩, by rw [ht]; exact hP9, va_K.moved hW.alike hK, hD9⟩, hS.F ht⟩) hS.2.2 dX6_lead_23
  · rw [if_neg c2] at hf
    refine lv_iconst (v := 0) hx hb dX6_lead_9 (by decide) ?_
    have hP9 : va_P D vwCl (wM cC cI cJ h0 h1 h2 h3 h4 h5 z1.2) _ := hP
    have hD9 : va_D A (wM cC cI cJ h0 h1 h2 h3 h4 h5 z1.2) := hD
    have hf := Option.some.inj hf
    have hf1 := congrArg Prod.fst hf
    have hf2 := congrArg Prod.snd hf
    exact W.iret (v := 0) hx hb hr (fun t ht hW => ⟨⟨0, z1.2, rfl, ⟨hf1, hf2⟩, by rw [ht]; exact hP9, va_K.moved hW.alike hK, hD9⟩, hS.F ht⟩) hS.2.2 dX6_lead_10

set_option maxHeartbeats 4000000 in
set_option maxRecDepth 100000 in
theorem m_X6_tail (l : Launch) (D : va_G) (cC cI cJ : ClassId) (h0 h1 h2 h3 h4 h5 : Nat) (u : StM) (sz : Nat) (a0 : Int32) (res : Int32 × StM) (hf : f_X6_tail u a0 = some res) : Met l yX6_tail wsX6_tail rmX6_tail (my_PcM D vwCl (KT cC cI cJ) sz (wM cC cI cJ h0 h1 h2 h3 h4 h5 u) [.ref h0, .int a0]) (va_Qi (fun r v => r = res.1 ∧ v = res.2) (my_B D vwCl (KT cC cI cJ) (va_A (wM cC cI cJ h0 h1 h2 h3 h4 h5 u) sz) (fun v : StM => (wM cC cI cJ h0 h1 h2 h3 h4 h5 v))) (va_A (wM cC cI cJ h0 h1 h2 h3 h4 h5 u) sz)) 0 0 (va_A (wM cC cI cJ h0 h1 h2 h3 h4 h5 u) sz) := by
  refine Met.ofW (cc := cX6_tail) (maxL := 2) (ret := (some .int)) (by decide) rfl ?_
  intro p e s m args below meth c s₁ B hml hv
  obtain ⟨rfl, hsz, hP, hK, hD0⟩ := hv
  have hx := B.exec
  have hb := B.bytes
  have hr := B.returns
  have hts : ∀ w ∈ wsX6_tail, w.before ([.ref h0, .int a0] : List Value).toArray s = true := atoms_spec (ws := wsX6_tail) B.pre
  have hown : s.vm.findClass RX6 = some m.cls := findClass_of_methodNamed B.named
  have hlk : meth.locks = false := B.notSynchronized
  subst hsz
  have hD := hD0.self (sz := s.heap.size)
  generalize hAe : va_A (wM cC cI cJ h0 h1 h2 h3 h4 h5 u) s.heap.size = A at hD ⊢
  have hA : ∀ q : Nat, s.heap.size ≤ q → A q := fun q h => by rw [← hAe]; exact Or.inr h
  have hS : va_S A s.heap s.heap [] := va_S.rf
  have hP : va_P D vwCl [(h0, .inr (5, [.ref h1, .ref h2, .ref h3, .int u.2.2.2.1, .ref h4, .ref h5, .int u.2.2.2.2.2.2.1, .int u.2.2.2.2.2.2.2])), (h1, .inl (cJ, 8, .inr (.inl u.1))), (h2, .inl (cI, 8, .inl u.2.1)), (h3, .inl (cJ, 8, .inr (.inl u.2.2.1))), (h4, .inl (cC, 40, .inl u.2.2.2.2.1)), (h5, .inl (cI, 40, .inl u.2.2.2.2.2.1))] s.heap := hP
  have hD : va_D A [(h0, .inr (5, [.ref h1, .ref h2, .ref h3, .int u.2.2.2.1, .ref h4, .ref h5, .int u.2.2.2.2.2.2.1, .int u.2.2.2.2.2.2.2])), (h1, .inl (cJ, 8, .inr (.inl u.1))), (h2, .inl (cI, 8, .inl u.2.1)), (h3, .inl (cJ, 8, .inr (.inl u.2.2.1))), (h4, .inl (cC, 40, .inl u.2.2.2.2.1)), (h5, .inl (cI, 40, .inl u.2.2.2.2.2.1))] := hD
  have q1 := hts (.fieldLink RX6 9 "DoublelineModel" "codes" "[J") (by decide +kernel)
  have q2 : ∀ w ∈ u_ws RX6 TX6 8, w ∈ wsX6_tail := by decide +kernel
  have hl := lv_entry ([.ref h0, .int a0]) (n := 2) (Nat.le_of_ble_eq_true rfl)
  rw [lg_entry_eq]
  generalize (lg_sl ([.ref h0, .int a0]) ++ List.replicate (2 - (lg_sl ([.ref h0, .int a0])).length) Slot.unset).toArray = ls at hl ⊢
  have hl : lv_has ls 2 [(0, .ref h0), (1, .int a0)] := hl
  unfold f_X6_tail at hf
  refine lv_aload_n hx hb dX6_tail_0 rfl (lv_at hl 0 rfl) ?_
  refine lv_iload_n hx hb dX6_tail_1 rfl (lv_at hl 1 rfl) ?_
  refine lv_iload_n hx hb dX6_tail_2 rfl (lv_at hl 1 rfl) ?_
  obtain ⟨z1, ez1, hf⟩ := ob_e hf
  refine my_callMi (As := [.int a0, .int a0]) (n := 2) (rest := []) (wr := []) ⟨hx, hb, hml, hown, hts⟩ hK hP hD hS hA [0, 1, 2, 3, 4, 5] [] rfl rfl (by decide) (by decide) (by decide) (m_X6_lacksSize l D cC cI cJ h0 h1 h2 h3 h4 h5 u s.heap.size a0 a0 _ ez1) gX6_tail_X6_lacksSize rfl ⟨rfl, rfl⟩ (ci := 5) rfl rfl (by decide +kernel) ⟨Nat.le_of_ble_eq_true rfl, Nat.le_of_ble_eq_true rfl⟩ ⟨Nat.le_of_ble_eq_true rfl, Nat.le_of_ble_eq_true rfl⟩ hl.1 rfl rfl (Nat.le_of_ble_eq_true rfl) dX6_tail_3 (fun r9 u9 H locs hw hP hD hS => ?_)
  obtain ⟨rfl, rfl⟩ := hw
  have hP : va_P D vwCl [(h0, .inr (5, [.ref h1, .ref h2, .ref h3, .int z1.2.2.2.2.1, .ref h4, .ref h5, .int z1.2.2.2.2.2.2.2.1, .int z1.2.2.2.2.2.2.2.2])), (h1, .inl (cJ, 8, .inr (.inl z1.2.1))), (h2, .inl (cI, 8, .inl z1.2.2.1)), (h3, .inl (cJ, 8, .inr (.inl z1.2.2.2.1))), (h4, .inl (cC, 40, .inl z1.2.2.2.2.2.1)), (h5, .inl (cI, 40, .inl z1.2.2.2.2.2.2.1))] H := hP.sub [0, 1, 2, 3, 4, 5] rfl
  have hD : va_D A [(h0, .inr (5, [.ref h1, .ref h2, .ref h3, .int z1.2.2.2.2.1, .ref h4, .ref h5, .int z1.2.2.2.2.2.2.2.1, .int z1.2.2.2.2.2.2.2.2])), (h1, .inl (cJ, 8, .inr (.inl z1.2.1))), (h2, .inl (cI, 8, .inl z1.2.2.1)), (h3, .inl (cJ, 8, .inr (.inl z1.2.2.2.1))), (h4, .inl (cC, 40, .inl z1.2.2.2.2.2.1)), (h5, .inl (cI, 40, .inl z1.2.2.2.2.2.2.1))] := hD.sub [0, 1, 2, 3, 4, 5] (by decide) rfl
  refine my_bz_eq (x := z1.1) (tgt := 11) hx hb dX6_tail_6 (by decide) (fun c2 => ?_) (fun c2 => ?_)
  · rw [if_pos c2] at hf
    refine lv_aload_n hx hb dX6_tail_11 rfl (lv_at hl 0 rfl) ?_
    refine va_get (D := D) (ci := 5) (v := .ref h1) (C := RX6) (T := TX6) (N := 8) hx hb hts q2 hown hK hP 0 rfl rfl 0 (by decide) q1 (fun _ h9 => h9) rfl dX6_tail_12 ?_
    refine lv_iload_n hx hb dX6_tail_15 rfl (lv_at hl 1 rfl) ?_
    obtain ⟨g3, hf⟩ := og_e hf
    refine va_lald hx hb hK hP 1 2 rfl rfl g3 dX6_tail_16 ?_
    refine my_callPl (As := [.long (z1.2.1 a0.toNatClampNeg)]) (n := 1) (rest := []) ⟨hx, hb, hml, hown, hts⟩ (m_X6_size l (z1.2.1 a0.toNatClampNeg) _ rfl) gX6_tail_X6_size rfl ⟨rfl, rfl⟩ (by decide +kernel) ⟨Nat.le_of_ble_eq_true rfl, Nat.le_of_ble_eq_true rfl⟩ ⟨Nat.le_of_ble_eq_true rfl, Nat.le_of_ble_eq_true rfl⟩ hl.1 rfl rfl (Nat.le_of_ble_eq_true rfl) dX6_tail_17 ?_
    obtain ⟨r4, er4, hf⟩ := ob_e hf
    refine my_callPi (As := [.long (f_X6_size (z1.2.1 a0.toNatClampNeg))]) (n := 1) (rest := []) ⟨hx, hb, hml, hown, hts⟩ (m_X6_tailOf l (f_X6_size (z1.2.1 a0.toNatClampNeg)) _ er4) gX6_tail_X6_tailOf rfl ⟨rfl, rfl⟩ (by decide +kernel) ⟨Nat.le_of_ble_eq_true rfl, Nat.le_of_ble_eq_true rfl⟩ ⟨Nat.le_of_ble_eq_true rfl, Nat.le_of_ble_eq_true rfl⟩ hl.1 rfl rfl (Nat.le_of_ble_eq_true rfl) dX6_tail_20 ?_
    have hP9 : va_P D vwCl (wM cC cI cJ h0 h1 h2 h3 h4 h5 z1.2) _ := hP
    have hD9 : va_D A (wM cC cI cJ h0 h1 h2 h3 h4 h5 z1.2) := hD
    have hf := Option.some.inj hf
    have hf1 := congrArg Prod.fst hf
    have hf2 := congrArg Prod.snd hf
    exact W.iret (v := r4) hx hb hr (fun t ht hW => ⟨⟨r4, z1.2, rfl, ⟨hf1, hf2⟩, by rw [ht]; exact hP9, va_K.moved hW.alike hK, hD9⟩, hS.F ht⟩) hS.2.2 dX6_tail_23
  · rw [if_neg c2] at hf
    refine lv_iconst (v := 0) hx hb dX6_tail_9 (by decide) ?_
    have hP9 : va_P D vwCl (wM cC cI cJ h0 h1 h2 h3 h4 h5 z1.2) _ := hP
    have hD9 : va_D A (wM cC cI cJ h0 h1 h2 h3 h4 h5 z1.2) := hD
    have hf := Option.some.inj hf
    have hf1 := congrArg Prod.fst hf
    have hf2 := congrArg Prod.snd hf
    exact W.iret (v := 0) hx hb hr (fun t ht hW => ⟨⟨0, z1.2, rfl, ⟨hf1, hf2⟩, by rw [ht]; exact hP9, va_K.moved hW.alike hK, hD9⟩, hS.F ht⟩) hS.2.2 dX6_tail_10

set_option maxHeartbeats 4000000 in
set_option maxRecDepth 100000 in
theorem m_X6_power (l : Launch) (D : va_G) (cC cI cJ : ClassId) (h0 h1 h2 h3 h4 h5 : Nat) (u : StM) (sz : Nat) (a0 : Int32) (a1 : Int32) (res : Int64 × StM) (hf : f_X6_power u a0 a1 = some res) : Met l yX6_power wsX6_power rmX6_power (my_PcM D vwCl (KT cC cI cJ) sz (wM cC cI cJ h0 h1 h2 h3 h4 h5 u) [.ref h0, .int a0, .int a1]) (va_Ql (fun r v => r = res.1 ∧ v = res.2) (my_B D vwCl (KT cC cI cJ) (va_A (wM cC cI cJ h0 h1 h2 h3 h4 h5 u) sz) (fun v : StM => (wM cC cI cJ h0 h1 h2 h3 h4 h5 v))) (va_A (wM cC cI cJ h0 h1 h2 h3 h4 h5 u) sz)) 0 0 (va_A (wM cC cI cJ h0 h1 h2 h3 h4 h5 u) sz) := by
  refine Met.ofW (cc := cX6_power) (maxL := 3) (ret := (some .long)) (by decide) rfl ?_
  intro p e s m args below meth c s₁ B hml hv
  obtain ⟨rfl, hsz, hP, hK, hD0⟩ := hv
  have hx := B.exec
  have hb := B.bytes
  have hr := B.returns
  have hts : ∀ w ∈ wsX6_power, w.before ([.ref h0, .int a0, .int a1] : List Value).toArray s = true := atoms_spec (ws := wsX6_power) B.pre
  have hown : s.vm.findClass RX6 = some m.cls := findClass_of_methodNamed B.named
  have hlk : meth.locks = false := B.notSynchronized
  subst hsz
  have hD := hD0.self (sz := s.heap.size)
  generalize hAe : va_A (wM cC cI cJ h0 h1 h2 h3 h4 h5 u) s.heap.size = A at hD ⊢
  have hA : ∀ q : Nat, s.heap.size ≤ q → A q := fun q h => by rw [← hAe]; exact Or.inr h
  have hS : va_S A s.heap s.heap [] := va_S.rf
  have hP : va_P D vwCl [(h0, .inr (5, [.ref h1, .ref h2, .ref h3, .int u.2.2.2.1, .ref h4, .ref h5, .int u.2.2.2.2.2.2.1, .int u.2.2.2.2.2.2.2])), (h1, .inl (cJ, 8, .inr (.inl u.1))), (h2, .inl (cI, 8, .inl u.2.1)), (h3, .inl (cJ, 8, .inr (.inl u.2.2.1))), (h4, .inl (cC, 40, .inl u.2.2.2.2.1)), (h5, .inl (cI, 40, .inl u.2.2.2.2.2.1))] s.heap := hP
  have hD : va_D A [(h0, .inr (5, [.ref h1, .ref h2, .ref h3, .int u.2.2.2.1, .ref h4, .ref h5, .int u.2.2.2.2.2.2.1, .int u.2.2.2.2.2.2.2])), (h1, .inl (cJ, 8, .inr (.inl u.1))), (h2, .inl (cI, 8, .inl u.2.1)), (h3, .inl (cJ, 8, .inr (.inl u.2.2.1))), (h4, .inl (cC, 40, .inl u.2.2.2.2.1)), (h5, .inl (cI, 40, .inl u.2.2.2.2.2.1))] := hD
  have q1 := hts (.fieldLink RX6 9 "DoublelineModel" "codes" "[J") (by decide +kernel)
  have q2 : ∀ w ∈ u_ws RX6 TX6 8, w ∈ wsX6_power := by decide +kernel
  have hl := lv_entry ([.ref h0, .int a0, .int a1]) (n := 3) (Nat.le_of_ble_eq_true rfl)
  rw [lg_entry_eq]
  generalize (lg_sl ([.ref h0, .int a0, .int a1]) ++ List.replicate (3 - (lg_sl ([.ref h0, .int a0, .int a1])).length) Slot.unset).toArray = ls at hl ⊢
  have hl : lv_has ls 3 [(0, .ref h0), (1, .int a0), (2, .int a1)] := hl
  unfold f_X6_power at hf
  refine lv_aload_n hx hb dX6_power_0 rfl (lv_at hl 0 rfl) ?_
  refine lv_iload_n hx hb dX6_power_1 rfl (lv_at hl 1 rfl) ?_
  refine lv_iload_n hx hb dX6_power_2 rfl (lv_at hl 2 rfl) ?_
  obtain ⟨z1, ez1, hf⟩ := ob_e hf
  refine my_callMi (As := [.int a0, .int a1]) (n := 2) (rest := []) (wr := []) ⟨hx, hb, hml, hown, hts⟩ hK hP hD hS hA [0, 1, 2, 3, 4, 5] [] rfl rfl (by decide) (by decide) (by decide) (m_X6_lacksSize l D cC cI cJ h0 h1 h2 h3 h4 h5 u s.heap.size a0 a1 _ ez1) gX6_power_X6_lacksSize rfl ⟨rfl, rfl⟩ (ci := 5) rfl rfl (by decide +kernel) ⟨Nat.le_of_ble_eq_true rfl, Nat.le_of_ble_eq_true rfl⟩ ⟨Nat.le_of_ble_eq_true rfl, Nat.le_of_ble_eq_true rfl⟩ hl.1 rfl rfl (Nat.le_of_ble_eq_true rfl) dX6_power_3 (fun r9 u9 H locs hw hP hD hS => ?_)
  obtain ⟨rfl, rfl⟩ := hw
  have hP : va_P D vwCl [(h0, .inr (5, [.ref h1, .ref h2, .ref h3, .int z1.2.2.2.2.1, .ref h4, .ref h5, .int z1.2.2.2.2.2.2.2.1, .int z1.2.2.2.2.2.2.2.2])), (h1, .inl (cJ, 8, .inr (.inl z1.2.1))), (h2, .inl (cI, 8, .inl z1.2.2.1)), (h3, .inl (cJ, 8, .inr (.inl z1.2.2.2.1))), (h4, .inl (cC, 40, .inl z1.2.2.2.2.2.1)), (h5, .inl (cI, 40, .inl z1.2.2.2.2.2.2.1))] H := hP.sub [0, 1, 2, 3, 4, 5] rfl
  have hD : va_D A [(h0, .inr (5, [.ref h1, .ref h2, .ref h3, .int z1.2.2.2.2.1, .ref h4, .ref h5, .int z1.2.2.2.2.2.2.2.1, .int z1.2.2.2.2.2.2.2.2])), (h1, .inl (cJ, 8, .inr (.inl z1.2.1))), (h2, .inl (cI, 8, .inl z1.2.2.1)), (h3, .inl (cJ, 8, .inr (.inl z1.2.2.2.1))), (h4, .inl (cC, 40, .inl z1.2.2.2.2.2.1)), (h5, .inl (cI, 40, .inl z1.2.2.2.2.2.2.1))] := hD.sub [0, 1, 2, 3, 4, 5] (by decide) rfl
  refine my_bz_eq (x := z1.1) (tgt := 11) hx hb dX6_power_6 (by decide) (fun c2 => ?_) (fun c2 => ?_)
  · rw [if_pos c2] at hf
    refine lv_aload_n hx hb dX6_power_11 rfl (lv_at hl 0 rfl) ?_
    refine lv_iload_n hx hb dX6_power_12 rfl (lv_at hl 2 rfl) ?_
    refine lv_lconst (v := 1) hx hb dX6_power_13 (by decide) ?_
    refine lv_aload_n hx hb dX6_power_14 rfl (lv_at hl 0 rfl) ?_
    refine va_get (D := D) (ci := 5) (v := .ref h1) (C := RX6) (T := TX6) (N := 8) hx hb hts q2 hown hK hP 0 rfl rfl 0 (by decide) q1 (fun _ h9 => h9) rfl dX6_power_15 ?_
    refine lv_iload_n hx hb dX6_power_18 rfl (lv_at hl 1 rfl) ?_
    obtain ⟨g3, hf⟩ := og_e hf
    refine va_lald hx hb hK hP 1 2 rfl rfl g3 dX6_power_19 ?_
    refine my_callPl (As := [.long (z1.2.1 a0.toNatClampNeg)]) (n := 1) (rest := [.long 1, .int a1, .ref h0]) ⟨hx, hb, hml, hown, hts⟩ (m_X6_size l (z1.2.1 a0.toNatClampNeg) _ rfl) gX6_power_X6_size rfl ⟨rfl, rfl⟩ (by decide +kernel) ⟨Nat.le_of_ble_eq_true rfl, Nat.le_of_ble_eq_true rfl⟩ ⟨Nat.le_of_ble_eq_true rfl, Nat.le_of_ble_eq_true rfl⟩ hl.1 rfl rfl (Nat.le_of_ble_eq_true rfl) dX6_power_20 ?_
    obtain ⟨r4, er4, hf⟩ := ob_e hf
    refine my_callPi (As := [.long (f_X6_size (z1.2.1 a0.toNatClampNeg))]) (n := 1) (rest := [.long 1, .int a1, .ref h0]) ⟨hx, hb, hml, hown, hts⟩ (m_X6_leadOf l (f_X6_size (z1.2.1 a0.toNatClampNeg)) _ er4) gX6_power_X6_leadOf rfl ⟨rfl, rfl⟩ (by decide +kernel) ⟨Nat.le_of_ble_eq_true rfl, Nat.le_of_ble_eq_true rfl⟩ ⟨Nat.le_of_ble_eq_true rfl, Nat.le_of_ble_eq_true rfl⟩ hl.1 rfl rfl (Nat.le_of_ble_eq_true rfl) dX6_power_23 ?_
    refine lv_sipush (v := 1074) hx hb dX6_power_26 (by decide) ?_
    refine lv_iadd hx hb dX6_power_29 ?_
    obtain ⟨r5, er5, hf⟩ := ob_e hf
    refine my_callPl (As := [.long 1, .int (r4 + 1074)]) (n := 2) (rest := [.int a1, .ref h0]) ⟨hx, hb, hml, hown, hts⟩ (m_X6_made l 1 (r4 + 1074) _ er5) gX6_power_X6_made rfl ⟨rfl, rfl⟩ (by decide +kernel) ⟨Nat.le_of_ble_eq_true rfl, Nat.le_of_ble_eq_true rfl⟩ ⟨Nat.le_of_ble_eq_true rfl, Nat.le_of_ble_eq_true rfl⟩ hl.1 rfl rfl (Nat.le_of_ble_eq_true rfl) dX6_power_30 ?_
    obtain ⟨z6, ez6, hf⟩ := ob_e hf
    refine my_callMl (As := [.int a1, .long r5]) (n := 2) (rest := []) (wr := []) ⟨hx, hb, hml, hown, hts⟩ hK hP hD hS hA [0, 1, 2, 3, 4, 5] [] rfl rfl (by decide) (by decide) (by decide) (m_X6_becomes l D cC cI cJ h0 h1 h2 h3 h4 h5 z1.2 H.size a1 r5 _ ez6) gX6_power_X6_becomes rfl ⟨rfl, rfl⟩ (ci := 5) rfl rfl (by decide +kernel) ⟨Nat.le_of_ble_eq_true rfl, Nat.le_of_ble_eq_true rfl⟩ ⟨Nat.le_of_ble_eq_true rfl, Nat.le_of_ble_eq_true rfl⟩ hl.1 rfl rfl (Nat.le_of_ble_eq_true rfl) dX6_power_33 (fun r9 u9 H locs hw hP hD hS => ?_)
    obtain ⟨rfl, rfl⟩ := hw
    have hP : va_P D vwCl [(h0, .inr (5, [.ref h1, .ref h2, .ref h3, .int z6.2.2.2.2.1, .ref h4, .ref h5, .int z6.2.2.2.2.2.2.2.1, .int z6.2.2.2.2.2.2.2.2])), (h1, .inl (cJ, 8, .inr (.inl z6.2.1))), (h2, .inl (cI, 8, .inl z6.2.2.1)), (h3, .inl (cJ, 8, .inr (.inl z6.2.2.2.1))), (h4, .inl (cC, 40, .inl z6.2.2.2.2.2.1)), (h5, .inl (cI, 40, .inl z6.2.2.2.2.2.2.1))] H := hP.sub [0, 1, 2, 3, 4, 5] rfl
    have hD : va_D A [(h0, .inr (5, [.ref h1, .ref h2, .ref h3, .int z6.2.2.2.2.1, .ref h4, .ref h5, .int z6.2.2.2.2.2.2.2.1, .int z6.2.2.2.2.2.2.2.2])), (h1, .inl (cJ, 8, .inr (.inl z6.2.1))), (h2, .inl (cI, 8, .inl z6.2.2.1)), (h3, .inl (cJ, 8, .inr (.inl z6.2.2.2.1))), (h4, .inl (cC, 40, .inl z6.2.2.2.2.2.1)), (h5, .inl (cI, 40, .inl z6.2.2.2.2.2.2.1))] := hD.sub [0, 1, 2, 3, 4, 5] (by decide) rfl
    have hP9 : va_P D vwCl (wM cC cI cJ h0 h1 h2 h3 h4 h5 z6.2) _ := hP
    have hD9 : va_D A (wM cC cI cJ h0 h1 h2 h3 h4 h5 z6.2) := hD
    have hf := Option.some.inj hf
    have hf1 := congrArg Prod.fst hf
    have hf2 := congrArg Prod.snd hf
    exact W.lret (v := z6.1) hx hb hr (fun t ht hW => ⟨⟨z6.1, z6.2, rfl, ⟨hf1, hf2⟩, by rw [ht]; exact hP9, va_K.moved hW.alike hK, hD9⟩, hS.F ht⟩) hS.2.2 dX6_power_36
  · rw [if_neg c2] at hf
    refine lv_lconst (v := 0) hx hb dX6_power_9 (by decide) ?_
    have hP9 : va_P D vwCl (wM cC cI cJ h0 h1 h2 h3 h4 h5 z1.2) _ := hP
    have hD9 : va_D A (wM cC cI cJ h0 h1 h2 h3 h4 h5 z1.2) := hD
    have hf := Option.some.inj hf
    have hf1 := congrArg Prod.fst hf
    have hf2 := congrArg Prod.snd hf
    exact W.lret (v := 0) hx hb hr (fun t ht hW => ⟨⟨0, z1.2, rfl, ⟨hf1, hf2⟩, by rw [ht]; exact hP9, va_K.moved hW.alike hK, hD9⟩, hS.F ht⟩) hS.2.2 dX6_power_10

set_option maxHeartbeats 4000000 in
set_option maxRecDepth 100000 in
theorem m_X6_grains (l : Launch) (D : va_G) (cC cI cJ : ClassId) (h0 h1 h2 h3 h4 h5 : Nat) (u : StM) (sz : Nat) (a0 : Int32) (a1 : Int32) (res : Int32 × StM) (hf : f_X6_grains u a0 a1 = some res) : Met l yX6_grains wsX6_grains rmX6_grains (my_PcM D vwCl (KT cC cI cJ) sz (wM cC cI cJ h0 h1 h2 h3 h4 h5 u) [.ref h0, .int a0, .int a1]) (va_Qi (fun r v => r = res.1 ∧ v = res.2) (my_B D vwCl (KT cC cI cJ) (va_A (wM cC cI cJ h0 h1 h2 h3 h4 h5 u) sz) (fun v : StM => (wM cC cI cJ h0 h1 h2 h3 h4 h5 v))) (va_A (wM cC cI cJ h0 h1 h2 h3 h4 h5 u) sz)) 0 0 (va_A (wM cC cI cJ h0 h1 h2 h3 h4 h5 u) sz) := by
  refine Met.ofW (cc := cX6_grains) (maxL := 3) (ret := (some .int)) (by decide) rfl ?_
  intro p e s m args below meth c s₁ B hml hv
  obtain ⟨rfl, hsz, hP, hK, hD0⟩ := hv
  have hx := B.exec
  have hb := B.bytes
  have hr := B.returns
  have hts : ∀ w ∈ wsX6_grains, w.before ([.ref h0, .int a0, .int a1] : List Value).toArray s = true := atoms_spec (ws := wsX6_grains) B.pre
  have hown : s.vm.findClass RX6 = some m.cls := findClass_of_methodNamed B.named
  have hlk : meth.locks = false := B.notSynchronized
  subst hsz
  have hD := hD0.self (sz := s.heap.size)
  generalize hAe : va_A (wM cC cI cJ h0 h1 h2 h3 h4 h5 u) s.heap.size = A at hD ⊢
  have hA : ∀ q : Nat, s.heap.size ≤ q → A q := fun q h => by rw [← hAe]; exact Or.inr h
  have hS : va_S A s.heap s.heap [] := va_S.rf
  have hP : va_P D vwCl [(h0, .inr (5, [.ref h1, .ref h2, .ref h3, .int u.2.2.2.1, .ref h4, .ref h5, .int u.2.2.2.2.2.2.1, .int u.2.2.2.2.2.2.2])), (h1, .inl (cJ, 8, .inr (.inl u.1))), (h2, .inl (cI, 8, .inl u.2.1)), (h3, .inl (cJ, 8, .inr (.inl u.2.2.1))), (h4, .inl (cC, 40, .inl u.2.2.2.2.1)), (h5, .inl (cI, 40, .inl u.2.2.2.2.2.1))] s.heap := hP
  have hD : va_D A [(h0, .inr (5, [.ref h1, .ref h2, .ref h3, .int u.2.2.2.1, .ref h4, .ref h5, .int u.2.2.2.2.2.2.1, .int u.2.2.2.2.2.2.2])), (h1, .inl (cJ, 8, .inr (.inl u.1))), (h2, .inl (cI, 8, .inl u.2.1)), (h3, .inl (cJ, 8, .inr (.inl u.2.2.1))), (h4, .inl (cC, 40, .inl u.2.2.2.2.1)), (h5, .inl (cI, 40, .inl u.2.2.2.2.2.1))] := hD
  have q1 := hts (.constant RX6 154 (1000000)) (by decide +kernel)
  have q2 := hts (.fieldLink RX6 9 "DoublelineModel" "codes" "[J") (by decide +kernel)
  have q3 : ∀ w ∈ u_ws RX6 TX6 8, w ∈ wsX6_grains := by decide +kernel
  have hl := lv_entry ([.ref h0, .int a0, .int a1]) (n := 3) (Nat.le_of_ble_eq_true rfl)
  rw [lg_entry_eq]
  generalize (lg_sl ([.ref h0, .int a0, .int a1]) ++ List.replicate (3 - (lg_sl ([.ref h0, .int a0, .int a1])).length) Slot.unset).toArray = ls at hl ⊢
  have hl : lv_has ls 3 [(0, .ref h0), (1, .int a0), (2, .int a1)] := hl
  unfold f_X6_grains at hf
  refine lv_aload_n hx hb dX6_grains_0 rfl (lv_at hl 0 rfl) ?_
  refine lv_iload_n hx hb dX6_grains_1 rfl (lv_at hl 1 rfl) ?_
  obtain ⟨z1, ez1, hf⟩ := ob_e hf
  refine my_callMi (As := [.int a0]) (n := 1) (rest := []) (wr := []) ⟨hx, hb, hml, hown, hts⟩ hK hP hD hS hA [0, 1, 2, 3, 4, 5] [] rfl rfl (by decide) (by decide) (by decide) (m_X6_lacks l D cC cI cJ h0 h1 h2 h3 h4 h5 u s.heap.size a0 _ ez1) gX6_grains_X6_lacks rfl ⟨rfl, rfl⟩ (ci := 5) rfl rfl (by decide +kernel) ⟨Nat.le_of_ble_eq_true rfl, Nat.le_of_ble_eq_true rfl⟩ ⟨Nat.le_of_ble_eq_true rfl, Nat.le_of_ble_eq_true rfl⟩ hl.1 rfl rfl (Nat.le_of_ble_eq_true rfl) dX6_grains_2 (fun r9 u9 H locs hw hP hD hS => ?_)
  obtain ⟨rfl, rfl⟩ := hw
  have hP : va_P D vwCl [(h0, .inr (5, [.ref h1, .ref h2, .ref h3, .int z1.2.2.2.2.1, .ref h4, .ref h5, .int z1.2.2.2.2.2.2.2.1, .int z1.2.2.2.2.2.2.2.2])), (h1, .inl (cJ, 8, .inr (.inl z1.2.1))), (h2, .inl (cI, 8, .inl z1.2.2.1)), (h3, .inl (cJ, 8, .inr (.inl z1.2.2.2.1))), (h4, .inl (cC, 40, .inl z1.2.2.2.2.2.1)), (h5, .inl (cI, 40, .inl z1.2.2.2.2.2.2.1))] H := hP.sub [0, 1, 2, 3, 4, 5] rfl
  have hD : va_D A [(h0, .inr (5, [.ref h1, .ref h2, .ref h3, .int z1.2.2.2.2.1, .ref h4, .ref h5, .int z1.2.2.2.2.2.2.2.1, .int z1.2.2.2.2.2.2.2.2])), (h1, .inl (cJ, 8, .inr (.inl z1.2.1))), (h2, .inl (cI, 8, .inl z1.2.2.1)), (h3, .inl (cJ, 8, .inr (.inl z1.2.2.2.1))), (h4, .inl (cC, 40, .inl z1.2.2.2.2.2.1)), (h5, .inl (cI, 40, .inl z1.2.2.2.2.2.2.1))] := hD.sub [0, 1, 2, 3, 4, 5] (by decide) rfl
  refine my_bz_ne (x := z1.1) (tgt := 48) hx hb dX6_grains_5 (by decide) (fun c2 => ?_) (fun c2 => ?_)
  · rw [if_neg c2] at hf
    refine lv_iconst (v := 0) hx hb dX6_grains_48 (by decide) ?_
    have hP9 : va_P D vwCl (wM cC cI cJ h0 h1 h2 h3 h4 h5 z1.2) _ := hP
    have hD9 : va_D A (wM cC cI cJ h0 h1 h2 h3 h4 h5 z1.2) := hD
    have hf := Option.some.inj hf
    have hf1 := congrArg Prod.fst hf
    have hf2 := congrArg Prod.snd hf
    exact W.iret (v := 0) hx hb hr (fun t ht hW => ⟨⟨0, z1.2, rfl, ⟨hf1, hf2⟩, by rw [ht]; exact hP9, va_K.moved hW.alike hK, hD9⟩, hS.F ht⟩) hS.2.2 dX6_grains_49
  · rw [if_pos c2] at hf
    refine lv_aload_n hx hb dX6_grains_8 rfl (lv_at hl 0 rfl) ?_
    refine lv_iload_n hx hb dX6_grains_9 rfl (lv_at hl 2 rfl) ?_
    refine lv_iconst (v := 1) hx hb dX6_grains_10 (by decide) ?_
    refine lv_ldc (v := 1000000) hx hb hown q1 dX6_grains_11 ?_
    refine my_callPi (As := [.int a1, .int 1, .int 1000000]) (n := 3) (rest := [.ref h0]) ⟨hx, hb, hml, hown, hts⟩ (m_X6_in l a1 1 1000000 _ rfl) gX6_grains_X6_in rfl ⟨rfl, rfl⟩ (by decide +kernel) ⟨Nat.le_of_ble_eq_true rfl, Nat.le_of_ble_eq_true rfl⟩ ⟨Nat.le_of_ble_eq_true rfl, Nat.le_of_ble_eq_true rfl⟩ hl.1 rfl rfl (Nat.le_of_ble_eq_true rfl) dX6_grains_13 ?_
    refine lv_iconst (v := 2) hx hb dX6_grains_16 (by decide) ?_
    refine my_callMi (As := [.int (b2i (f_X6_in a1 1 1000000)), .int 2]) (n := 2) (rest := []) (wr := []) ⟨hx, hb, hml, hown, hts⟩ hK hP hD hS hA [0, 1, 2, 3, 4, 5] [] rfl rfl (by decide) (by decide) (by decide) (m_X6_no l D cC cI cJ h0 h1 h2 h3 h4 h5 z1.2 H.size (f_X6_in a1 1 1000000) 2 _ (no_b z1.2 (f_X6_in a1 1 1000000) 2)) gX6_grains_X6_no rfl ⟨rfl, rfl⟩ (ci := 5) rfl rfl (by decide +kernel) ⟨Nat.le_of_ble_eq_true rfl, Nat.le_of_ble_eq_true rfl⟩ ⟨Nat.le_of_ble_eq_true rfl, Nat.le_of_ble_eq_true rfl⟩ hl.1 rfl rfl (Nat.le_of_ble_eq_true rfl) dX6_grains_17 (fun r9 u9 H locs hw hP hD hS => ?_)
    obtain ⟨rfl, rfl⟩ := hw
    have hP : va_P D vwCl [(h0, .inr (5, [.ref h1, .ref h2, .ref h3, .int z1.2.2.2.2.1, .ref h4, .ref h5, .int z1.2.2.2.2.2.2.2.1, .int (if (f_X6_in a1 1 1000000) = true then 0 else 2)])), (h1, .inl (cJ, 8, .inr (.inl z1.2.1))), (h2, .inl (cI, 8, .inl z1.2.2.1)), (h3, .inl (cJ, 8, .inr (.inl z1.2.2.2.1))), (h4, .inl (cC, 40, .inl z1.2.2.2.2.2.1)), (h5, .inl (cI, 40, .inl z1.2.2.2.2.2.2.1))] H := hP.sub [0, 1, 2, 3, 4, 5] rfl
    have hD : va_D A [(h0, .inr (5, [.ref h1, .ref h2, .ref h3, .int z1.2.2.2.2.1, .ref h4, .ref h5, .int z1.2.2.2.2.2.2.2.1, .int (if (f_X6_in a1 1 1000000) = true then 0 else 2)])), (h1, .inl (cJ, 8, .inr (.inl z1.2.1))), (h2, .inl (cI, 8, .inl z1.2.2.1)), (h3, .inl (cJ, 8, .inr (.inl z1.2.2.2.1))), (h4, .inl (cC, 40, .inl z1.2.2.2.2.2.1)), (h5, .inl (cI, 40, .inl z1.2.2.2.2.2.2.1))] := hD.sub [0, 1, 2, 3, 4, 5] (by decide) rfl
    refine my_bz_ne (x := (!(f_X6_in a1 1 1000000))) (tgt := 48) hx hb dX6_grains_20 (by decide) (fun c3 => ?_) (fun c3 => ?_)
    · rw [if_neg c3] at hf
      refine lv_iconst (v := 0) hx hb dX6_grains_48 (by decide) ?_
      have hP9 : va_P D vwCl (wM cC cI cJ h0 h1 h2 h3 h4 h5 (z1.2.1, (z1.2.2.1, (z1.2.2.2.1, (z1.2.2.2.2.1, (z1.2.2.2.2.2.1, (z1.2.2.2.2.2.2.1, (z1.2.2.2.2.2.2.2.1, (if (f_X6_in a1 1 1000000) = true then 0 else 2))))))))) _ := hP
      have hD9 : va_D A (wM cC cI cJ h0 h1 h2 h3 h4 h5 (z1.2.1, (z1.2.2.1, (z1.2.2.2.1, (z1.2.2.2.2.1, (z1.2.2.2.2.2.1, (z1.2.2.2.2.2.2.1, (z1.2.2.2.2.2.2.2.1, (if (f_X6_in a1 1 1000000) = true then 0 else 2))))))))) := hD
      have hf := Option.some.inj hf
      have hf1 := congrArg Prod.fst hf
      have hf2 := congrArg Prod.snd hf
      exact W.iret (v := 0) hx hb hr (fun t ht hW => ⟨⟨0, (z1.2.1, (z1.2.2.1, (z1.2.2.2.1, (z1.2.2.2.2.1, (z1.2.2.2.2.2.1, (z1.2.2.2.2.2.2.1, (z1.2.2.2.2.2.2.2.1, (if (f_X6_in a1 1 1000000) = true then 0 else 2)))))))), rfl, ⟨hf1, hf2⟩, by rw [ht]; exact hP9, va_K.moved hW.alike hK, hD9⟩, hS.F ht⟩) hS.2.2 dX6_grains_49
    · rw [if_pos c3] at hf
      refine lv_aload_n hx hb dX6_grains_23 rfl (lv_at hl 0 rfl) ?_
      refine lv_aload_n hx hb dX6_grains_24 rfl (lv_at hl 0 rfl) ?_
      refine va_get (D := D) (ci := 5) (v := .ref h1) (C := RX6) (T := TX6) (N := 8) hx hb hts q3 hown hK hP 0 rfl rfl 0 (by decide) q2 (fun _ h9 => h9) rfl dX6_grains_25 ?_
      refine lv_iload_n hx hb dX6_grains_28 rfl (lv_at hl 1 rfl) ?_
      obtain ⟨g4, hf⟩ := og_e hf
      refine va_lald hx hb hK hP 1 2 rfl rfl g4 dX6_grains_29 ?_
      refine my_callPi (As := [.long (z1.2.1 a0.toNatClampNeg)]) (n := 1) (rest := [.ref h0]) ⟨hx, hb, hml, hown, hts⟩ (m_X6_isEnd l (z1.2.1 a0.toNatClampNeg) _ rfl) gX6_grains_X6_isEnd rfl ⟨rfl, rfl⟩ (by decide +kernel) ⟨Nat.le_of_ble_eq_true rfl, Nat.le_of_ble_eq_true rfl⟩ ⟨Nat.le_of_ble_eq_true rfl, Nat.le_of_ble_eq_true rfl⟩ hl.1 rfl rfl (Nat.le_of_ble_eq_true rfl) dX6_grains_30 ?_
      refine my_bz_ne (x := (f_X6_isEnd (z1.2.1 a0.toNatClampNeg))) (tgt := 40) hx hb dX6_grains_33 (by decide) (fun c5 => ?_) (fun c5 => ?_)
      · rw [if_neg c5] at hf
        refine lv_iconst (v := 0) hx hb dX6_grains_40 (by decide) ?_
        refine lv_iconst (v := 3) hx hb dX6_grains_41 (by decide) ?_
        refine my_callMi (As := [.int (b2i false), .int 3]) (n := 2) (rest := []) (wr := []) ⟨hx, hb, hml, hown, hts⟩ hK hP hD hS hA [0, 1, 2, 3, 4, 5] [] rfl rfl (by decide) (by decide) (by decide) (m_X6_no l D cC cI cJ h0 h1 h2 h3 h4 h5 (z1.2.1, (z1.2.2.1, (z1.2.2.2.1, (z1.2.2.2.2.1, (z1.2.2.2.2.2.1, (z1.2.2.2.2.2.2.1, (z1.2.2.2.2.2.2.2.1, (if (f_X6_in a1 1 1000000) = true then 0 else 2)))))))) H.size false 3 _ (no_f (z1.2.1, (z1.2.2.1, (z1.2.2.2.1, (z1.2.2.2.2.1, (z1.2.2.2.2.2.1, (z1.2.2.2.2.2.2.1, (z1.2.2.2.2.2.2.2.1, (if (f_X6_in a1 1 1000000) = true then 0 else 2)))))))) 3)) gX6_grains_X6_no rfl ⟨rfl, rfl⟩ (ci := 5) rfl rfl (by decide +kernel) ⟨Nat.le_of_ble_eq_true rfl, Nat.le_of_ble_eq_true rfl⟩ ⟨Nat.le_of_ble_eq_true rfl, Nat.le_of_ble_eq_true rfl⟩ hl.1 rfl rfl (Nat.le_of_ble_eq_true rfl) dX6_grains_42 (fun r9 u9 H locs hw hP hD hS => ?_)
        obtain ⟨rfl, rfl⟩ := hw
        have hP : va_P D vwCl [(h0, .inr (5, [.ref h1, .ref h2, .ref h3, .int z1.2.2.2.2.1, .ref h4, .ref h5, .int z1.2.2.2.2.2.2.2.1, .int 3])), (h1, .inl (cJ, 8, .inr (.inl z1.2.1))), (h2, .inl (cI, 8, .inl z1.2.2.1)), (h3, .inl (cJ, 8, .inr (.inl z1.2.2.2.1))), (h4, .inl (cC, 40, .inl z1.2.2.2.2.2.1)), (h5, .inl (cI, 40, .inl z1.2.2.2.2.2.2.1))] H := hP.sub [0, 1, 2, 3, 4, 5] rfl
        have hD : va_D A [(h0, .inr (5, [.ref h1, .ref h2, .ref h3, .int z1.2.2.2.2.1, .ref h4, .ref h5, .int z1.2.2.2.2.2.2.2.1, .int 3])), (h1, .inl (cJ, 8, .inr (.inl z1.2.1))), (h2, .inl (cI, 8, .inl z1.2.2.1)), (h3, .inl (cJ, 8, .inr (.inl z1.2.2.2.1))), (h4, .inl (cC, 40, .inl z1.2.2.2.2.2.1)), (h5, .inl (cI, 40, .inl z1.2.2.2.2.2.2.1))] := hD.sub [0, 1, 2, 3, 4, 5] (by decide) rfl
        refine my_bz_eq (x := true) (tgt := 50) hx hb dX6_grains_45 (by decide) (fun h9 => absurd h9 (by decide)) (fun _ => ?_)
        refine lv_iconst (v := 0) hx hb dX6_grains_48 (by decide) ?_
        have hP9 : va_P D vwCl (wM cC cI cJ h0 h1 h2 h3 h4 h5 (z1.2.1, (z1.2.2.1, (z1.2.2.2.1, (z1.2.2.2.2.1, (z1.2.2.2.2.2.1, (z1.2.2.2.2.2.2.1, (z1.2.2.2.2.2.2.2.1, 3)))))))) _ := hP
        have hD9 : va_D A (wM cC cI cJ h0 h1 h2 h3 h4 h5 (z1.2.1, (z1.2.2.1, (z1.2.2.2.1, (z1.2.2.2.2.1, (z1.2.2.2.2.2.1, (z1.2.2.2.2.2.2.1, (z1.2.2.2.2.2.2.2.1, 3)))))))) := hD
        have hf := Option.some.inj hf
        have hf1 := congrArg Prod.fst hf
        have hf2 := congrArg Prod.snd hf
        exact W.iret (v := 0) hx hb hr (fun t ht hW => ⟨⟨0, (z1.2.1, (z1.2.2.1, (z1.2.2.2.1, (z1.2.2.2.2.1, (z1.2.2.2.2.2.1, (z1.2.2.2.2.2.2.1, (z1.2.2.2.2.2.2.2.1, 3))))))), rfl, ⟨hf1, hf2⟩, by rw [ht]; exact hP9, va_K.moved hW.alike hK, hD9⟩, hS.F ht⟩) hS.2.2 dX6_grains_49
      · rw [if_pos c5] at hf
        refine lv_iconst (v := 1) hx hb dX6_grains_36 (by decide) ?_
        refine lv_goto (tgt := 41) hx hb dX6_grains_37 (by decide) ?_
        refine lv_iconst (v := 3) hx hb dX6_grains_41 (by decide) ?_
        refine my_callMi (As := [.int (b2i true), .int 3]) (n := 2) (rest := []) (wr := []) ⟨hx, hb, hml, hown, hts⟩ hK hP hD hS hA [0, 1, 2, 3, 4, 5] [] rfl rfl (by decide) (by decide) (by decide) (m_X6_no l D cC cI cJ h0 h1 h2 h3 h4 h5 (z1.2.1, (z1.2.2.1, (z1.2.2.2.1, (z1.2.2.2.2.1, (z1.2.2.2.2.2.1, (z1.2.2.2.2.2.2.1, (z1.2.2.2.2.2.2.2.1, (if (f_X6_in a1 1 1000000) = true then 0 else 2)))))))) H.size true 3 _ (no_t (z1.2.1, (z1.2.2.1, (z1.2.2.2.1, (z1.2.2.2.2.1, (z1.2.2.2.2.2.1, (z1.2.2.2.2.2.2.1, (z1.2.2.2.2.2.2.2.1, (if (f_X6_in a1 1 1000000) = true then 0 else 2)))))))) 3)) gX6_grains_X6_no rfl ⟨rfl, rfl⟩ (ci := 5) rfl rfl (by decide +kernel) ⟨Nat.le_of_ble_eq_true rfl, Nat.le_of_ble_eq_true rfl⟩ ⟨Nat.le_of_ble_eq_true rfl, Nat.le_of_ble_eq_true rfl⟩ hl.1 rfl rfl (Nat.le_of_ble_eq_true rfl) dX6_grains_42 (fun r9 u9 H locs hw hP hD hS => ?_)
        obtain ⟨rfl, rfl⟩ := hw
        have hP : va_P D vwCl [(h0, .inr (5, [.ref h1, .ref h2, .ref h3, .int z1.2.2.2.2.1, .ref h4, .ref h5, .int z1.2.2.2.2.2.2.2.1, .int 0])), (h1, .inl (cJ, 8, .inr (.inl z1.2.1))), (h2, .inl (cI, 8, .inl z1.2.2.1)), (h3, .inl (cJ, 8, .inr (.inl z1.2.2.2.1))), (h4, .inl (cC, 40, .inl z1.2.2.2.2.2.1)), (h5, .inl (cI, 40, .inl z1.2.2.2.2.2.2.1))] H := hP.sub [0, 1, 2, 3, 4, 5] rfl
        have hD : va_D A [(h0, .inr (5, [.ref h1, .ref h2, .ref h3, .int z1.2.2.2.2.1, .ref h4, .ref h5, .int z1.2.2.2.2.2.2.2.1, .int 0])), (h1, .inl (cJ, 8, .inr (.inl z1.2.1))), (h2, .inl (cI, 8, .inl z1.2.2.1)), (h3, .inl (cJ, 8, .inr (.inl z1.2.2.2.1))), (h4, .inl (cC, 40, .inl z1.2.2.2.2.2.1)), (h5, .inl (cI, 40, .inl z1.2.2.2.2.2.2.1))] := hD.sub [0, 1, 2, 3, 4, 5] (by decide) rfl
        refine my_bz_eq (x := false) (tgt := 50) hx hb dX6_grains_45 (by decide) (fun _ => ?_) (fun h9 => absurd h9 (by decide))
        refine lv_aload_n hx hb dX6_grains_50 rfl (lv_at hl 0 rfl) ?_
        refine va_get (D := D) (ci := 5) (v := .ref h1) (C := RX6) (T := TX6) (N := 8) hx hb hts q3 hown hK hP 0 rfl rfl 0 (by decide) q2 (fun _ h9 => h9) rfl dX6_grains_51 ?_
        refine lv_iload_n hx hb dX6_grains_54 rfl (lv_at hl 1 rfl) ?_
        obtain ⟨g6, hf⟩ := og_e hf
        refine va_lald hx hb hK hP 1 2 rfl rfl g6 dX6_grains_55 ?_
        refine lv_iload_n hx hb dX6_grains_56 rfl (lv_at hl 2 rfl) ?_
        obtain ⟨r7, er7, hf⟩ := ob_e hf
        refine my_callPl (As := [.long (z1.2.1 a0.toNatClampNeg), .int a1]) (n := 2) (rest := []) ⟨hx, hb, hml, hown, hts⟩ (m_X6_rest l (z1.2.1 a0.toNatClampNeg) a1 _ er7) gX6_grains_X6_rest rfl ⟨rfl, rfl⟩ (by decide +kernel) ⟨Nat.le_of_ble_eq_true rfl, Nat.le_of_ble_eq_true rfl⟩ ⟨Nat.le_of_ble_eq_true rfl, Nat.le_of_ble_eq_true rfl⟩ hl.1 rfl rfl (Nat.le_of_ble_eq_true rfl) dX6_grains_57 ?_
        refine lv_l2i (v := (r7.toInt32)) hx hb dX6_grains_60 rfl ?_
        have hP9 : va_P D vwCl (wM cC cI cJ h0 h1 h2 h3 h4 h5 (z1.2.1, (z1.2.2.1, (z1.2.2.2.1, (z1.2.2.2.2.1, (z1.2.2.2.2.2.1, (z1.2.2.2.2.2.2.1, (z1.2.2.2.2.2.2.2.1, 0)))))))) _ := hP
        have hD9 : va_D A (wM cC cI cJ h0 h1 h2 h3 h4 h5 (z1.2.1, (z1.2.2.1, (z1.2.2.2.1, (z1.2.2.2.2.1, (z1.2.2.2.2.2.1, (z1.2.2.2.2.2.2.1, (z1.2.2.2.2.2.2.2.1, 0)))))))) := hD
        have hf := Option.some.inj hf
        have hf1 := congrArg Prod.fst hf
        have hf2 := congrArg Prod.snd hf
        exact W.iret (v := (r7.toInt32)) hx hb hr (fun t ht hW => ⟨⟨(r7.toInt32), (z1.2.1, (z1.2.2.1, (z1.2.2.2.1, (z1.2.2.2.2.1, (z1.2.2.2.2.2.1, (z1.2.2.2.2.2.2.1, (z1.2.2.2.2.2.2.2.1, 0))))))), rfl, ⟨hf1, hf2⟩, by rw [ht]; exact hP9, va_K.moved hW.alike hK, hD9⟩, hS.F ht⟩) hS.2.2 dX6_grains_61

set_option maxHeartbeats 4000000 in
set_option maxRecDepth 100000 in
theorem m_X6_gap (l : Launch) (D : va_G) (cC cI cJ : ClassId) (h0 h1 h2 h3 h4 h5 : Nat) (u : StM) (sz : Nat) (a0 : Int32) (a1 : Int32) (a2 : Int32) (res : Int32 × StM) (hf : f_X6_gap u a0 a1 a2 = some res) : Met l yX6_gap wsX6_gap rmX6_gap (my_PcM D vwCl (KT cC cI cJ) sz (wM cC cI cJ h0 h1 h2 h3 h4 h5 u) [.ref h0, .int a0, .int a1, .int a2]) (va_Qi (fun r v => r = res.1 ∧ v = res.2) (my_B D vwCl (KT cC cI cJ) (va_A (wM cC cI cJ h0 h1 h2 h3 h4 h5 u) sz) (fun v : StM => (wM cC cI cJ h0 h1 h2 h3 h4 h5 v))) (va_A (wM cC cI cJ h0 h1 h2 h3 h4 h5 u) sz)) 0 0 (va_A (wM cC cI cJ h0 h1 h2 h3 h4 h5 u) sz) := by
  refine Met.ofW (cc := cX6_gap) (maxL := 9) (ret := (some .int)) (by decide) rfl ?_
  intro p e s m args below meth c s₁ B hml hv
  obtain ⟨rfl, hsz, hP, hK, hD0⟩ := hv
  have hx := B.exec
  have hb := B.bytes
  have hr := B.returns
  have hts : ∀ w ∈ wsX6_gap, w.before ([.ref h0, .int a0, .int a1, .int a2] : List Value).toArray s = true := atoms_spec (ws := wsX6_gap) B.pre
  have hown : s.vm.findClass RX6 = some m.cls := findClass_of_methodNamed B.named
  have hlk : meth.locks = false := B.notSynchronized
  subst hsz
  have hD := hD0.self (sz := s.heap.size)
  generalize hAe : va_A (wM cC cI cJ h0 h1 h2 h3 h4 h5 u) s.heap.size = A at hD ⊢
  have hA : ∀ q : Nat, s.heap.size ≤ q → A q := fun q h => by rw [← hAe]; exact Or.inr h
  have hS : va_S A s.heap s.heap [] := va_S.rf
  have hP : va_P D vwCl [(h0, .inr (5, [.ref h1, .ref h2, .ref h3, .int u.2.2.2.1, .ref h4, .ref h5, .int u.2.2.2.2.2.2.1, .int u.2.2.2.2.2.2.2])), (h1, .inl (cJ, 8, .inr (.inl u.1))), (h2, .inl (cI, 8, .inl u.2.1)), (h3, .inl (cJ, 8, .inr (.inl u.2.2.1))), (h4, .inl (cC, 40, .inl u.2.2.2.2.1)), (h5, .inl (cI, 40, .inl u.2.2.2.2.2.1))] s.heap := hP
  have hD : va_D A [(h0, .inr (5, [.ref h1, .ref h2, .ref h3, .int u.2.2.2.1, .ref h4, .ref h5, .int u.2.2.2.2.2.2.1, .int u.2.2.2.2.2.2.2])), (h1, .inl (cJ, 8, .inr (.inl u.1))), (h2, .inl (cI, 8, .inl u.2.1)), (h3, .inl (cJ, 8, .inr (.inl u.2.2.1))), (h4, .inl (cC, 40, .inl u.2.2.2.2.1)), (h5, .inl (cI, 40, .inl u.2.2.2.2.2.1))] := hD
  have q1 := hts (.constant RX6 154 (1000000)) (by decide +kernel)
  have q2 := hts (.fieldLink RX6 9 "DoublelineModel" "codes" "[J") (by decide +kernel)
  have q3 : ∀ w ∈ u_ws RX6 TX6 8, w ∈ wsX6_gap := by decide +kernel
  have hl := lv_entry ([.ref h0, .int a0, .int a1, .int a2]) (n := 9) (Nat.le_of_ble_eq_true rfl)
  rw [lg_entry_eq]
  generalize (lg_sl ([.ref h0, .int a0, .int a1, .int a2]) ++ List.replicate (9 - (lg_sl ([.ref h0, .int a0, .int a1, .int a2])).length) Slot.unset).toArray = ls at hl ⊢
  have hl : lv_has ls 9 [(0, .ref h0), (1, .int a0), (2, .int a1), (3, .int a2)] := hl
  unfold f_X6_gap at hf
  refine lv_aload_n hx hb dX6_gap_0 rfl (lv_at hl 0 rfl) ?_
  refine lv_iload_n hx hb dX6_gap_1 rfl (lv_at hl 1 rfl) ?_
  refine lv_iload_n hx hb dX6_gap_2 rfl (lv_at hl 2 rfl) ?_
  obtain ⟨z1, ez1, hf⟩ := ob_e hf
  refine my_callMi (As := [.int a0, .int a1]) (n := 2) (rest := []) (wr := []) ⟨hx, hb, hml, hown, hts⟩ hK hP hD hS hA [0, 1, 2, 3, 4, 5] [] rfl rfl (by decide) (by decide) (by decide) (m_X6_lacks_ l D cC cI cJ h0 h1 h2 h3 h4 h5 u s.heap.size a0 a1 _ ez1) gX6_gap_X6_lacks_ rfl ⟨rfl, rfl⟩ (ci := 5) rfl rfl (by decide +kernel) ⟨Nat.le_of_ble_eq_true rfl, Nat.le_of_ble_eq_true rfl⟩ ⟨Nat.le_of_ble_eq_true rfl, Nat.le_of_ble_eq_true rfl⟩ hl.1 rfl rfl (Nat.le_of_ble_eq_true rfl) dX6_gap_3 (fun r9 u9 H locs hw hP hD hS => ?_)
  obtain ⟨rfl, rfl⟩ := hw
  have hP : va_P D vwCl [(h0, .inr (5, [.ref h1, .ref h2, .ref h3, .int z1.2.2.2.2.1, .ref h4, .ref h5, .int z1.2.2.2.2.2.2.2.1, .int z1.2.2.2.2.2.2.2.2])), (h1, .inl (cJ, 8, .inr (.inl z1.2.1))), (h2, .inl (cI, 8, .inl z1.2.2.1)), (h3, .inl (cJ, 8, .inr (.inl z1.2.2.2.1))), (h4, .inl (cC, 40, .inl z1.2.2.2.2.2.1)), (h5, .inl (cI, 40, .inl z1.2.2.2.2.2.2.1))] H := hP.sub [0, 1, 2, 3, 4, 5] rfl
  have hD : va_D A [(h0, .inr (5, [.ref h1, .ref h2, .ref h3, .int z1.2.2.2.2.1, .ref h4, .ref h5, .int z1.2.2.2.2.2.2.2.1, .int z1.2.2.2.2.2.2.2.2])), (h1, .inl (cJ, 8, .inr (.inl z1.2.1))), (h2, .inl (cI, 8, .inl z1.2.2.1)), (h3, .inl (cJ, 8, .inr (.inl z1.2.2.2.1))), (h4, .inl (cC, 40, .inl z1.2.2.2.2.2.1)), (h5, .inl (cI, 40, .inl z1.2.2.2.2.2.2.1))] := hD.sub [0, 1, 2, 3, 4, 5] (by decide) rfl
  refine my_bz_ne (x := z1.1) (tgt := 61) hx hb dX6_gap_6 (by decide) (fun c2 => ?_) (fun c2 => ?_)
  · rw [if_neg c2] at hf
    refine lv_iconst (v := 0) hx hb dX6_gap_61 (by decide) ?_
    have hP9 : va_P D vwCl (wM cC cI cJ h0 h1 h2 h3 h4 h5 z1.2) _ := hP
    have hD9 : va_D A (wM cC cI cJ h0 h1 h2 h3 h4 h5 z1.2) := hD
    have hf := Option.some.inj hf
    have hf1 := congrArg Prod.fst hf
    have hf2 := congrArg Prod.snd hf
    exact W.iret (v := 0) hx hb hr (fun t ht hW => ⟨⟨0, z1.2, rfl, ⟨hf1, hf2⟩, by rw [ht]; exact hP9, va_K.moved hW.alike hK, hD9⟩, hS.F ht⟩) hS.2.2 dX6_gap_62
  · rw [if_pos c2] at hf
    refine lv_aload_n hx hb dX6_gap_9 rfl (lv_at hl 0 rfl) ?_
    refine lv_iload_n hx hb dX6_gap_10 rfl (lv_at hl 3 rfl) ?_
    refine lv_iconst (v := 1) hx hb dX6_gap_11 (by decide) ?_
    refine lv_ldc (v := 1000000) hx hb hown q1 dX6_gap_12 ?_
    refine my_callPi (As := [.int a2, .int 1, .int 1000000]) (n := 3) (rest := [.ref h0]) ⟨hx, hb, hml, hown, hts⟩ (m_X6_in l a2 1 1000000 _ rfl) gX6_gap_X6_in rfl ⟨rfl, rfl⟩ (by decide +kernel) ⟨Nat.le_of_ble_eq_true rfl, Nat.le_of_ble_eq_true rfl⟩ ⟨Nat.le_of_ble_eq_true rfl, Nat.le_of_ble_eq_true rfl⟩ hl.1 rfl rfl (Nat.le_of_ble_eq_true rfl) dX6_gap_14 ?_
    refine lv_iconst (v := 2) hx hb dX6_gap_17 (by decide) ?_
    refine my_callMi (As := [.int (b2i (f_X6_in a2 1 1000000)), .int 2]) (n := 2) (rest := []) (wr := []) ⟨hx, hb, hml, hown, hts⟩ hK hP hD hS hA [0, 1, 2, 3, 4, 5] [] rfl rfl (by decide) (by decide) (by decide) (m_X6_no l D cC cI cJ h0 h1 h2 h3 h4 h5 z1.2 H.size (f_X6_in a2 1 1000000) 2 _ (no_b z1.2 (f_X6_in a2 1 1000000) 2)) gX6_gap_X6_no rfl ⟨rfl, rfl⟩ (ci := 5) rfl rfl (by decide +kernel) ⟨Nat.le_of_ble_eq_true rfl, Nat.le_of_ble_eq_true rfl⟩ ⟨Nat.le_of_ble_eq_true rfl, Nat.le_of_ble_eq_true rfl⟩ hl.1 rfl rfl (Nat.le_of_ble_eq_true rfl) dX6_gap_18 (fun r9 u9 H locs hw hP hD hS => ?_)
    obtain ⟨rfl, rfl⟩ := hw
    have hP : va_P D vwCl [(h0, .inr (5, [.ref h1, .ref h2, .ref h3, .int z1.2.2.2.2.1, .ref h4, .ref h5, .int z1.2.2.2.2.2.2.2.1, .int (if (f_X6_in a2 1 1000000) = true then 0 else 2)])), (h1, .inl (cJ, 8, .inr (.inl z1.2.1))), (h2, .inl (cI, 8, .inl z1.2.2.1)), (h3, .inl (cJ, 8, .inr (.inl z1.2.2.2.1))), (h4, .inl (cC, 40, .inl z1.2.2.2.2.2.1)), (h5, .inl (cI, 40, .inl z1.2.2.2.2.2.2.1))] H := hP.sub [0, 1, 2, 3, 4, 5] rfl
    have hD : va_D A [(h0, .inr (5, [.ref h1, .ref h2, .ref h3, .int z1.2.2.2.2.1, .ref h4, .ref h5, .int z1.2.2.2.2.2.2.2.1, .int (if (f_X6_in a2 1 1000000) = true then 0 else 2)])), (h1, .inl (cJ, 8, .inr (.inl z1.2.1))), (h2, .inl (cI, 8, .inl z1.2.2.1)), (h3, .inl (cJ, 8, .inr (.inl z1.2.2.2.1))), (h4, .inl (cC, 40, .inl z1.2.2.2.2.2.1)), (h5, .inl (cI, 40, .inl z1.2.2.2.2.2.2.1))] := hD.sub [0, 1, 2, 3, 4, 5] (by decide) rfl
    refine my_bz_ne (x := (!(f_X6_in a2 1 1000000))) (tgt := 61) hx hb dX6_gap_21 (by decide) (fun c3 => ?_) (fun c3 => ?_)
    · rw [if_neg c3] at hf
      refine lv_iconst (v := 0) hx hb dX6_gap_61 (by decide) ?_
      have hP9 : va_P D vwCl (wM cC cI cJ h0 h1 h2 h3 h4 h5 (z1.2.1, (z1.2.2.1, (z1.2.2.2.1, (z1.2.2.2.2.1, (z1.2.2.2.2.2.1, (z1.2.2.2.2.2.2.1, (z1.2.2.2.2.2.2.2.1, (if (f_X6_in a2 1 1000000) = true then 0 else 2))))))))) _ := hP
      have hD9 : va_D A (wM cC cI cJ h0 h1 h2 h3 h4 h5 (z1.2.1, (z1.2.2.1, (z1.2.2.2.1, (z1.2.2.2.2.1, (z1.2.2.2.2.2.1, (z1.2.2.2.2.2.2.1, (z1.2.2.2.2.2.2.2.1, (if (f_X6_in a2 1 1000000) = true then 0 else 2))))))))) := hD
      have hf := Option.some.inj hf
      have hf1 := congrArg Prod.fst hf
      have hf2 := congrArg Prod.snd hf
      exact W.iret (v := 0) hx hb hr (fun t ht hW => ⟨⟨0, (z1.2.1, (z1.2.2.1, (z1.2.2.2.1, (z1.2.2.2.2.1, (z1.2.2.2.2.2.1, (z1.2.2.2.2.2.2.1, (z1.2.2.2.2.2.2.2.1, (if (f_X6_in a2 1 1000000) = true then 0 else 2)))))))), rfl, ⟨hf1, hf2⟩, by rw [ht]; exact hP9, va_K.moved hW.alike hK, hD9⟩, hS.F ht⟩) hS.2.2 dX6_gap_62
    · rw [if_pos c3] at hf
      refine lv_aload_n hx hb dX6_gap_24 rfl (lv_at hl 0 rfl) ?_
      refine lv_aload_n hx hb dX6_gap_25 rfl (lv_at hl 0 rfl) ?_
      refine va_get (D := D) (ci := 5) (v := .ref h1) (C := RX6) (T := TX6) (N := 8) hx hb hts q3 hown hK hP 0 rfl rfl 0 (by decide) q2 (fun _ h9 => h9) rfl dX6_gap_26 ?_
      refine lv_iload_n hx hb dX6_gap_29 rfl (lv_at hl 1 rfl) ?_
      obtain ⟨g4, hf⟩ := og_e hf
      refine va_lald hx hb hK hP 1 2 rfl rfl g4 dX6_gap_30 ?_
      refine my_callPi (As := [.long (z1.2.1 a0.toNatClampNeg)]) (n := 1) (rest := [.ref h0]) ⟨hx, hb, hml, hown, hts⟩ (m_X6_isEnd l (z1.2.1 a0.toNatClampNeg) _ rfl) gX6_gap_X6_isEnd rfl ⟨rfl, rfl⟩ (by decide +kernel) ⟨Nat.le_of_ble_eq_true rfl, Nat.le_of_ble_eq_true rfl⟩ ⟨Nat.le_of_ble_eq_true rfl, Nat.le_of_ble_eq_true rfl⟩ hl.1 rfl rfl (Nat.le_of_ble_eq_true rfl) dX6_gap_31 ?_
      refine my_bz_ne (x := (f_X6_isEnd (z1.2.1 a0.toNatClampNeg))) (tgt := 53) hx hb dX6_gap_34 (by decide) (fun c5 => ?_) (fun c5 => ?_)
      · rw [if_neg c5] at hf
        refine lv_iconst (v := 0) hx hb dX6_gap_53 (by decide) ?_
        refine lv_iconst (v := 3) hx hb dX6_gap_54 (by decide) ?_
        refine my_callMi (As := [.int (b2i false), .int 3]) (n := 2) (rest := []) (wr := []) ⟨hx, hb, hml, hown, hts⟩ hK hP hD hS hA [0, 1, 2, 3, 4, 5] [] rfl rfl (by decide) (by decide) (by decide) (m_X6_no l D cC cI cJ h0 h1 h2 h3 h4 h5 (z1.2.1, (z1.2.2.1, (z1.2.2.2.1, (z1.2.2.2.2.1, (z1.2.2.2.2.2.1, (z1.2.2.2.2.2.2.1, (z1.2.2.2.2.2.2.2.1, (if (f_X6_in a2 1 1000000) = true then 0 else 2)))))))) H.size false 3 _ (no_f (z1.2.1, (z1.2.2.1, (z1.2.2.2.1, (z1.2.2.2.2.1, (z1.2.2.2.2.2.1, (z1.2.2.2.2.2.2.1, (z1.2.2.2.2.2.2.2.1, (if (f_X6_in a2 1 1000000) = true then 0 else 2)))))))) 3)) gX6_gap_X6_no rfl ⟨rfl, rfl⟩ (ci := 5) rfl rfl (by decide +kernel) ⟨Nat.le_of_ble_eq_true rfl, Nat.le_of_ble_eq_true rfl⟩ ⟨Nat.le_of_ble_eq_true rfl, Nat.le_of_ble_eq_true rfl⟩ hl.1 rfl rfl (Nat.le_of_ble_eq_true rfl) dX6_gap_55 (fun r9 u9 H locs hw hP hD hS => ?_)
        obtain ⟨rfl, rfl⟩ := hw
        have hP : va_P D vwCl [(h0, .inr (5, [.ref h1, .ref h2, .ref h3, .int z1.2.2.2.2.1, .ref h4, .ref h5, .int z1.2.2.2.2.2.2.2.1, .int 3])), (h1, .inl (cJ, 8, .inr (.inl z1.2.1))), (h2, .inl (cI, 8, .inl z1.2.2.1)), (h3, .inl (cJ, 8, .inr (.inl z1.2.2.2.1))), (h4, .inl (cC, 40, .inl z1.2.2.2.2.2.1)), (h5, .inl (cI, 40, .inl z1.2.2.2.2.2.2.1))] H := hP.sub [0, 1, 2, 3, 4, 5] rfl
        have hD : va_D A [(h0, .inr (5, [.ref h1, .ref h2, .ref h3, .int z1.2.2.2.2.1, .ref h4, .ref h5, .int z1.2.2.2.2.2.2.2.1, .int 3])), (h1, .inl (cJ, 8, .inr (.inl z1.2.1))), (h2, .inl (cI, 8, .inl z1.2.2.1)), (h3, .inl (cJ, 8, .inr (.inl z1.2.2.2.1))), (h4, .inl (cC, 40, .inl z1.2.2.2.2.2.1)), (h5, .inl (cI, 40, .inl z1.2.2.2.2.2.2.1))] := hD.sub [0, 1, 2, 3, 4, 5] (by decide) rfl
        refine my_bz_eq (x := true) (tgt := 63) hx hb dX6_gap_58 (by decide) (fun h9 => absurd h9 (by decide)) (fun _ => ?_)
        refine lv_iconst (v := 0) hx hb dX6_gap_61 (by decide) ?_
        have hP9 : va_P D vwCl (wM cC cI cJ h0 h1 h2 h3 h4 h5 (z1.2.1, (z1.2.2.1, (z1.2.2.2.1, (z1.2.2.2.2.1, (z1.2.2.2.2.2.1, (z1.2.2.2.2.2.2.1, (z1.2.2.2.2.2.2.2.1, 3)))))))) _ := hP
        have hD9 : va_D A (wM cC cI cJ h0 h1 h2 h3 h4 h5 (z1.2.1, (z1.2.2.1, (z1.2.2.2.1, (z1.2.2.2.2.1, (z1.2.2.2.2.2.1, (z1.2.2.2.2.2.2.1, (z1.2.2.2.2.2.2.2.1, 3)))))))) := hD
        have hf := Option.some.inj hf
        have hf1 := congrArg Prod.fst hf
        have hf2 := congrArg Prod.snd hf
        exact W.iret (v := 0) hx hb hr (fun t ht hW => ⟨⟨0, (z1.2.1, (z1.2.2.1, (z1.2.2.2.1, (z1.2.2.2.2.1, (z1.2.2.2.2.2.1, (z1.2.2.2.2.2.2.1, (z1.2.2.2.2.2.2.2.1, 3))))))), rfl, ⟨hf1, hf2⟩, by rw [ht]; exact hP9, va_K.moved hW.alike hK, hD9⟩, hS.F ht⟩) hS.2.2 dX6_gap_62
      · rw [if_pos c5] at hf
        refine lv_aload_n hx hb dX6_gap_37 rfl (lv_at hl 0 rfl) ?_
        refine va_get (D := D) (ci := 5) (v := .ref h1) (C := RX6) (T := TX6) (N := 8) hx hb hts q3 hown hK hP 0 rfl rfl 0 (by decide) q2 (fun _ h9 => h9) rfl dX6_gap_38 ?_
        refine lv_iload_n hx hb dX6_gap_41 rfl (lv_at hl 2 rfl) ?_
        obtain ⟨g6, hf⟩ := og_e hf
        refine va_lald hx hb hK hP 1 2 rfl rfl g6 dX6_gap_42 ?_
        refine my_callPi (As := [.long (z1.2.1 a1.toNatClampNeg)]) (n := 1) (rest := [.ref h0]) ⟨hx, hb, hml, hown, hts⟩ (m_X6_isEnd l (z1.2.1 a1.toNatClampNeg) _ rfl) gX6_gap_X6_isEnd rfl ⟨rfl, rfl⟩ (by decide +kernel) ⟨Nat.le_of_ble_eq_true rfl, Nat.le_of_ble_eq_true rfl⟩ ⟨Nat.le_of_ble_eq_true rfl, Nat.le_of_ble_eq_true rfl⟩ hl.1 rfl rfl (Nat.le_of_ble_eq_true rfl) dX6_gap_43 ?_
        refine my_bz_ne (x := (f_X6_isEnd (z1.2.1 a1.toNatClampNeg))) (tgt := 53) hx hb dX6_gap_46 (by decide) (fun c7 => ?_) (fun c7 => ?_)
        · rw [if_neg c7] at hf
          refine lv_iconst (v := 0) hx hb dX6_gap_53 (by decide) ?_
          refine lv_iconst (v := 3) hx hb dX6_gap_54 (by decide) ?_
          refine my_callMi (As := [.int (b2i false), .int 3]) (n := 2) (rest := []) (wr := []) ⟨hx, hb, hml, hown, hts⟩ hK hP hD hS hA [0, 1, 2, 3, 4, 5] [] rfl rfl (by decide) (by decide) (by decide) (m_X6_no l D cC cI cJ h0 h1 h2 h3 h4 h5 (z1.2.1, (z1.2.2.1, (z1.2.2.2.1, (z1.2.2.2.2.1, (z1.2.2.2.2.2.1, (z1.2.2.2.2.2.2.1, (z1.2.2.2.2.2.2.2.1, (if (f_X6_in a2 1 1000000) = true then 0 else 2)))))))) H.size false 3 _ (no_f (z1.2.1, (z1.2.2.1, (z1.2.2.2.1, (z1.2.2.2.2.1, (z1.2.2.2.2.2.1, (z1.2.2.2.2.2.2.1, (z1.2.2.2.2.2.2.2.1, (if (f_X6_in a2 1 1000000) = true then 0 else 2)))))))) 3)) gX6_gap_X6_no rfl ⟨rfl, rfl⟩ (ci := 5) rfl rfl (by decide +kernel) ⟨Nat.le_of_ble_eq_true rfl, Nat.le_of_ble_eq_true rfl⟩ ⟨Nat.le_of_ble_eq_true rfl, Nat.le_of_ble_eq_true rfl⟩ hl.1 rfl rfl (Nat.le_of_ble_eq_true rfl) dX6_gap_55 (fun r9 u9 H locs hw hP hD hS => ?_)
          obtain ⟨rfl, rfl⟩ := hw
          have hP : va_P D vwCl [(h0, .inr (5, [.ref h1, .ref h2, .ref h3, .int z1.2.2.2.2.1, .ref h4, .ref h5, .int z1.2.2.2.2.2.2.2.1, .int 3])), (h1, .inl (cJ, 8, .inr (.inl z1.2.1))), (h2, .inl (cI, 8, .inl z1.2.2.1)), (h3, .inl (cJ, 8, .inr (.inl z1.2.2.2.1))), (h4, .inl (cC, 40, .inl z1.2.2.2.2.2.1)), (h5, .inl (cI, 40, .inl z1.2.2.2.2.2.2.1))] H := hP.sub [0, 1, 2, 3, 4, 5] rfl
          have hD : va_D A [(h0, .inr (5, [.ref h1, .ref h2, .ref h3, .int z1.2.2.2.2.1, .ref h4, .ref h5, .int z1.2.2.2.2.2.2.2.1, .int 3])), (h1, .inl (cJ, 8, .inr (.inl z1.2.1))), (h2, .inl (cI, 8, .inl z1.2.2.1)), (h3, .inl (cJ, 8, .inr (.inl z1.2.2.2.1))), (h4, .inl (cC, 40, .inl z1.2.2.2.2.2.1)), (h5, .inl (cI, 40, .inl z1.2.2.2.2.2.2.1))] := hD.sub [0, 1, 2, 3, 4, 5] (by decide) rfl
          refine my_bz_eq (x := true) (tgt := 63) hx hb dX6_gap_58 (by decide) (fun h9 => absurd h9 (by decide)) (fun _ => ?_)
          refine lv_iconst (v := 0) hx hb dX6_gap_61 (by decide) ?_
          have hP9 : va_P D vwCl (wM cC cI cJ h0 h1 h2 h3 h4 h5 (z1.2.1, (z1.2.2.1, (z1.2.2.2.1, (z1.2.2.2.2.1, (z1.2.2.2.2.2.1, (z1.2.2.2.2.2.2.1, (z1.2.2.2.2.2.2.2.1, 3)))))))) _ := hP
          have hD9 : va_D A (wM cC cI cJ h0 h1 h2 h3 h4 h5 (z1.2.1, (z1.2.2.1, (z1.2.2.2.1, (z1.2.2.2.2.1, (z1.2.2.2.2.2.1, (z1.2.2.2.2.2.2.1, (z1.2.2.2.2.2.2.2.1, 3)))))))) := hD
          have hf := Option.some.inj hf
          have hf1 := congrArg Prod.fst hf
          have hf2 := congrArg Prod.snd hf
          exact W.iret (v := 0) hx hb hr (fun t ht hW => ⟨⟨0, (z1.2.1, (z1.2.2.1, (z1.2.2.2.1, (z1.2.2.2.2.1, (z1.2.2.2.2.2.1, (z1.2.2.2.2.2.2.1, (z1.2.2.2.2.2.2.2.1, 3))))))), rfl, ⟨hf1, hf2⟩, by rw [ht]; exact hP9, va_K.moved hW.alike hK, hD9⟩, hS.F ht⟩) hS.2.2 dX6_gap_62
        · rw [if_pos c7] at hf
          refine lv_iconst (v := 1) hx hb dX6_gap_49 (by decide) ?_
          refine lv_goto (tgt := 54) hx hb dX6_gap_50 (by decide) ?_
          refine lv_iconst (v := 3) hx hb dX6_gap_54 (by decide) ?_
          refine my_callMi (As := [.int (b2i true), .int 3]) (n := 2) (rest := []) (wr := []) ⟨hx, hb, hml, hown, hts⟩ hK hP hD hS hA [0, 1, 2, 3, 4, 5] [] rfl rfl (by decide) (by decide) (by decide) (m_X6_no l D cC cI cJ h0 h1 h2 h3 h4 h5 (z1.2.1, (z1.2.2.1, (z1.2.2.2.1, (z1.2.2.2.2.1, (z1.2.2.2.2.2.1, (z1.2.2.2.2.2.2.1, (z1.2.2.2.2.2.2.2.1, (if (f_X6_in a2 1 1000000) = true then 0 else 2)))))))) H.size true 3 _ (no_t (z1.2.1, (z1.2.2.1, (z1.2.2.2.1, (z1.2.2.2.2.1, (z1.2.2.2.2.2.1, (z1.2.2.2.2.2.2.1, (z1.2.2.2.2.2.2.2.1, (if (f_X6_in a2 1 1000000) = true then 0 else 2)))))))) 3)) gX6_gap_X6_no rfl ⟨rfl, rfl⟩ (ci := 5) rfl rfl (by decide +kernel) ⟨Nat.le_of_ble_eq_true rfl, Nat.le_of_ble_eq_true rfl⟩ ⟨Nat.le_of_ble_eq_true rfl, Nat.le_of_ble_eq_true rfl⟩ hl.1 rfl rfl (Nat.le_of_ble_eq_true rfl) dX6_gap_55 (fun r9 u9 H locs hw hP hD hS => ?_)
          obtain ⟨rfl, rfl⟩ := hw
          have hP : va_P D vwCl [(h0, .inr (5, [.ref h1, .ref h2, .ref h3, .int z1.2.2.2.2.1, .ref h4, .ref h5, .int z1.2.2.2.2.2.2.2.1, .int 0])), (h1, .inl (cJ, 8, .inr (.inl z1.2.1))), (h2, .inl (cI, 8, .inl z1.2.2.1)), (h3, .inl (cJ, 8, .inr (.inl z1.2.2.2.1))), (h4, .inl (cC, 40, .inl z1.2.2.2.2.2.1)), (h5, .inl (cI, 40, .inl z1.2.2.2.2.2.2.1))] H := hP.sub [0, 1, 2, 3, 4, 5] rfl
          have hD : va_D A [(h0, .inr (5, [.ref h1, .ref h2, .ref h3, .int z1.2.2.2.2.1, .ref h4, .ref h5, .int z1.2.2.2.2.2.2.2.1, .int 0])), (h1, .inl (cJ, 8, .inr (.inl z1.2.1))), (h2, .inl (cI, 8, .inl z1.2.2.1)), (h3, .inl (cJ, 8, .inr (.inl z1.2.2.2.1))), (h4, .inl (cC, 40, .inl z1.2.2.2.2.2.1)), (h5, .inl (cI, 40, .inl z1.2.2.2.2.2.2.1))] := hD.sub [0, 1, 2, 3, 4, 5] (by decide) rfl
          refine my_bz_eq (x := false) (tgt := 63) hx hb dX6_gap_58 (by decide) (fun _ => ?_) (fun h9 => absurd h9 (by decide))
          refine lv_aload_n hx hb dX6_gap_63 rfl (lv_at hl 0 rfl) ?_
          refine lv_iload_n hx hb dX6_gap_64 rfl (lv_at hl 1 rfl) ?_
          obtain ⟨r8, er8, hf⟩ := ob_e hf
          refine my_callRl (As := [.int a0]) (n := 1) (rest := []) ⟨hx, hb, hml, hown, hts⟩ hK (hP.sub (ws' := (wM cC cI cJ h0 h1 h2 h3 h4 h5 (z1.2.1, (z1.2.2.1, (z1.2.2.2.1, (z1.2.2.2.2.1, (z1.2.2.2.2.2.1, (z1.2.2.2.2.2.2.1, (z1.2.2.2.2.2.2.2.1, 0))))))))) [0, 1, 2, 3, 4, 5] rfl) (m_X6_placeIn l D cC cI cJ h0 h1 h2 h3 h4 h5 (z1.2.1, (z1.2.2.1, (z1.2.2.2.1, (z1.2.2.2.2.1, (z1.2.2.2.2.2.1, (z1.2.2.2.2.2.2.1, (z1.2.2.2.2.2.2.2.1, 0))))))) a0 _ er8) gX6_gap_X6_placeIn rfl ⟨rfl, rfl⟩ (ci := 5) rfl rfl (by decide +kernel) ⟨Nat.le_of_ble_eq_true rfl, Nat.le_of_ble_eq_true rfl⟩ ⟨Nat.le_of_ble_eq_true rfl, Nat.le_of_ble_eq_true rfl⟩ hl.1 rfl rfl (Nat.le_of_ble_eq_true rfl) dX6_gap_65 ?_
          refine lv_aload_n hx hb dX6_gap_68 rfl (lv_at hl 0 rfl) ?_
          refine lv_iload_n hx hb dX6_gap_69 rfl (lv_at hl 2 rfl) ?_
          obtain ⟨r9, er9, hf⟩ := ob_e hf
          refine my_callRl (As := [.int a1]) (n := 1) (rest := [.long r8]) ⟨hx, hb, hml, hown, hts⟩ hK (hP.sub (ws' := (wM cC cI cJ h0 h1 h2 h3 h4 h5 (z1.2.1, (z1.2.2.1, (z1.2.2.2.1, (z1.2.2.2.2.1, (z1.2.2.2.2.2.1, (z1.2.2.2.2.2.2.1, (z1.2.2.2.2.2.2.2.1, 0))))))))) [0, 1, 2, 3, 4, 5] rfl) (m_X6_placeIn l D cC cI cJ h0 h1 h2 h3 h4 h5 (z1.2.1, (z1.2.2.1, (z1.2.2.2.1, (z1.2.2.2.2.1, (z1.2.2.2.2.2.1, (z1.2.2.2.2.2.2.1, (z1.2.2.2.2.2.2.2.1, 0))))))) a1 _ er9) gX6_gap_X6_placeIn rfl ⟨rfl, rfl⟩ (ci := 5) rfl rfl (by decide +kernel) ⟨Nat.le_of_ble_eq_true rfl, Nat.le_of_ble_eq_true rfl⟩ ⟨Nat.le_of_ble_eq_true rfl, Nat.le_of_ble_eq_true rfl⟩ hl.1 rfl rfl (Nat.le_of_ble_eq_true rfl) dX6_gap_70 ?_
          refine my_lc_lt (tgt := 81) hx hb dX6_gap_73 dX6_gap_74 (by decide) (fun c10 => ?_) (fun c10 => ?_)
          · rw [if_pos c10] at hf
            refine lv_iconst (v := 0) hx hb dX6_gap_81 (by decide) ?_
            refine lv_istore (lv' := [(4, .int 0), (0, .ref h0), (1, .int a0), (2, .int a1), (3, .int a2)]) hx hb dX6_gap_82 hl (by decide) rfl (fun ls hl => ?_)
            refine lv_aload_n hx hb dX6_gap_84 rfl (lv_at hl 1 rfl) ?_
            refine va_get (D := D) (ci := 5) (v := .ref h1) (C := RX6) (T := TX6) (N := 8) hx hb hts q3 hown hK hP 0 rfl rfl 0 (by decide) q2 (fun _ h9 => h9) rfl dX6_gap_85 ?_
            refine lv_iload hx hb dX6_gap_88 (lv_at hl 0 rfl) ?_
            refine my_if_eq (x := 0) (tgt := 97) hx hb dX6_gap_90 (by decide) (fun _ => ?_) (fun h9 => absurd h9 (by decide))
            refine lv_iload_n hx hb dX6_gap_97 rfl (lv_at hl 3 rfl) ?_
            obtain ⟨g11, hf⟩ := og_e hf
            refine va_lald hx hb hK hP 1 2 rfl rfl g11 dX6_gap_98 ?_
            refine lv_lstore (lv' := [(5, .long (z1.2.1 a1.toNatClampNeg)), (4, .int 0), (0, .ref h0), (1, .int a0), (2, .int a1), (3, .int a2)]) hx hb dX6_gap_99 hl (by decide) rfl (fun ls hl => ?_)
            refine lv_aload_n hx hb dX6_gap_101 rfl (lv_at hl 2 rfl) ?_
            refine va_get (D := D) (ci := 5) (v := .ref h1) (C := RX6) (T := TX6) (N := 8) hx hb hts q3 hown hK hP 0 rfl rfl 0 (by decide) q2 (fun _ h9 => h9) rfl dX6_gap_102 ?_
            refine lv_iload hx hb dX6_gap_105 (lv_at hl 1 rfl) ?_
            refine my_if_eq (x := 0) (tgt := 114) hx hb dX6_gap_107 (by decide) (fun _ => ?_) (fun h9 => absurd h9 (by decide))
            refine lv_iload_n hx hb dX6_gap_114 rfl (lv_at hl 3 rfl) ?_
            obtain ⟨g12, hf⟩ := og_e hf
            refine va_lald hx hb hK hP 1 2 rfl rfl g12 dX6_gap_115 ?_
            refine lv_lstore (lv' := [(7, .long (z1.2.1 a0.toNatClampNeg)), (5, .long (z1.2.1 a1.toNatClampNeg)), (4, .int 0), (0, .ref h0), (1, .int a0), (2, .int a1), (3, .int a2)]) hx hb dX6_gap_116 hl (by decide) rfl (fun ls hl => ?_)
            refine lv_lload hx hb dX6_gap_118 (lv_at hl 1 rfl) ?_
            refine lv_iload_n hx hb dX6_gap_120 rfl (lv_at hl 6 rfl) ?_
            obtain ⟨r13, er13, hf⟩ := ob_e hf
            refine my_callPl (As := [.long (z1.2.1 a1.toNatClampNeg), .int a2]) (n := 2) (rest := []) ⟨hx, hb, hml, hown, hts⟩ (m_X6_restOf l (z1.2.1 a1.toNatClampNeg) a2 _ er13) gX6_gap_X6_restOf rfl ⟨rfl, rfl⟩ (by decide +kernel) ⟨Nat.le_of_ble_eq_true rfl, Nat.le_of_ble_eq_true rfl⟩ ⟨Nat.le_of_ble_eq_true rfl, Nat.le_of_ble_eq_true rfl⟩ hl.1 rfl rfl (Nat.le_of_ble_eq_true rfl) dX6_gap_121 ?_
            refine lv_iload_n hx hb dX6_gap_124 rfl (lv_at hl 6 rfl) ?_
            refine lv_i2l (v := (a2.toInt64)) hx hb dX6_gap_125 rfl ?_
            refine lv_ladd hx hb dX6_gap_126 ?_
            refine lv_lload hx hb dX6_gap_127 (lv_at hl 0 rfl) ?_
            refine lv_iload_n hx hb dX6_gap_129 rfl (lv_at hl 6 rfl) ?_
            obtain ⟨r14, er14, hf⟩ := ob_e hf
            refine my_callPl (As := [.long (z1.2.1 a0.toNatClampNeg), .int a2]) (n := 2) (rest := [.long (r13 + (a2.toInt64))]) ⟨hx, hb, hml, hown, hts⟩ (m_X6_restOf l (z1.2.1 a0.toNatClampNeg) a2 _ er14) gX6_gap_X6_restOf rfl ⟨rfl, rfl⟩ (by decide +kernel) ⟨Nat.le_of_ble_eq_true rfl, Nat.le_of_ble_eq_true rfl⟩ ⟨Nat.le_of_ble_eq_true rfl, Nat.le_of_ble_eq_true rfl⟩ hl.1 rfl rfl (Nat.le_of_ble_eq_true rfl) dX6_gap_130 ?_
            refine lv_lsub hx hb dX6_gap_133 ?_
            refine lv_iload_n hx hb dX6_gap_134 rfl (lv_at hl 6 rfl) ?_
            refine lv_i2l (v := (a2.toInt64)) hx hb dX6_gap_135 rfl ?_
            obtain ⟨g15, hf⟩ := og_e hf
            refine lv_lrem hx hb dX6_gap_136 g15 ?_
            refine lv_l2i (v := ((((r13 + (a2.toInt64)) - r14) - ((r13 + (a2.toInt64)) - r14) / (a2.toInt64) * (a2.toInt64)).toInt32)) hx hb dX6_gap_137 rfl ?_
            have hP9 : va_P D vwCl (wM cC cI cJ h0 h1 h2 h3 h4 h5 (z1.2.1, (z1.2.2.1, (z1.2.2.2.1, (z1.2.2.2.2.1, (z1.2.2.2.2.2.1, (z1.2.2.2.2.2.2.1, (z1.2.2.2.2.2.2.2.1, 0)))))))) _ := hP
            have hD9 : va_D A (wM cC cI cJ h0 h1 h2 h3 h4 h5 (z1.2.1, (z1.2.2.1, (z1.2.2.2.1, (z1.2.2.2.2.1, (z1.2.2.2.2.2.1, (z1.2.2.2.2.2.2.1, (z1.2.2.2.2.2.2.2.1, 0)))))))) := hD
            have hf := Option.some.inj hf
            have hf1 := congrArg Prod.fst hf
            have hf2 := congrArg Prod.snd hf
            exact W.iret (v := ((((r13 + (a2.toInt64)) - r14) - ((r13 + (a2.toInt64)) - r14) / (a2.toInt64) * (a2.toInt64)).toInt32)) hx hb hr (fun t ht hW => ⟨⟨((((r13 + (a2.toInt64)) - r14) - ((r13 + (a2.toInt64)) - r14) / (a2.toInt64) * (a2.toInt64)).toInt32), (z1.2.1, (z1.2.2.1, (z1.2.2.2.1, (z1.2.2.2.2.1, (z1.2.2.2.2.2.1, (z1.2.2.2.2.2.2.1, (z1.2.2.2.2.2.2.2.1, 0))))))), rfl, ⟨hf1, hf2⟩, by rw [ht]; exact hP9, va_K.moved hW.alike hK, hD9⟩, hS.F ht⟩) hS.2.2 dX6_gap_138
          · rw [if_neg c10] at hf
            refine lv_iconst (v := 1) hx hb dX6_gap_77 (by decide) ?_
            refine lv_goto (tgt := 82) hx hb dX6_gap_78 (by decide) ?_
            refine lv_istore (lv' := [(4, .int 1), (0, .ref h0), (1, .int a0), (2, .int a1), (3, .int a2)]) hx hb dX6_gap_82 hl (by decide) rfl (fun ls hl => ?_)
            refine lv_aload_n hx hb dX6_gap_84 rfl (lv_at hl 1 rfl) ?_
            refine va_get (D := D) (ci := 5) (v := .ref h1) (C := RX6) (T := TX6) (N := 8) hx hb hts q3 hown hK hP 0 rfl rfl 0 (by decide) q2 (fun _ h9 => h9) rfl dX6_gap_85 ?_
            refine lv_iload hx hb dX6_gap_88 (lv_at hl 0 rfl) ?_
            refine my_if_eq (x := 1) (tgt := 97) hx hb dX6_gap_90 (by decide) (fun h9 => absurd h9 (by decide)) (fun _ => ?_)
            refine lv_iload_n hx hb dX6_gap_93 rfl (lv_at hl 2 rfl) ?_
            refine lv_goto (tgt := 98) hx hb dX6_gap_94 (by decide) ?_
            obtain ⟨g16, hf⟩ := og_e hf
            refine va_lald hx hb hK hP 1 2 rfl rfl g16 dX6_gap_98 ?_
            refine lv_lstore (lv' := [(5, .long (z1.2.1 a0.toNatClampNeg)), (4, .int 1), (0, .ref h0), (1, .int a0), (2, .int a1), (3, .int a2)]) hx hb dX6_gap_99 hl (by decide) rfl (fun ls hl => ?_)
            refine lv_aload_n hx hb dX6_gap_101 rfl (lv_at hl 2 rfl) ?_
            refine va_get (D := D) (ci := 5) (v := .ref h1) (C := RX6) (T := TX6) (N := 8) hx hb hts q3 hown hK hP 0 rfl rfl 0 (by decide) q2 (fun _ h9 => h9) rfl dX6_gap_102 ?_
            refine lv_iload hx hb dX6_gap_105 (lv_at hl 1 rfl) ?_
            refine my_if_eq (x := 1) (tgt := 114) hx hb dX6_gap_107 (by decide) (fun h9 => absurd h9 (by decide)) (fun _ => ?_)
            refine lv_iload_n hx hb dX6_gap_110 rfl (lv_at hl 4 rfl) ?_
            refine lv_goto (tgt := 115) hx hb dX6_gap_111 (by decide) ?_
            obtain ⟨g17, hf⟩ := og_e hf
            refine va_lald hx hb hK hP 1 2 rfl rfl g17 dX6_gap_115 ?_
            refine lv_lstore (lv' := [(7, .long (z1.2.1 a1.toNatClampNeg)), (5, .long (z1.2.1 a0.toNatClampNeg)), (4, .int 1), (0, .ref h0), (1, .int a0), (2, .int a1), (3, .int a2)]) hx hb dX6_gap_116 hl (by decide) rfl (fun ls hl => ?_)
            refine lv_lload hx hb dX6_gap_118 (lv_at hl 1 rfl) ?_
            refine lv_iload_n hx hb dX6_gap_120 rfl (lv_at hl 6 rfl) ?_
            obtain ⟨r18, er18, hf⟩ := ob_e hf
            refine my_callPl (As := [.long (z1.2.1 a0.toNatClampNeg), .int a2]) (n := 2) (rest := []) ⟨hx, hb, hml, hown, hts⟩ (m_X6_restOf l (z1.2.1 a0.toNatClampNeg) a2 _ er18) gX6_gap_X6_restOf rfl ⟨rfl, rfl⟩ (by decide +kernel) ⟨Nat.le_of_ble_eq_true rfl, Nat.le_of_ble_eq_true rfl⟩ ⟨Nat.le_of_ble_eq_true rfl, Nat.le_of_ble_eq_true rfl⟩ hl.1 rfl rfl (Nat.le_of_ble_eq_true rfl) dX6_gap_121 ?_
            refine lv_iload_n hx hb dX6_gap_124 rfl (lv_at hl 6 rfl) ?_
            refine lv_i2l (v := (a2.toInt64)) hx hb dX6_gap_125 rfl ?_
            refine lv_ladd hx hb dX6_gap_126 ?_
            refine lv_lload hx hb dX6_gap_127 (lv_at hl 0 rfl) ?_
            refine lv_iload_n hx hb dX6_gap_129 rfl (lv_at hl 6 rfl) ?_
            obtain ⟨r19, er19, hf⟩ := ob_e hf
            refine my_callPl (As := [.long (z1.2.1 a1.toNatClampNeg), .int a2]) (n := 2) (rest := [.long (r18 + (a2.toInt64))]) ⟨hx, hb, hml, hown, hts⟩ (m_X6_restOf l (z1.2.1 a1.toNatClampNeg) a2 _ er19) gX6_gap_X6_restOf rfl ⟨rfl, rfl⟩ (by decide +kernel) ⟨Nat.le_of_ble_eq_true rfl, Nat.le_of_ble_eq_true rfl⟩ ⟨Nat.le_of_ble_eq_true rfl, Nat.le_of_ble_eq_true rfl⟩ hl.1 rfl rfl (Nat.le_of_ble_eq_true rfl) dX6_gap_130 ?_
            refine lv_lsub hx hb dX6_gap_133 ?_
            refine lv_iload_n hx hb dX6_gap_134 rfl (lv_at hl 6 rfl) ?_
            refine lv_i2l (v := (a2.toInt64)) hx hb dX6_gap_135 rfl ?_
            obtain ⟨g20, hf⟩ := og_e hf
            refine lv_lrem hx hb dX6_gap_136 g20 ?_
            refine lv_l2i (v := ((((r18 + (a2.toInt64)) - r19) - ((r18 + (a2.toInt64)) - r19) / (a2.toInt64) * (a2.toInt64)).toInt32)) hx hb dX6_gap_137 rfl ?_
            have hP9 : va_P D vwCl (wM cC cI cJ h0 h1 h2 h3 h4 h5 (z1.2.1, (z1.2.2.1, (z1.2.2.2.1, (z1.2.2.2.2.1, (z1.2.2.2.2.2.1, (z1.2.2.2.2.2.2.1, (z1.2.2.2.2.2.2.2.1, 0)))))))) _ := hP
            have hD9 : va_D A (wM cC cI cJ h0 h1 h2 h3 h4 h5 (z1.2.1, (z1.2.2.1, (z1.2.2.2.1, (z1.2.2.2.2.1, (z1.2.2.2.2.2.1, (z1.2.2.2.2.2.2.1, (z1.2.2.2.2.2.2.2.1, 0)))))))) := hD
            have hf := Option.some.inj hf
            have hf1 := congrArg Prod.fst hf
            have hf2 := congrArg Prod.snd hf
            exact W.iret (v := ((((r18 + (a2.toInt64)) - r19) - ((r18 + (a2.toInt64)) - r19) / (a2.toInt64) * (a2.toInt64)).toInt32)) hx hb hr (fun t ht hW => ⟨⟨((((r18 + (a2.toInt64)) - r19) - ((r18 + (a2.toInt64)) - r19) / (a2.toInt64) * (a2.toInt64)).toInt32), (z1.2.1, (z1.2.2.1, (z1.2.2.2.1, (z1.2.2.2.2.1, (z1.2.2.2.2.2.1, (z1.2.2.2.2.2.2.1, (z1.2.2.2.2.2.2.2.1, 0))))))), rfl, ⟨hf1, hf2⟩, by rw [ht]; exact hP9, va_K.moved hW.alike hK, hD9⟩, hS.F ht⟩) hS.2.2 dX6_gap_138

set_option maxHeartbeats 4000000 in
set_option maxRecDepth 100000 in
theorem m_X6_compareGaps (l : Launch) (D : va_G) (cC cI cJ : ClassId) (h0 h1 h2 h3 h4 h5 : Nat) (u : StM) (sz : Nat) (a0 : Int32) (a1 : Int32) (a2 : Int32) (a3 : Int32) (res : Int32 × StM) (hf : f_X6_compareGaps u a0 a1 a2 a3 = some res) : Met l yX6_compareGaps wsX6_compareGaps rmX6_compareGaps (my_PcM D vwCl (KT cC cI cJ) sz (wM cC cI cJ h0 h1 h2 h3 h4 h5 u) [.ref h0, .int a0, .int a1, .int a2, .int a3]) (va_Qi (fun r v => r = res.1 ∧ v = res.2) (my_B D vwCl (KT cC cI cJ) (va_A (wM cC cI cJ h0 h1 h2 h3 h4 h5 u) sz) (fun v : StM => (wM cC cI cJ h0 h1 h2 h3 h4 h5 v))) (va_A (wM cC cI cJ h0 h1 h2 h3 h4 h5 u) sz)) 6 432 (va_A (wM cC cI cJ h0 h1 h2 h3 h4 h5 u) sz) := by
  refine Met.ofW (cc := cX6_compareGaps) (maxL := 8) (ret := (some .int)) (by decide) rfl ?_
  intro p e s m args below meth c s₁ B hml hv
  obtain ⟨rfl, hsz, hP, hK, hD0⟩ := hv
  have hx := B.exec
  have hb := B.bytes
  have hr := B.returns
  have hts : ∀ w ∈ wsX6_compareGaps, w.before ([.ref h0, .int a0, .int a1, .int a2, .int a3] : List Value).toArray s = true := atoms_spec (ws := wsX6_compareGaps) B.pre
  have hown : s.vm.findClass RX6 = some m.cls := findClass_of_methodNamed B.named
  have hlk : meth.locks = false := B.notSynchronized
  subst hsz
  have hD := hD0.self (sz := s.heap.size)
  generalize hAe : va_A (wM cC cI cJ h0 h1 h2 h3 h4 h5 u) s.heap.size = A at hD ⊢
  have hA : ∀ q : Nat, s.heap.size ≤ q → A q := fun q h => by rw [← hAe]; exact Or.inr h
  have hS : va_S A s.heap s.heap [] := va_S.rf
  have hP : va_P D vwCl [(h0, .inr (5, [.ref h1, .ref h2, .ref h3, .int u.2.2.2.1, .ref h4, .ref h5, .int u.2.2.2.2.2.2.1, .int u.2.2.2.2.2.2.2])), (h1, .inl (cJ, 8, .inr (.inl u.1))), (h2, .inl (cI, 8, .inl u.2.1)), (h3, .inl (cJ, 8, .inr (.inl u.2.2.1))), (h4, .inl (cC, 40, .inl u.2.2.2.2.1)), (h5, .inl (cI, 40, .inl u.2.2.2.2.2.1))] s.heap := hP
  have hD : va_D A [(h0, .inr (5, [.ref h1, .ref h2, .ref h3, .int u.2.2.2.1, .ref h4, .ref h5, .int u.2.2.2.2.2.2.1, .int u.2.2.2.2.2.2.2])), (h1, .inl (cJ, 8, .inr (.inl u.1))), (h2, .inl (cI, 8, .inl u.2.1)), (h3, .inl (cJ, 8, .inr (.inl u.2.2.1))), (h4, .inl (cC, 40, .inl u.2.2.2.2.1)), (h5, .inl (cI, 40, .inl u.2.2.2.2.2.1))] := hD
  have q1 := hts (.fieldLink RX6 9 "DoublelineModel" "codes" "[J") (by decide +kernel)
  have q2 : ∀ w ∈ u_ws RX6 TX6 8, w ∈ wsX6_compareGaps := by decide +kernel
  have hl := lv_entry ([.ref h0, .int a0, .int a1, .int a2, .int a3]) (n := 8) (Nat.le_of_ble_eq_true rfl)
  rw [lg_entry_eq]
  generalize (lg_sl ([.ref h0, .int a0, .int a1, .int a2, .int a3]) ++ List.replicate (8 - (lg_sl ([.ref h0, .int a0, .int a1, .int a2, .int a3])).length) Slot.unset).toArray = ls at hl ⊢
  have hl : lv_has ls 8 [(0, .ref h0), (1, .int a0), (2, .int a1), (3, .int a2), (4, .int a3)] := hl
  unfold f_X6_compareGaps at hf
  refine lv_aload_n hx hb dX6_compareGaps_0 rfl (lv_at hl 0 rfl) ?_
  refine lv_iload_n hx hb dX6_compareGaps_1 rfl (lv_at hl 1 rfl) ?_
  refine my_callPi (As := [.int a0]) (n := 1) (rest := [.ref h0]) ⟨hx, hb, hml, hown, hts⟩ (m_X6_isSlot l a0 _ rfl) gX6_compareGaps_X6_isSlot rfl ⟨rfl, rfl⟩ (by decide +kernel) ⟨Nat.le_of_ble_eq_true rfl, Nat.le_of_ble_eq_true rfl⟩ ⟨Nat.le_of_ble_eq_true rfl, Nat.le_of_ble_eq_true rfl⟩ hl.1 rfl rfl (Nat.le_of_ble_eq_true rfl) dX6_compareGaps_2 ?_
  refine my_bz_eq (x := (f_X6_isSlot a0)) (tgt := 34) hx hb dX6_compareGaps_5 (by decide) (fun c1 => ?_) (fun c1 => ?_)
  · rw [if_pos c1] at hf
    refine lv_iconst (v := 0) hx hb dX6_compareGaps_34 (by decide) ?_
    refine lv_iconst (v := 1) hx hb dX6_compareGaps_35 (by decide) ?_
    refine my_callMi (As := [.int (b2i false), .int 1]) (n := 2) (rest := []) (wr := []) ⟨hx, hb, hml, hown, hts⟩ hK hP hD hS hA [0, 1, 2, 3, 4, 5] [] rfl rfl (by decide) (by decide) (by decide) (m_X6_no l D cC cI cJ h0 h1 h2 h3 h4 h5 u s.heap.size false 1 _ (no_f u 1)) gX6_compareGaps_X6_no rfl ⟨rfl, rfl⟩ (ci := 5) rfl rfl (by decide +kernel) ⟨Nat.le_of_ble_eq_true rfl, Nat.le_of_ble_eq_true rfl⟩ ⟨Nat.le_of_ble_eq_true rfl, Nat.le_of_ble_eq_true rfl⟩ hl.1 rfl rfl (Nat.le_of_ble_eq_true rfl) dX6_compareGaps_36 (fun r9 u9 H locs hw hP hD hS => ?_)
    obtain ⟨rfl, rfl⟩ := hw
    have hP : va_P D vwCl [(h0, .inr (5, [.ref h1, .ref h2, .ref h3, .int u.2.2.2.1, .ref h4, .ref h5, .int u.2.2.2.2.2.2.1, .int 1])), (h1, .inl (cJ, 8, .inr (.inl u.1))), (h2, .inl (cI, 8, .inl u.2.1)), (h3, .inl (cJ, 8, .inr (.inl u.2.2.1))), (h4, .inl (cC, 40, .inl u.2.2.2.2.1)), (h5, .inl (cI, 40, .inl u.2.2.2.2.2.1))] H := hP.sub [0, 1, 2, 3, 4, 5] rfl
    have hD : va_D A [(h0, .inr (5, [.ref h1, .ref h2, .ref h3, .int u.2.2.2.1, .ref h4, .ref h5, .int u.2.2.2.2.2.2.1, .int 1])), (h1, .inl (cJ, 8, .inr (.inl u.1))), (h2, .inl (cI, 8, .inl u.2.1)), (h3, .inl (cJ, 8, .inr (.inl u.2.2.1))), (h4, .inl (cC, 40, .inl u.2.2.2.2.1)), (h5, .inl (cI, 40, .inl u.2.2.2.2.2.1))] := hD.sub [0, 1, 2, 3, 4, 5] (by decide) rfl
    refine my_bz_eq (x := true) (tgt := 44) hx hb dX6_compareGaps_39 (by decide) (fun h9 => absurd h9 (by decide)) (fun _ => ?_)
    refine lv_iconst (v := 0) hx hb dX6_compareGaps_42 (by decide) ?_
    have hP9 : va_P D vwCl (wM cC cI cJ h0 h1 h2 h3 h4 h5 (u.1, (u.2.1, (u.2.2.1, (u.2.2.2.1, (u.2.2.2.2.1, (u.2.2.2.2.2.1, (u.2.2.2.2.2.2.1, 1)))))))) _ := hP
    have hD9 : va_D A (wM cC cI cJ h0 h1 h2 h3 h4 h5 (u.1, (u.2.1, (u.2.2.1, (u.2.2.2.1, (u.2.2.2.2.1, (u.2.2.2.2.2.1, (u.2.2.2.2.2.2.1, 1)))))))) := hD
    refine W.widen (k := 6) (n := 432) (Nat.le_of_ble_eq_true rfl) (Nat.le_of_ble_eq_true rfl) ?_
    have hf := Option.some.inj hf
    have hf1 := congrArg Prod.fst hf
    have hf2 := congrArg Prod.snd hf
    exact W.iret (v := 0) hx hb hr (fun t ht hW => ⟨⟨0, (u.1, (u.2.1, (u.2.2.1, (u.2.2.2.1, (u.2.2.2.2.1, (u.2.2.2.2.2.1, (u.2.2.2.2.2.2.1, 1))))))), rfl, ⟨hf1, hf2⟩, by rw [ht]; exact hP9, va_K.moved hW.alike hK, hD9⟩, hS.F ht⟩) hS.2.2 dX6_compareGaps_43
  · rw [if_neg c1] at hf
    refine lv_iload_n hx hb dX6_compareGaps_8 rfl (lv_at hl 2 rfl) ?_
    refine my_callPi (As := [.int a1]) (n := 1) (rest := [.ref h0]) ⟨hx, hb, hml, hown, hts⟩ (m_X6_isSlot l a1 _ rfl) gX6_compareGaps_X6_isSlot rfl ⟨rfl, rfl⟩ (by decide +kernel) ⟨Nat.le_of_ble_eq_true rfl, Nat.le_of_ble_eq_true rfl⟩ ⟨Nat.le_of_ble_eq_true rfl, Nat.le_of_ble_eq_true rfl⟩ hl.1 rfl rfl (Nat.le_of_ble_eq_true rfl) dX6_compareGaps_9 ?_
    refine my_bz_eq (x := (f_X6_isSlot a1)) (tgt := 34) hx hb dX6_compareGaps_12 (by decide) (fun c2 => ?_) (fun c2 => ?_)
    · rw [if_pos c2] at hf
      refine lv_iconst (v := 0) hx hb dX6_compareGaps_34 (by decide) ?_
      refine lv_iconst (v := 1) hx hb dX6_compareGaps_35 (by decide) ?_
      refine my_callMi (As := [.int (b2i false), .int 1]) (n := 2) (rest := []) (wr := []) ⟨hx, hb, hml, hown, hts⟩ hK hP hD hS hA [0, 1, 2, 3, 4, 5] [] rfl rfl (by decide) (by decide) (by decide) (m_X6_no l D cC cI cJ h0 h1 h2 h3 h4 h5 u s.heap.size false 1 _ (no_f u 1)) gX6_compareGaps_X6_no rfl ⟨rfl, rfl⟩ (ci := 5) rfl rfl (by decide +kernel) ⟨Nat.le_of_ble_eq_true rfl, Nat.le_of_ble_eq_true rfl⟩ ⟨Nat.le_of_ble_eq_true rfl, Nat.le_of_ble_eq_true rfl⟩ hl.1 rfl rfl (Nat.le_of_ble_eq_true rfl) dX6_compareGaps_36 (fun r9 u9 H locs hw hP hD hS => ?_)
      obtain ⟨rfl, rfl⟩ := hw
      have hP : va_P D vwCl [(h0, .inr (5, [.ref h1, .ref h2, .ref h3, .int u.2.2.2.1, .ref h4, .ref h5, .int u.2.2.2.2.2.2.1, .int 1])), (h1, .inl (cJ, 8, .inr (.inl u.1))), (h2, .inl (cI, 8, .inl u.2.1)), (h3, .inl (cJ, 8, .inr (.inl u.2.2.1))), (h4, .inl (cC, 40, .inl u.2.2.2.2.1)), (h5, .inl (cI, 40, .inl u.2.2.2.2.2.1))] H := hP.sub [0, 1, 2, 3, 4, 5] rfl
      have hD : va_D A [(h0, .inr (5, [.ref h1, .ref h2, .ref h3, .int u.2.2.2.1, .ref h4, .ref h5, .int u.2.2.2.2.2.2.1, .int 1])), (h1, .inl (cJ, 8, .inr (.inl u.1))), (h2, .inl (cI, 8, .inl u.2.1)), (h3, .inl (cJ, 8, .inr (.inl u.2.2.1))), (h4, .inl (cC, 40, .inl u.2.2.2.2.1)), (h5, .inl (cI, 40, .inl u.2.2.2.2.2.1))] := hD.sub [0, 1, 2, 3, 4, 5] (by decide) rfl
      refine my_bz_eq (x := true) (tgt := 44) hx hb dX6_compareGaps_39 (by decide) (fun h9 => absurd h9 (by decide)) (fun _ => ?_)
      refine lv_iconst (v := 0) hx hb dX6_compareGaps_42 (by decide) ?_
      have hP9 : va_P D vwCl (wM cC cI cJ h0 h1 h2 h3 h4 h5 (u.1, (u.2.1, (u.2.2.1, (u.2.2.2.1, (u.2.2.2.2.1, (u.2.2.2.2.2.1, (u.2.2.2.2.2.2.1, 1)))))))) _ := hP
      have hD9 : va_D A (wM cC cI cJ h0 h1 h2 h3 h4 h5 (u.1, (u.2.1, (u.2.2.1, (u.2.2.2.1, (u.2.2.2.2.1, (u.2.2.2.2.2.1, (u.2.2.2.2.2.2.1, 1)))))))) := hD
      refine W.widen (k := 6) (n := 432) (Nat.le_of_ble_eq_true rfl) (Nat.le_of_ble_eq_true rfl) ?_
      have hf := Option.some.inj hf
      have hf1 := congrArg Prod.fst hf
      have hf2 := congrArg Prod.snd hf
      exact W.iret (v := 0) hx hb hr (fun t ht hW => ⟨⟨0, (u.1, (u.2.1, (u.2.2.1, (u.2.2.2.1, (u.2.2.2.2.1, (u.2.2.2.2.2.1, (u.2.2.2.2.2.2.1, 1))))))), rfl, ⟨hf1, hf2⟩, by rw [ht]; exact hP9, va_K.moved hW.alike hK, hD9⟩, hS.F ht⟩) hS.2.2 dX6_compareGaps_43
    · rw [if_neg c2] at hf
      refine lv_iload_n hx hb dX6_compareGaps_15 rfl (lv_at hl 3 rfl) ?_
      refine my_callPi (As := [.int a2]) (n := 1) (rest := [.ref h0]) ⟨hx, hb, hml, hown, hts⟩ (m_X6_isSlot l a2 _ rfl) gX6_compareGaps_X6_isSlot rfl ⟨rfl, rfl⟩ (by decide +kernel) ⟨Nat.le_of_ble_eq_true rfl, Nat.le_of_ble_eq_true rfl⟩ ⟨Nat.le_of_ble_eq_true rfl, Nat.le_of_ble_eq_true rfl⟩ hl.1 rfl rfl (Nat.le_of_ble_eq_true rfl) dX6_compareGaps_16 ?_
      refine my_bz_eq (x := (f_X6_isSlot a2)) (tgt := 34) hx hb dX6_compareGaps_19 (by decide) (fun c3 => ?_) (fun c3 => ?_)
      · rw [if_pos c3] at hf
        refine lv_iconst (v := 0) hx hb dX6_compareGaps_34 (by decide) ?_
        refine lv_iconst (v := 1) hx hb dX6_compareGaps_35 (by decide) ?_
        refine my_callMi (As := [.int (b2i false), .int 1]) (n := 2) (rest := []) (wr := []) ⟨hx, hb, hml, hown, hts⟩ hK hP hD hS hA [0, 1, 2, 3, 4, 5] [] rfl rfl (by decide) (by decide) (by decide) (m_X6_no l D cC cI cJ h0 h1 h2 h3 h4 h5 u s.heap.size false 1 _ (no_f u 1)) gX6_compareGaps_X6_no rfl ⟨rfl, rfl⟩ (ci := 5) rfl rfl (by decide +kernel) ⟨Nat.le_of_ble_eq_true rfl, Nat.le_of_ble_eq_true rfl⟩ ⟨Nat.le_of_ble_eq_true rfl, Nat.le_of_ble_eq_true rfl⟩ hl.1 rfl rfl (Nat.le_of_ble_eq_true rfl) dX6_compareGaps_36 (fun r9 u9 H locs hw hP hD hS => ?_)
        obtain ⟨rfl, rfl⟩ := hw
        have hP : va_P D vwCl [(h0, .inr (5, [.ref h1, .ref h2, .ref h3, .int u.2.2.2.1, .ref h4, .ref h5, .int u.2.2.2.2.2.2.1, .int 1])), (h1, .inl (cJ, 8, .inr (.inl u.1))), (h2, .inl (cI, 8, .inl u.2.1)), (h3, .inl (cJ, 8, .inr (.inl u.2.2.1))), (h4, .inl (cC, 40, .inl u.2.2.2.2.1)), (h5, .inl (cI, 40, .inl u.2.2.2.2.2.1))] H := hP.sub [0, 1, 2, 3, 4, 5] rfl
        have hD : va_D A [(h0, .inr (5, [.ref h1, .ref h2, .ref h3, .int u.2.2.2.1, .ref h4, .ref h5, .int u.2.2.2.2.2.2.1, .int 1])), (h1, .inl (cJ, 8, .inr (.inl u.1))), (h2, .inl (cI, 8, .inl u.2.1)), (h3, .inl (cJ, 8, .inr (.inl u.2.2.1))), (h4, .inl (cC, 40, .inl u.2.2.2.2.1)), (h5, .inl (cI, 40, .inl u.2.2.2.2.2.1))] := hD.sub [0, 1, 2, 3, 4, 5] (by decide) rfl
        refine my_bz_eq (x := true) (tgt := 44) hx hb dX6_compareGaps_39 (by decide) (fun h9 => absurd h9 (by decide)) (fun _ => ?_)
        refine lv_iconst (v := 0) hx hb dX6_compareGaps_42 (by decide) ?_
        have hP9 : va_P D vwCl (wM cC cI cJ h0 h1 h2 h3 h4 h5 (u.1, (u.2.1, (u.2.2.1, (u.2.2.2.1, (u.2.2.2.2.1, (u.2.2.2.2.2.1, (u.2.2.2.2.2.2.1, 1)))))))) _ := hP
        have hD9 : va_D A (wM cC cI cJ h0 h1 h2 h3 h4 h5 (u.1, (u.2.1, (u.2.2.1, (u.2.2.2.1, (u.2.2.2.2.1, (u.2.2.2.2.2.1, (u.2.2.2.2.2.2.1, 1)))))))) := hD
        refine W.widen (k := 6) (n := 432) (Nat.le_of_ble_eq_true rfl) (Nat.le_of_ble_eq_true rfl) ?_
        have hf := Option.some.inj hf
        have hf1 := congrArg Prod.fst hf
        have hf2 := congrArg Prod.snd hf
        exact W.iret (v := 0) hx hb hr (fun t ht hW => ⟨⟨0, (u.1, (u.2.1, (u.2.2.1, (u.2.2.2.1, (u.2.2.2.2.1, (u.2.2.2.2.2.1, (u.2.2.2.2.2.2.1, 1))))))), rfl, ⟨hf1, hf2⟩, by rw [ht]; exact hP9, va_K.moved hW.alike hK, hD9⟩, hS.F ht⟩) hS.2.2 dX6_compareGaps_43
      · rw [if_neg c3] at hf
        refine lv_iload hx hb dX6_compareGaps_22 (lv_at hl 4 rfl) ?_
        refine my_callPi (As := [.int a3]) (n := 1) (rest := [.ref h0]) ⟨hx, hb, hml, hown, hts⟩ (m_X6_isSlot l a3 _ rfl) gX6_compareGaps_X6_isSlot rfl ⟨rfl, rfl⟩ (by decide +kernel) ⟨Nat.le_of_ble_eq_true rfl, Nat.le_of_ble_eq_true rfl⟩ ⟨Nat.le_of_ble_eq_true rfl, Nat.le_of_ble_eq_true rfl⟩ hl.1 rfl rfl (Nat.le_of_ble_eq_true rfl) dX6_compareGaps_24 ?_
        refine my_bz_eq (x := (f_X6_isSlot a3)) (tgt := 34) hx hb dX6_compareGaps_27 (by decide) (fun c4 => ?_) (fun c4 => ?_)
        · rw [if_pos c4] at hf
          refine lv_iconst (v := 0) hx hb dX6_compareGaps_34 (by decide) ?_
          refine lv_iconst (v := 1) hx hb dX6_compareGaps_35 (by decide) ?_
          refine my_callMi (As := [.int (b2i false), .int 1]) (n := 2) (rest := []) (wr := []) ⟨hx, hb, hml, hown, hts⟩ hK hP hD hS hA [0, 1, 2, 3, 4, 5] [] rfl rfl (by decide) (by decide) (by decide) (m_X6_no l D cC cI cJ h0 h1 h2 h3 h4 h5 u s.heap.size false 1 _ (no_f u 1)) gX6_compareGaps_X6_no rfl ⟨rfl, rfl⟩ (ci := 5) rfl rfl (by decide +kernel) ⟨Nat.le_of_ble_eq_true rfl, Nat.le_of_ble_eq_true rfl⟩ ⟨Nat.le_of_ble_eq_true rfl, Nat.le_of_ble_eq_true rfl⟩ hl.1 rfl rfl (Nat.le_of_ble_eq_true rfl) dX6_compareGaps_36 (fun r9 u9 H locs hw hP hD hS => ?_)
          obtain ⟨rfl, rfl⟩ := hw
          have hP : va_P D vwCl [(h0, .inr (5, [.ref h1, .ref h2, .ref h3, .int u.2.2.2.1, .ref h4, .ref h5, .int u.2.2.2.2.2.2.1, .int 1])), (h1, .inl (cJ, 8, .inr (.inl u.1))), (h2, .inl (cI, 8, .inl u.2.1)), (h3, .inl (cJ, 8, .inr (.inl u.2.2.1))), (h4, .inl (cC, 40, .inl u.2.2.2.2.1)), (h5, .inl (cI, 40, .inl u.2.2.2.2.2.1))] H := hP.sub [0, 1, 2, 3, 4, 5] rfl
          have hD : va_D A [(h0, .inr (5, [.ref h1, .ref h2, .ref h3, .int u.2.2.2.1, .ref h4, .ref h5, .int u.2.2.2.2.2.2.1, .int 1])), (h1, .inl (cJ, 8, .inr (.inl u.1))), (h2, .inl (cI, 8, .inl u.2.1)), (h3, .inl (cJ, 8, .inr (.inl u.2.2.1))), (h4, .inl (cC, 40, .inl u.2.2.2.2.1)), (h5, .inl (cI, 40, .inl u.2.2.2.2.2.1))] := hD.sub [0, 1, 2, 3, 4, 5] (by decide) rfl
          refine my_bz_eq (x := true) (tgt := 44) hx hb dX6_compareGaps_39 (by decide) (fun h9 => absurd h9 (by decide)) (fun _ => ?_)
          refine lv_iconst (v := 0) hx hb dX6_compareGaps_42 (by decide) ?_
          have hP9 : va_P D vwCl (wM cC cI cJ h0 h1 h2 h3 h4 h5 (u.1, (u.2.1, (u.2.2.1, (u.2.2.2.1, (u.2.2.2.2.1, (u.2.2.2.2.2.1, (u.2.2.2.2.2.2.1, 1)))))))) _ := hP
          have hD9 : va_D A (wM cC cI cJ h0 h1 h2 h3 h4 h5 (u.1, (u.2.1, (u.2.2.1, (u.2.2.2.1, (u.2.2.2.2.1, (u.2.2.2.2.2.1, (u.2.2.2.2.2.2.1, 1)))))))) := hD
          refine W.widen (k := 6) (n := 432) (Nat.le_of_ble_eq_true rfl) (Nat.le_of_ble_eq_true rfl) ?_
          have hf := Option.some.inj hf
          have hf1 := congrArg Prod.fst hf
          have hf2 := congrArg Prod.snd hf
          exact W.iret (v := 0) hx hb hr (fun t ht hW => ⟨⟨0, (u.1, (u.2.1, (u.2.2.1, (u.2.2.2.1, (u.2.2.2.2.1, (u.2.2.2.2.2.1, (u.2.2.2.2.2.2.1, 1))))))), rfl, ⟨hf1, hf2⟩, by rw [ht]; exact hP9, va_K.moved hW.alike hK, hD9⟩, hS.F ht⟩) hS.2.2 dX6_compareGaps_43
        · rw [if_neg c4] at hf
          refine lv_iconst (v := 1) hx hb dX6_compareGaps_30 (by decide) ?_
          refine lv_goto (tgt := 35) hx hb dX6_compareGaps_31 (by decide) ?_
          refine lv_iconst (v := 1) hx hb dX6_compareGaps_35 (by decide) ?_
          refine my_callMi (As := [.int (b2i true), .int 1]) (n := 2) (rest := []) (wr := []) ⟨hx, hb, hml, hown, hts⟩ hK hP hD hS hA [0, 1, 2, 3, 4, 5] [] rfl rfl (by decide) (by decide) (by decide) (m_X6_no l D cC cI cJ h0 h1 h2 h3 h4 h5 u s.heap.size true 1 _ (no_t u 1)) gX6_compareGaps_X6_no rfl ⟨rfl, rfl⟩ (ci := 5) rfl rfl (by decide +kernel) ⟨Nat.le_of_ble_eq_true rfl, Nat.le_of_ble_eq_true rfl⟩ ⟨Nat.le_of_ble_eq_true rfl, Nat.le_of_ble_eq_true rfl⟩ hl.1 rfl rfl (Nat.le_of_ble_eq_true rfl) dX6_compareGaps_36 (fun r9 u9 H locs hw hP hD hS => ?_)
          obtain ⟨rfl, rfl⟩ := hw
          have hP : va_P D vwCl [(h0, .inr (5, [.ref h1, .ref h2, .ref h3, .int u.2.2.2.1, .ref h4, .ref h5, .int u.2.2.2.2.2.2.1, .int 0])), (h1, .inl (cJ, 8, .inr (.inl u.1))), (h2, .inl (cI, 8, .inl u.2.1)), (h3, .inl (cJ, 8, .inr (.inl u.2.2.1))), (h4, .inl (cC, 40, .inl u.2.2.2.2.1)), (h5, .inl (cI, 40, .inl u.2.2.2.2.2.1))] H := hP.sub [0, 1, 2, 3, 4, 5] rfl
          have hD : va_D A [(h0, .inr (5, [.ref h1, .ref h2, .ref h3, .int u.2.2.2.1, .ref h4, .ref h5, .int u.2.2.2.2.2.2.1, .int 0])), (h1, .inl (cJ, 8, .inr (.inl u.1))), (h2, .inl (cI, 8, .inl u.2.1)), (h3, .inl (cJ, 8, .inr (.inl u.2.2.1))), (h4, .inl (cC, 40, .inl u.2.2.2.2.1)), (h5, .inl (cI, 40, .inl u.2.2.2.2.2.1))] := hD.sub [0, 1, 2, 3, 4, 5] (by decide) rfl
          refine my_bz_eq (x := false) (tgt := 44) hx hb dX6_compareGaps_39 (by decide) (fun _ => ?_) (fun h9 => absurd h9 (by decide))
          refine lv_aload_n hx hb dX6_compareGaps_44 rfl (lv_at hl 0 rfl) ?_
          refine lv_aload_n hx hb dX6_compareGaps_45 rfl (lv_at hl 0 rfl) ?_
          refine va_get (D := D) (ci := 5) (v := .ref h1) (C := RX6) (T := TX6) (N := 8) hx hb hts q2 hown hK hP 0 rfl rfl 0 (by decide) q1 (fun _ h9 => h9) rfl dX6_compareGaps_46 ?_
          refine lv_iload_n hx hb dX6_compareGaps_49 rfl (lv_at hl 1 rfl) ?_
          obtain ⟨g5, hf⟩ := og_e hf
          refine va_lald hx hb hK hP 1 2 rfl rfl g5 dX6_compareGaps_50 ?_
          refine my_callPi (As := [.long (u.1 a0.toNatClampNeg)]) (n := 1) (rest := [.ref h0]) ⟨hx, hb, hml, hown, hts⟩ (m_X6_isEnd l (u.1 a0.toNatClampNeg) _ rfl) gX6_compareGaps_X6_isEnd rfl ⟨rfl, rfl⟩ (by decide +kernel) ⟨Nat.le_of_ble_eq_true rfl, Nat.le_of_ble_eq_true rfl⟩ ⟨Nat.le_of_ble_eq_true rfl, Nat.le_of_ble_eq_true rfl⟩ hl.1 rfl rfl (Nat.le_of_ble_eq_true rfl) dX6_compareGaps_51 ?_
          refine my_bz_ne (x := (f_X6_isEnd (u.1 a0.toNatClampNeg))) (tgt := 98) hx hb dX6_compareGaps_54 (by decide) (fun c6 => ?_) (fun c6 => ?_)
          · rw [if_neg c6] at hf
            refine lv_iconst (v := 0) hx hb dX6_compareGaps_98 (by decide) ?_
            refine lv_iconst (v := 2) hx hb dX6_compareGaps_99 (by decide) ?_
            refine my_callMi (As := [.int (b2i false), .int 2]) (n := 2) (rest := []) (wr := []) ⟨hx, hb, hml, hown, hts⟩ hK hP hD hS hA [0, 1, 2, 3, 4, 5] [] rfl rfl (by decide) (by decide) (by decide) (m_X6_no l D cC cI cJ h0 h1 h2 h3 h4 h5 (u.1, (u.2.1, (u.2.2.1, (u.2.2.2.1, (u.2.2.2.2.1, (u.2.2.2.2.2.1, (u.2.2.2.2.2.2.1, 0))))))) H.size false 2 _ (no_f (u.1, (u.2.1, (u.2.2.1, (u.2.2.2.1, (u.2.2.2.2.1, (u.2.2.2.2.2.1, (u.2.2.2.2.2.2.1, 0))))))) 2)) gX6_compareGaps_X6_no rfl ⟨rfl, rfl⟩ (ci := 5) rfl rfl (by decide +kernel) ⟨Nat.le_of_ble_eq_true rfl, Nat.le_of_ble_eq_true rfl⟩ ⟨Nat.le_of_ble_eq_true rfl, Nat.le_of_ble_eq_true rfl⟩ hl.1 rfl rfl (Nat.le_of_ble_eq_true rfl) dX6_compareGaps_100 (fun r9 u9 H locs hw hP hD hS => ?_)
            obtain ⟨rfl, rfl⟩ := hw
            have hP : va_P D vwCl [(h0, .inr (5, [.ref h1, .ref h2, .ref h3, .int u.2.2.2.1, .ref h4, .ref h5, .int u.2.2.2.2.2.2.1, .int 2])), (h1, .inl (cJ, 8, .inr (.inl u.1))), (h2, .inl (cI, 8, .inl u.2.1)), (h3, .inl (cJ, 8, .inr (.inl u.2.2.1))), (h4, .inl (cC, 40, .inl u.2.2.2.2.1)), (h5, .inl (cI, 40, .inl u.2.2.2.2.2.1))] H := hP.sub [0, 1, 2, 3, 4, 5] rfl
            have hD : va_D A [(h0, .inr (5, [.ref h1, .ref h2, .ref h3, .int u.2.2.2.1, .ref h4, .ref h5, .int u.2.2.2.2.2.2.1, .int 2])), (h1, .inl (cJ, 8, .inr (.inl u.1))), (h2, .inl (cI, 8, .inl u.2.1)), (h3, .inl (cJ, 8, .inr (.inl u.2.2.1))), (h4, .inl (cC, 40, .inl u.2.2.2.2.1)), (h5, .inl (cI, 40, .inl u.2.2.2.2.2.1))] := hD.sub [0, 1, 2, 3, 4, 5] (by decide) rfl
            refine my_bz_eq (x := true) (tgt := 108) hx hb dX6_compareGaps_103 (by decide) (fun h9 => absurd h9 (by decide)) (fun _ => ?_)
            refine lv_iconst (v := 0) hx hb dX6_compareGaps_106 (by decide) ?_
            have hP9 : va_P D vwCl (wM cC cI cJ h0 h1 h2 h3 h4 h5 (u.1, (u.2.1, (u.2.2.1, (u.2.2.2.1, (u.2.2.2.2.1, (u.2.2.2.2.2.1, (u.2.2.2.2.2.2.1, 2)))))))) _ := hP
            have hD9 : va_D A (wM cC cI cJ h0 h1 h2 h3 h4 h5 (u.1, (u.2.1, (u.2.2.1, (u.2.2.2.1, (u.2.2.2.2.1, (u.2.2.2.2.2.1, (u.2.2.2.2.2.2.1, 2)))))))) := hD
            refine W.widen (k := 6) (n := 432) (Nat.le_of_ble_eq_true rfl) (Nat.le_of_ble_eq_true rfl) ?_
            have hf := Option.some.inj hf
            have hf1 := congrArg Prod.fst hf
            have hf2 := congrArg Prod.snd hf
            exact W.iret (v := 0) hx hb hr (fun t ht hW => ⟨⟨0, (u.1, (u.2.1, (u.2.2.1, (u.2.2.2.1, (u.2.2.2.2.1, (u.2.2.2.2.2.1, (u.2.2.2.2.2.2.1, 2))))))), rfl, ⟨hf1, hf2⟩, by rw [ht]; exact hP9, va_K.moved hW.alike hK, hD9⟩, hS.F ht⟩) hS.2.2 dX6_compareGaps_107
          · rw [if_pos c6] at hf
            refine lv_aload_n hx hb dX6_compareGaps_57 rfl (lv_at hl 0 rfl) ?_
            refine va_get (D := D) (ci := 5) (v := .ref h1) (C := RX6) (T := TX6) (N := 8) hx hb hts q2 hown hK hP 0 rfl rfl 0 (by decide) q1 (fun _ h9 => h9) rfl dX6_compareGaps_58 ?_
            refine lv_iload_n hx hb dX6_compareGaps_61 rfl (lv_at hl 2 rfl) ?_
            obtain ⟨g7, hf⟩ := og_e hf
            refine va_lald hx hb hK hP 1 2 rfl rfl g7 dX6_compareGaps_62 ?_
            refine my_callPi (As := [.long (u.1 a1.toNatClampNeg)]) (n := 1) (rest := [.ref h0]) ⟨hx, hb, hml, hown, hts⟩ (m_X6_isEnd l (u.1 a1.toNatClampNeg) _ rfl) gX6_compareGaps_X6_isEnd rfl ⟨rfl, rfl⟩ (by decide +kernel) ⟨Nat.le_of_ble_eq_true rfl, Nat.le_of_ble_eq_true rfl⟩ ⟨Nat.le_of_ble_eq_true rfl, Nat.le_of_ble_eq_true rfl⟩ hl.1 rfl rfl (Nat.le_of_ble_eq_true rfl) dX6_compareGaps_63 ?_
            refine my_bz_ne (x := (f_X6_isEnd (u.1 a1.toNatClampNeg))) (tgt := 98) hx hb dX6_compareGaps_66 (by decide) (fun c8 => ?_) (fun c8 => ?_)
            · rw [if_neg c8] at hf
              refine lv_iconst (v := 0) hx hb dX6_compareGaps_98 (by decide) ?_
              refine lv_iconst (v := 2) hx hb dX6_compareGaps_99 (by decide) ?_
              refine my_callMi (As := [.int (b2i false), .int 2]) (n := 2) (rest := []) (wr := []) ⟨hx, hb, hml, hown, hts⟩ hK hP hD hS hA [0, 1, 2, 3, 4, 5] [] rfl rfl (by decide) (by decide) (by decide) (m_X6_no l D cC cI cJ h0 h1 h2 h3 h4 h5 (u.1, (u.2.1, (u.2.2.1, (u.2.2.2.1, (u.2.2.2.2.1, (u.2.2.2.2.2.1, (u.2.2.2.2.2.2.1, 0))))))) H.size false 2 _ (no_f (u.1, (u.2.1, (u.2.2.1, (u.2.2.2.1, (u.2.2.2.2.1, (u.2.2.2.2.2.1, (u.2.2.2.2.2.2.1, 0))))))) 2)) gX6_compareGaps_X6_no rfl ⟨rfl, rfl⟩ (ci := 5) rfl rfl (by decide +kernel) ⟨Nat.le_of_ble_eq_true rfl, Nat.le_of_ble_eq_true rfl⟩ ⟨Nat.le_of_ble_eq_true rfl, Nat.le_of_ble_eq_true rfl⟩ hl.1 rfl rfl (Nat.le_of_ble_eq_true rfl) dX6_compareGaps_100 (fun r9 u9 H locs hw hP hD hS => ?_)
              obtain ⟨rfl, rfl⟩ := hw
              have hP : va_P D vwCl [(h0, .inr (5, [.ref h1, .ref h2, .ref h3, .int u.2.2.2.1, .ref h4, .ref h5, .int u.2.2.2.2.2.2.1, .int 2])), (h1, .inl (cJ, 8, .inr (.inl u.1))), (h2, .inl (cI, 8, .inl u.2.1)), (h3, .inl (cJ, 8, .inr (.inl u.2.2.1))), (h4, .inl (cC, 40, .inl u.2.2.2.2.1)), (h5, .inl (cI, 40, .inl u.2.2.2.2.2.1))] H := hP.sub [0, 1, 2, 3, 4, 5] rfl
              have hD : va_D A [(h0, .inr (5, [.ref h1, .ref h2, .ref h3, .int u.2.2.2.1, .ref h4, .ref h5, .int u.2.2.2.2.2.2.1, .int 2])), (h1, .inl (cJ, 8, .inr (.inl u.1))), (h2, .inl (cI, 8, .inl u.2.1)), (h3, .inl (cJ, 8, .inr (.inl u.2.2.1))), (h4, .inl (cC, 40, .inl u.2.2.2.2.1)), (h5, .inl (cI, 40, .inl u.2.2.2.2.2.1))] := hD.sub [0, 1, 2, 3, 4, 5] (by decide) rfl
              refine my_bz_eq (x := true) (tgt := 108) hx hb dX6_compareGaps_103 (by decide) (fun h9 => absurd h9 (by decide)) (fun _ => ?_)
              refine lv_iconst (v := 0) hx hb dX6_compareGaps_106 (by decide) ?_
              have hP9 : va_P D vwCl (wM cC cI cJ h0 h1 h2 h3 h4 h5 (u.1, (u.2.1, (u.2.2.1, (u.2.2.2.1, (u.2.2.2.2.1, (u.2.2.2.2.2.1, (u.2.2.2.2.2.2.1, 2)))))))) _ := hP
              have hD9 : va_D A (wM cC cI cJ h0 h1 h2 h3 h4 h5 (u.1, (u.2.1, (u.2.2.1, (u.2.2.2.1, (u.2.2.2.2.1, (u.2.2.2.2.2.1, (u.2.2.2.2.2.2.1, 2)))))))) := hD
              refine W.widen (k := 6) (n := 432) (Nat.le_of_ble_eq_true rfl) (Nat.le_of_ble_eq_true rfl) ?_
              have hf := Option.some.inj hf
              have hf1 := congrArg Prod.fst hf
              have hf2 := congrArg Prod.snd hf
              exact W.iret (v := 0) hx hb hr (fun t ht hW => ⟨⟨0, (u.1, (u.2.1, (u.2.2.1, (u.2.2.2.1, (u.2.2.2.2.1, (u.2.2.2.2.2.1, (u.2.2.2.2.2.2.1, 2))))))), rfl, ⟨hf1, hf2⟩, by rw [ht]; exact hP9, va_K.moved hW.alike hK, hD9⟩, hS.F ht⟩) hS.2.2 dX6_compareGaps_107
            · rw [if_pos c8] at hf
              refine lv_aload_n hx hb dX6_compareGaps_69 rfl (lv_at hl 0 rfl) ?_
              refine va_get (D := D) (ci := 5) (v := .ref h1) (C := RX6) (T := TX6) (N := 8) hx hb hts q2 hown hK hP 0 rfl rfl 0 (by decide) q1 (fun _ h9 => h9) rfl dX6_compareGaps_70 ?_
              refine lv_iload_n hx hb dX6_compareGaps_73 rfl (lv_at hl 3 rfl) ?_
              obtain ⟨g9, hf⟩ := og_e hf
              refine va_lald hx hb hK hP 1 2 rfl rfl g9 dX6_compareGaps_74 ?_
              refine my_callPi (As := [.long (u.1 a2.toNatClampNeg)]) (n := 1) (rest := [.ref h0]) ⟨hx, hb, hml, hown, hts⟩ (m_X6_isEnd l (u.1 a2.toNatClampNeg) _ rfl) gX6_compareGaps_X6_isEnd rfl ⟨rfl, rfl⟩ (by decide +kernel) ⟨Nat.le_of_ble_eq_true rfl, Nat.le_of_ble_eq_true rfl⟩ ⟨Nat.le_of_ble_eq_true rfl, Nat.le_of_ble_eq_true rfl⟩ hl.1 rfl rfl (Nat.le_of_ble_eq_true rfl) dX6_compareGaps_75 ?_
              refine my_bz_ne (x := (f_X6_isEnd (u.1 a2.toNatClampNeg))) (tgt := 98) hx hb dX6_compareGaps_78 (by decide) (fun c10 => ?_) (fun c10 => ?_)
              · rw [if_neg c10] at hf
                refine lv_iconst (v := 0) hx hb dX6_compareGaps_98 (by decide) ?_
                refine lv_iconst (v := 2) hx hb dX6_compareGaps_99 (by decide) ?_
                refine my_callMi (As := [.int (b2i false), .int 2]) (n := 2) (rest := []) (wr := []) ⟨hx, hb, hml, hown, hts⟩ hK hP hD hS hA [0, 1, 2, 3, 4, 5] [] rfl rfl (by decide) (by decide) (by decide) (m_X6_no l D cC cI cJ h0 h1 h2 h3 h4 h5 (u.1, (u.2.1, (u.2.2.1, (u.2.2.2.1, (u.2.2.2.2.1, (u.2.2.2.2.2.1, (u.2.2.2.2.2.2.1, 0))))))) H.size false 2 _ (no_f (u.1, (u.2.1, (u.2.2.1, (u.2.2.2.1, (u.2.2.2.2.1, (u.2.2.2.2.2.1, (u.2.2.2.2.2.2.1, 0))))))) 2)) gX6_compareGaps_X6_no rfl ⟨rfl, rfl⟩ (ci := 5) rfl rfl (by decide +kernel) ⟨Nat.le_of_ble_eq_true rfl, Nat.le_of_ble_eq_true rfl⟩ ⟨Nat.le_of_ble_eq_true rfl, Nat.le_of_ble_eq_true rfl⟩ hl.1 rfl rfl (Nat.le_of_ble_eq_true rfl) dX6_compareGaps_100 (fun r9 u9 H locs hw hP hD hS => ?_)
                obtain ⟨rfl, rfl⟩ := hw
                have hP : va_P D vwCl [(h0, .inr (5, [.ref h1, .ref h2, .ref h3, .int u.2.2.2.1, .ref h4, .ref h5, .int u.2.2.2.2.2.2.1, .int 2])), (h1, .inl (cJ, 8, .inr (.inl u.1))), (h2, .inl (cI, 8, .inl u.2.1)), (h3, .inl (cJ, 8, .inr (.inl u.2.2.1))), (h4, .inl (cC, 40, .inl u.2.2.2.2.1)), (h5, .inl (cI, 40, .inl u.2.2.2.2.2.1))] H := hP.sub [0, 1, 2, 3, 4, 5] rfl
                have hD : va_D A [(h0, .inr (5, [.ref h1, .ref h2, .ref h3, .int u.2.2.2.1, .ref h4, .ref h5, .int u.2.2.2.2.2.2.1, .int 2])), (h1, .inl (cJ, 8, .inr (.inl u.1))), (h2, .inl (cI, 8, .inl u.2.1)), (h3, .inl (cJ, 8, .inr (.inl u.2.2.1))), (h4, .inl (cC, 40, .inl u.2.2.2.2.1)), (h5, .inl (cI, 40, .inl u.2.2.2.2.2.1))] := hD.sub [0, 1, 2, 3, 4, 5] (by decide) rfl
                refine my_bz_eq (x := true) (tgt := 108) hx hb dX6_compareGaps_103 (by decide) (fun h9 => absurd h9 (by decide)) (fun _ => ?_)
                refine lv_iconst (v := 0) hx hb dX6_compareGaps_106 (by decide) ?_
                have hP9 : va_P D vwCl (wM cC cI cJ h0 h1 h2 h3 h4 h5 (u.1, (u.2.1, (u.2.2.1, (u.2.2.2.1, (u.2.2.2.2.1, (u.2.2.2.2.2.1, (u.2.2.2.2.2.2.1, 2)))))))) _ := hP
                have hD9 : va_D A (wM cC cI cJ h0 h1 h2 h3 h4 h5 (u.1, (u.2.1, (u.2.2.1, (u.2.2.2.1, (u.2.2.2.2.1, (u.2.2.2.2.2.1, (u.2.2.2.2.2.2.1, 2)))))))) := hD
                refine W.widen (k := 6) (n := 432) (Nat.le_of_ble_eq_true rfl) (Nat.le_of_ble_eq_true rfl) ?_
                have hf := Option.some.inj hf
                have hf1 := congrArg Prod.fst hf
                have hf2 := congrArg Prod.snd hf
                exact W.iret (v := 0) hx hb hr (fun t ht hW => ⟨⟨0, (u.1, (u.2.1, (u.2.2.1, (u.2.2.2.1, (u.2.2.2.2.1, (u.2.2.2.2.2.1, (u.2.2.2.2.2.2.1, 2))))))), rfl, ⟨hf1, hf2⟩, by rw [ht]; exact hP9, va_K.moved hW.alike hK, hD9⟩, hS.F ht⟩) hS.2.2 dX6_compareGaps_107
              · rw [if_pos c10] at hf
                refine lv_aload_n hx hb dX6_compareGaps_81 rfl (lv_at hl 0 rfl) ?_
                refine va_get (D := D) (ci := 5) (v := .ref h1) (C := RX6) (T := TX6) (N := 8) hx hb hts q2 hown hK hP 0 rfl rfl 0 (by decide) q1 (fun _ h9 => h9) rfl dX6_compareGaps_82 ?_
                refine lv_iload hx hb dX6_compareGaps_85 (lv_at hl 4 rfl) ?_
                obtain ⟨g11, hf⟩ := og_e hf
                refine va_lald hx hb hK hP 1 2 rfl rfl g11 dX6_compareGaps_87 ?_
                refine my_callPi (As := [.long (u.1 a3.toNatClampNeg)]) (n := 1) (rest := [.ref h0]) ⟨hx, hb, hml, hown, hts⟩ (m_X6_isEnd l (u.1 a3.toNatClampNeg) _ rfl) gX6_compareGaps_X6_isEnd rfl ⟨rfl, rfl⟩ (by decide +kernel) ⟨Nat.le_of_ble_eq_true rfl, Nat.le_of_ble_eq_true rfl⟩ ⟨Nat.le_of_ble_eq_true rfl, Nat.le_of_ble_eq_true rfl⟩ hl.1 rfl rfl (Nat.le_of_ble_eq_true rfl) dX6_compareGaps_88 ?_
                refine my_bz_ne (x := (f_X6_isEnd (u.1 a3.toNatClampNeg))) (tgt := 98) hx hb dX6_compareGaps_91 (by decide) (fun c12 => ?_) (fun c12 => ?_)
                · rw [if_neg c12] at hf
                  refine lv_iconst (v := 0) hx hb dX6_compareGaps_98 (by decide) ?_
                  refine lv_iconst (v := 2) hx hb dX6_compareGaps_99 (by decide) ?_
                  refine my_callMi (As := [.int (b2i false), .int 2]) (n := 2) (rest := []) (wr := []) ⟨hx, hb, hml, hown, hts⟩ hK hP hD hS hA [0, 1, 2, 3, 4, 5] [] rfl rfl (by decide) (by decide) (by decide) (m_X6_no l D cC cI cJ h0 h1 h2 h3 h4 h5 (u.1, (u.2.1, (u.2.2.1, (u.2.2.2.1, (u.2.2.2.2.1, (u.2.2.2.2.2.1, (u.2.2.2.2.2.2.1, 0))))))) H.size false 2 _ (no_f (u.1, (u.2.1, (u.2.2.1, (u.2.2.2.1, (u.2.2.2.2.1, (u.2.2.2.2.2.1, (u.2.2.2.2.2.2.1, 0))))))) 2)) gX6_compareGaps_X6_no rfl ⟨rfl, rfl⟩ (ci := 5) rfl rfl (by decide +kernel) ⟨Nat.le_of_ble_eq_true rfl, Nat.le_of_ble_eq_true rfl⟩ ⟨Nat.le_of_ble_eq_true rfl, Nat.le_of_ble_eq_true rfl⟩ hl.1 rfl rfl (Nat.le_of_ble_eq_true rfl) dX6_compareGaps_100 (fun r9 u9 H locs hw hP hD hS => ?_)
                  obtain ⟨rfl, rfl⟩ := hw
                  have hP : va_P D vwCl [(h0, .inr (5, [.ref h1, .ref h2, .ref h3, .int u.2.2.2.1, .ref h4, .ref h5, .int u.2.2.2.2.2.2.1, .int 2])), (h1, .inl (cJ, 8, .inr (.inl u.1))), (h2, .inl (cI, 8, .inl u.2.1)), (h3, .inl (cJ, 8, .inr (.inl u.2.2.1))), (h4, .inl (cC, 40, .inl u.2.2.2.2.1)), (h5, .inl (cI, 40, .inl u.2.2.2.2.2.1))] H := hP.sub [0, 1, 2, 3, 4, 5] rfl
                  have hD : va_D A [(h0, .inr (5, [.ref h1, .ref h2, .ref h3, .int u.2.2.2.1, .ref h4, .ref h5, .int u.2.2.2.2.2.2.1, .int 2])), (h1, .inl (cJ, 8, .inr (.inl u.1))), (h2, .inl (cI, 8, .inl u.2.1)), (h3, .inl (cJ, 8, .inr (.inl u.2.2.1))), (h4, .inl (cC, 40, .inl u.2.2.2.2.1)), (h5, .inl (cI, 40, .inl u.2.2.2.2.2.1))] := hD.sub [0, 1, 2, 3, 4, 5] (by decide) rfl
                  refine my_bz_eq (x := true) (tgt := 108) hx hb dX6_compareGaps_103 (by decide) (fun h9 => absurd h9 (by decide)) (fun _ => ?_)
                  refine lv_iconst (v := 0) hx hb dX6_compareGaps_106 (by decide) ?_
                  have hP9 : va_P D vwCl (wM cC cI cJ h0 h1 h2 h3 h4 h5 (u.1, (u.2.1, (u.2.2.1, (u.2.2.2.1, (u.2.2.2.2.1, (u.2.2.2.2.2.1, (u.2.2.2.2.2.2.1, 2)))))))) _ := hP
                  have hD9 : va_D A (wM cC cI cJ h0 h1 h2 h3 h4 h5 (u.1, (u.2.1, (u.2.2.1, (u.2.2.2.1, (u.2.2.2.2.1, (u.2.2.2.2.2.1, (u.2.2.2.2.2.2.1, 2)))))))) := hD
                  refine W.widen (k := 6) (n := 432) (Nat.le_of_ble_eq_true rfl) (Nat.le_of_ble_eq_true rfl) ?_
                  have hf := Option.some.inj hf
                  have hf1 := congrArg Prod.fst hf
                  have hf2 := congrArg Prod.snd hf
                  exact W.iret (v := 0) hx hb hr (fun t ht hW => ⟨⟨0, (u.1, (u.2.1, (u.2.2.1, (u.2.2.2.1, (u.2.2.2.2.1, (u.2.2.2.2.2.1, (u.2.2.2.2.2.2.1, 2))))))), rfl, ⟨hf1, hf2⟩, by rw [ht]; exact hP9, va_K.moved hW.alike hK, hD9⟩, hS.F ht⟩) hS.2.2 dX6_compareGaps_107
                · rw [if_pos c12] at hf
                  refine lv_iconst (v := 1) hx hb dX6_compareGaps_94 (by decide) ?_
                  refine lv_goto (tgt := 99) hx hb dX6_compareGaps_95 (by decide) ?_
                  refine lv_iconst (v := 2) hx hb dX6_compareGaps_99 (by decide) ?_
                  refine my_callMi (As := [.int (b2i true), .int 2]) (n := 2) (rest := []) (wr := []) ⟨hx, hb, hml, hown, hts⟩ hK hP hD hS hA [0, 1, 2, 3, 4, 5] [] rfl rfl (by decide) (by decide) (by decide) (m_X6_no l D cC cI cJ h0 h1 h2 h3 h4 h5 (u.1, (u.2.1, (u.2.2.1, (u.2.2.2.1, (u.2.2.2.2.1, (u.2.2.2.2.2.1, (u.2.2.2.2.2.2.1, 0))))))) H.size true 2 _ (no_t (u.1, (u.2.1, (u.2.2.1, (u.2.2.2.1, (u.2.2.2.2.1, (u.2.2.2.2.2.1, (u.2.2.2.2.2.2.1, 0))))))) 2)) gX6_compareGaps_X6_no rfl ⟨rfl, rfl⟩ (ci := 5) rfl rfl (by decide +kernel) ⟨Nat.le_of_ble_eq_true rfl, Nat.le_of_ble_eq_true rfl⟩ ⟨Nat.le_of_ble_eq_true rfl, Nat.le_of_ble_eq_true rfl⟩ hl.1 rfl rfl (Nat.le_of_ble_eq_true rfl) dX6_compareGaps_100 (fun r9 u9 H locs hw hP hD hS => ?_)
                  obtain ⟨rfl, rfl⟩ := hw
                  have hP : va_P D vwCl [(h0, .inr (5, [.ref h1, .ref h2, .ref h3, .int u.2.2.2.1, .ref h4, .ref h5, .int u.2.2.2.2.2.2.1, .int 0])), (h1, .inl (cJ, 8, .inr (.inl u.1))), (h2, .inl (cI, 8, .inl u.2.1)), (h3, .inl (cJ, 8, .inr (.inl u.2.2.1))), (h4, .inl (cC, 40, .inl u.2.2.2.2.1)), (h5, .inl (cI, 40, .inl u.2.2.2.2.2.1))] H := hP.sub [0, 1, 2, 3, 4, 5] rfl
                  have hD : va_D A [(h0, .inr (5, [.ref h1, .ref h2, .ref h3, .int u.2.2.2.1, .ref h4, .ref h5, .int u.2.2.2.2.2.2.1, .int 0])), (h1, .inl (cJ, 8, .inr (.inl u.1))), (h2, .inl (cI, 8, .inl u.2.1)), (h3, .inl (cJ, 8, .inr (.inl u.2.2.1))), (h4, .inl (cC, 40, .inl u.2.2.2.2.1)), (h5, .inl (cI, 40, .inl u.2.2.2.2.2.1))] := hD.sub [0, 1, 2, 3, 4, 5] (by decide) rfl
                  refine my_bz_eq (x := false) (tgt := 108) hx hb dX6_compareGaps_103 (by decide) (fun _ => ?_) (fun h9 => absurd h9 (by decide))
                  refine lv_aload_n hx hb dX6_compareGaps_108 rfl (lv_at hl 0 rfl) ?_
                  refine va_get (D := D) (ci := 5) (v := .ref h1) (C := RX6) (T := TX6) (N := 8) hx hb hts q2 hown hK hP 0 rfl rfl 0 (by decide) q1 (fun _ h9 => h9) rfl dX6_compareGaps_109 ?_
                  refine lv_iload_n hx hb dX6_compareGaps_112 rfl (lv_at hl 1 rfl) ?_
                  obtain ⟨g13, hf⟩ := og_e hf
                  refine va_lald hx hb hK hP 1 2 rfl rfl g13 dX6_compareGaps_113 ?_
                  refine lv_aload_n hx hb dX6_compareGaps_114 rfl (lv_at hl 0 rfl) ?_
                  refine va_get (D := D) (ci := 5) (v := .ref h1) (C := RX6) (T := TX6) (N := 8) hx hb hts q2 hown hK hP 0 rfl rfl 0 (by decide) q1 (fun _ h9 => h9) rfl dX6_compareGaps_115 ?_
                  refine lv_iload_n hx hb dX6_compareGaps_118 rfl (lv_at hl 2 rfl) ?_
                  obtain ⟨g14, hf⟩ := og_e hf
                  refine va_lald hx hb hK hP 1 2 rfl rfl g14 dX6_compareGaps_119 ?_
                  obtain ⟨z15, ez15, hf⟩ := ob_e hf
                  refine my_callA (As := [.long (u.1 a0.toNatClampNeg), .long (u.1 a1.toNatClampNeg)]) (n := 2) (rest := []) (wc := []) (wr := [(h0, .inr (5, [.ref h1, .ref h2, .ref h3, .int u.2.2.2.1, .ref h4, .ref h5, .int u.2.2.2.2.2.2.1, .int 0])), (h1, .inl (cJ, 8, .inr (.inl u.1))), (h2, .inl (cI, 8, .inl u.2.1)), (h3, .inl (cJ, 8, .inr (.inl u.2.2.1))), (h4, .inl (cC, 40, .inl u.2.2.2.2.1)), (h5, .inl (cI, 40, .inl u.2.2.2.2.2.1))]) ⟨hx, hb, hml, hown, hts⟩ hK hP hD hS hA [] [0, 1, 2, 3, 4, 5] rfl rfl (by decide) (by decide) (by decide) (m_X6_far l D cC cI cJ  H.size (u.1 a0.toNatClampNeg) (u.1 a1.toNatClampNeg) _ ez15) gX6_compareGaps_X6_far rfl ⟨rfl, rfl⟩ (by decide +kernel) ⟨Nat.le_of_ble_eq_true rfl, Nat.le_of_ble_eq_true rfl⟩ ⟨Nat.le_of_ble_eq_true rfl, Nat.le_of_ble_eq_true rfl⟩ hl.1 rfl rfl (Nat.le_of_ble_eq_true rfl) dX6_compareGaps_120 (fun u9 b16 H locs hw hP hD hS => ?_)
                  obtain rfl := hw.symm
                  have hP : va_P D vwCl [(h0, .inr (5, [.ref h1, .ref h2, .ref h3, .int u.2.2.2.1, .ref h4, .ref h5, .int u.2.2.2.2.2.2.1, .int 0])), (h1, .inl (cJ, 8, .inr (.inl u.1))), (h2, .inl (cI, 8, .inl u.2.1)), (h3, .inl (cJ, 8, .inr (.inl u.2.2.1))), (h4, .inl (cC, 40, .inl u.2.2.2.2.1)), (h5, .inl (cI, 40, .inl u.2.2.2.2.2.1)), (b16, .inl (cJ, 72, .inr (.inl z15)))] H := hP
                  have hD : va_D A [(h0, .inr (5, [.ref h1, .ref h2, .ref h3, .int u.2.2.2.1, .ref h4, .ref h5, .int u.2.2.2.2.2.2.1, .int 0])), (h1, .inl (cJ, 8, .inr (.inl u.1))), (h2, .inl (cI, 8, .inl u.2.1)), (h3, .inl (cJ, 8, .inr (.inl u.2.2.1))), (h4, .inl (cC, 40, .inl u.2.2.2.2.1)), (h5, .inl (cI, 40, .inl u.2.2.2.2.2.1)), (b16, .inl (cJ, 72, .inr (.inl z15)))] := hD
                  refine lv_astore (lv' := [(5, .ref b16), (0, .ref h0), (1, .int a0), (2, .int a1), (3, .int a2), (4, .int a3)]) hx hb dX6_compareGaps_123 hl (by decide) rfl (fun ls hl => ?_)
                  refine lv_aload_n hx hb dX6_compareGaps_125 rfl (lv_at hl 1 rfl) ?_
                  refine va_get (D := D) (ci := 5) (v := .ref h1) (C := RX6) (T := TX6) (N := 8) hx hb hts q2 hown hK hP 0 rfl rfl 0 (by decide) q1 (fun _ h9 => h9) rfl dX6_compareGaps_126 ?_
                  refine lv_iload_n hx hb dX6_compareGaps_129 rfl (lv_at hl 4 rfl) ?_
                  obtain ⟨g17, hf⟩ := og_e hf
                  refine va_lald hx hb hK hP 1 2 rfl rfl g17 dX6_compareGaps_130 ?_
                  refine lv_aload_n hx hb dX6_compareGaps_131 rfl (lv_at hl 1 rfl) ?_
                  refine va_get (D := D) (ci := 5) (v := .ref h1) (C := RX6) (T := TX6) (N := 8) hx hb hts q2 hown hK hP 0 rfl rfl 0 (by decide) q1 (fun _ h9 => h9) rfl dX6_compareGaps_132 ?_
                  refine lv_iload hx hb dX6_compareGaps_135 (lv_at hl 5 rfl) ?_
                  obtain ⟨g18, hf⟩ := og_e hf
                  refine va_lald hx hb hK hP 1 2 rfl rfl g18 dX6_compareGaps_137 ?_
                  obtain ⟨z19, ez19, hf⟩ := ob_e hf
                  refine my_callA (As := [.long (u.1 a2.toNatClampNeg), .long (u.1 a3.toNatClampNeg)]) (n := 2) (rest := []) (wc := []) (wr := [(h0, .inr (5, [.ref h1, .ref h2, .ref h3, .int u.2.2.2.1, .ref h4, .ref h5, .int u.2.2.2.2.2.2.1, .int 0])), (h1, .inl (cJ, 8, .inr (.inl u.1))), (h2, .inl (cI, 8, .inl u.2.1)), (h3, .inl (cJ, 8, .inr (.inl u.2.2.1))), (h4, .inl (cC, 40, .inl u.2.2.2.2.1)), (h5, .inl (cI, 40, .inl u.2.2.2.2.2.1)), (b16, .inl (cJ, 72, .inr (.inl z15)))]) ⟨hx, hb, hml, hown, hts⟩ hK hP hD hS hA [] [0, 1, 2, 3, 4, 5, 6] rfl rfl (by decide) (by decide) (by decide) (m_X6_far l D cC cI cJ  H.size (u.1 a2.toNatClampNeg) (u.1 a3.toNatClampNeg) _ ez19) gX6_compareGaps_X6_far rfl ⟨rfl, rfl⟩ (by decide +kernel) ⟨Nat.le_of_ble_eq_true rfl, Nat.le_of_ble_eq_true rfl⟩ ⟨Nat.le_of_ble_eq_true rfl, Nat.le_of_ble_eq_true rfl⟩ hl.1 rfl rfl (Nat.le_of_ble_eq_true rfl) dX6_compareGaps_138 (fun u9 b20 H locs hw hP hD hS => ?_)
                  obtain rfl := hw.symm
                  have hP : va_P D vwCl [(h0, .inr (5, [.ref h1, .ref h2, .ref h3, .int u.2.2.2.1, .ref h4, .ref h5, .int u.2.2.2.2.2.2.1, .int 0])), (h1, .inl (cJ, 8, .inr (.inl u.1))), (h2, .inl (cI, 8, .inl u.2.1)), (h3, .inl (cJ, 8, .inr (.inl u.2.2.1))), (h4, .inl (cC, 40, .inl u.2.2.2.2.1)), (h5, .inl (cI, 40, .inl u.2.2.2.2.2.1)), (b16, .inl (cJ, 72, .inr (.inl z15))), (b20, .inl (cJ, 72, .inr (.inl z19)))] H := hP
                  have hD : va_D A [(h0, .inr (5, [.ref h1, .ref h2, .ref h3, .int u.2.2.2.1, .ref h4, .ref h5, .int u.2.2.2.2.2.2.1, .int 0])), (h1, .inl (cJ, 8, .inr (.inl u.1))), (h2, .inl (cI, 8, .inl u.2.1)), (h3, .inl (cJ, 8, .inr (.inl u.2.2.1))), (h4, .inl (cC, 40, .inl u.2.2.2.2.1)), (h5, .inl (cI, 40, .inl u.2.2.2.2.2.1)), (b16, .inl (cJ, 72, .inr (.inl z15))), (b20, .inl (cJ, 72, .inr (.inl z19)))] := hD
                  refine lv_astore (lv' := [(6, .ref b20), (5, .ref b16), (0, .ref h0), (1, .int a0), (2, .int a1), (3, .int a2), (4, .int a3)]) hx hb dX6_compareGaps_141 hl (by decide) rfl (fun ls hl => ?_)
                  refine lv_bipush (v := 71) hx hb dX6_compareGaps_143 (by decide) ?_
                  refine lv_istore (lv' := [(7, .int 71), (6, .ref b20), (5, .ref b16), (0, .ref h0), (1, .int a0), (2, .int a1), (3, .int a2), (4, .int a3)]) hx hb dX6_compareGaps_145 hl (by decide) rfl (fun ls hl => ?_)
                  have loop147 : ∀ (n147 : Nat) (v147_7 : Int32) (s147 : StM) (s147_6 : (Nat → Int64)) (s147_7 : (Nat → Int64)) (H : Heap) (locs : List Loc) (hP : va_P D vwCl [(h0, .inr (5, [.ref h1, .ref h2, .ref h3, .int s147.2.2.2.1, .ref h4, .ref h5, .int s147.2.2.2.2.2.2.1, .int s147.2.2.2.2.2.2.2])), (h1, .inl (cJ, 8, .inr (.inl s147.1))), (h2, .inl (cI, 8, .inl s147.2.1)), (h3, .inl (cJ, 8, .inr (.inl s147.2.2.1))), (h4, .inl (cC, 40, .inl s147.2.2.2.2.1)), (h5, .inl (cI, 40, .inl s147.2.2.2.2.2.1)), (b16, .inl (cJ, 72, .inr (.inl s147_6))), (b20, .inl (cJ, 72, .inr (.inl s147_7)))] H) (hD : va_D A [(h0, .inr (5, [.ref h1, .ref h2, .ref h3, .int s147.2.2.2.1, .ref h4, .ref h5, .int s147.2.2.2.2.2.2.1, .int s147.2.2.2.2.2.2.2])), (h1, .inl (cJ, 8, .inr (.inl s147.1))), (h2, .inl (cI, 8, .inl s147.2.1)), (h3, .inl (cJ, 8, .inr (.inl s147.2.2.1))), (h4, .inl (cC, 40, .inl s147.2.2.2.2.1)), (h5, .inl (cI, 40, .inl s147.2.2.2.2.2.1)), (b16, .inl (cJ, 72, .inr (.inl s147_6))), (b20, .inl (cJ, 72, .inr (.inl s147_7)))]) (hS : va_S A s.heap H locs) (ls : Array Slot), lv_has ls 8 [(7, .int v147_7), (6, .ref b20), (5, .ref b16)] → f_X6_compareGaps_L147 u a0 a1 a2 a3 n147 v147_7 s147 s147_6 s147_7 = some res → W p l e (rmX6_compareGaps) s m ([.ref h0, .int a0, .int a1, .int a2, .int a3] : List Value).toArray below meth c H locs 6 432 (MQ below (va_Qi (fun r v => r = res.1 ∧ v = res.2) (my_B D vwCl (KT cC cI cJ) A (fun v : StM => (wM cC cI cJ h0 h1 h2 h3 h4 h5 v))) A) ([.ref h0, .int a0, .int a1, .int a2, .int a3] : List Value).toArray s 6 432 A) (F0 m 147 ls []) := by
                    intro n147
                    induction n147 with
                    | zero => intro v147_7 s147 s147_6 s147_7 H locs hP hD hS ls hl hf; rw [f_X6_compareGaps_L147] at hf; cases hf
                    | succ n147 ih147 =>
                      intro v147_7 s147 s147_6 s147_7 H locs hP hD hS ls hl hf
                      rw [f_X6_compareGaps_L147] at hf
                      refine lv_iload hx hb dX6_compareGaps_147 (lv_at hl 0 rfl) ?_
                      refine my_if_lt (tgt := 192) hx hb dX6_compareGaps_149 (by decide) (fun c21 => ?_) (fun c21 => ?_)
                      · rw [if_pos c21] at hf
                        refine lv_iconst (v := 0) hx hb dX6_compareGaps_192 (by decide) ?_
                        have hP9 : va_P D vwCl (wM cC cI cJ h0 h1 h2 h3 h4 h5 s147) _ := hP.sub [0, 1, 2, 3, 4, 5] rfl
                        have hD9 : va_D A (wM cC cI cJ h0 h1 h2 h3 h4 h5 s147) := hD.sub [0, 1, 2, 3, 4, 5] (by decide) rfl
                        have hf := Option.some.inj hf
                        have hf1 := congrArg Prod.fst hf
                        have hf2 := congrArg Prod.snd hf
                        exact W.iret (v := 0) hx hb hr (fun t ht hW => ⟨⟨0, s147, rfl, ⟨hf1, hf2⟩, by rw [ht]; exact hP9, va_K.moved hW.alike hK, hD9⟩, hS.F ht⟩) hS.2.2 dX6_compareGaps_193
                      · rw [if_neg c21] at hf
                        refine lv_aload hx hb dX6_compareGaps_152 (lv_at hl 2 rfl) ?_
                        refine lv_iload hx hb dX6_compareGaps_154 (lv_at hl 0 rfl) ?_
                        obtain ⟨g22, hf⟩ := og_e hf
                        refine va_lald hx hb hK hP 6 2 rfl rfl g22 dX6_compareGaps_156 ?_
                        refine lv_aload hx hb dX6_compareGaps_157 (lv_at hl 1 rfl) ?_
                        refine lv_iload hx hb dX6_compareGaps_159 (lv_at hl 0 rfl) ?_
                        obtain ⟨g23, hf⟩ := og_e hf
                        refine va_lald hx hb hK hP 7 2 rfl rfl g23 dX6_compareGaps_161 ?_
                        refine my_lc_eq (tgt := 186) hx hb dX6_compareGaps_162 dX6_compareGaps_163 (by decide) (fun c24 => ?_) (fun c24 => ?_)
                        · rw [if_pos c24] at hf
                          refine lv_iinc (v := (v147_7 + (-1))) (lv' := [(7, .int (v147_7 + (-1))), (6, .ref b20), (5, .ref b16)]) hx hb dX6_compareGaps_186 hl (k := 0) rfl rfl (by decide) rfl (fun ls hl => ?_)
                          refine lv_goto (tgt := 147) hx hb dX6_compareGaps_189 (by decide) ?_
                          exact ih147 (v147_7 + (-1)) s147 s147_6 s147_7 _ _ hP hD hS _ (lv_sub hl [0, 1, 2] rfl) hf
                        · rw [if_neg c24] at hf
                          refine lv_aload hx hb dX6_compareGaps_166 (lv_at hl 2 rfl) ?_
                          refine lv_iload hx hb dX6_compareGaps_168 (lv_at hl 0 rfl) ?_
                          obtain ⟨g25, hf⟩ := og_e hf
                          refine va_lald hx hb hK hP 6 2 rfl rfl g25 dX6_compareGaps_170 ?_
                          refine lv_aload hx hb dX6_compareGaps_171 (lv_at hl 1 rfl) ?_
                          refine lv_iload hx hb dX6_compareGaps_173 (lv_at hl 0 rfl) ?_
                          obtain ⟨g26, hf⟩ := og_e hf
                          refine va_lald hx hb hK hP 7 2 rfl rfl g26 dX6_compareGaps_175 ?_
                          refine my_lc_ge (tgt := 184) hx hb dX6_compareGaps_176 dX6_compareGaps_177 (by decide) (fun c27 => ?_) (fun c27 => ?_)
                          · rw [if_neg c27] at hf
                            refine lv_iconst (v := 1) hx hb dX6_compareGaps_184 (by decide) ?_
                            have hP9 : va_P D vwCl (wM cC cI cJ h0 h1 h2 h3 h4 h5 s147) _ := hP.sub [0, 1, 2, 3, 4, 5] rfl
                            have hD9 : va_D A (wM cC cI cJ h0 h1 h2 h3 h4 h5 s147) := hD.sub [0, 1, 2, 3, 4, 5] (by decide) rfl
                            have hf := Option.some.inj hf
                            have hf1 := congrArg Prod.fst hf
                            have hf2 := congrArg Prod.snd hf
                            exact W.iret (v := 1) hx hb hr (fun t ht hW => ⟨⟨1, s147, rfl, ⟨hf1, hf2⟩, by rw [ht]; exact hP9, va_K.moved hW.alike hK, hD9⟩, hS.F ht⟩) hS.2.2 dX6_compareGaps_185
                          · rw [if_pos c27] at hf
                            refine lv_iconst (v := (-1)) hx hb dX6_compareGaps_180 (by decide) ?_
                            refine lv_goto (tgt := 185) hx hb dX6_compareGaps_181 (by decide) ?_
                            have hP9 : va_P D vwCl (wM cC cI cJ h0 h1 h2 h3 h4 h5 s147) _ := hP.sub [0, 1, 2, 3, 4, 5] rfl
                            have hD9 : va_D A (wM cC cI cJ h0 h1 h2 h3 h4 h5 s147) := hD.sub [0, 1, 2, 3, 4, 5] (by decide) rfl
                            have hf := Option.some.inj hf
                            have hf1 := congrArg Prod.fst hf
                            have hf2 := congrArg Prod.snd hf
                            exact W.iret (v := (-1)) hx hb hr (fun t ht hW => ⟨⟨(-1), s147, rfl, ⟨hf1, hf2⟩, by rw [ht]; exact hP9, va_K.moved hW.alike hK, hD9⟩, hS.F ht⟩) hS.2.2 dX6_compareGaps_185
                  exact loop147 100 71 (u.1, (u.2.1, (u.2.2.1, (u.2.2.2.1, (u.2.2.2.2.1, (u.2.2.2.2.2.1, (u.2.2.2.2.2.2.1, 0))))))) z15 z19 _ _ hP hD hS _ (lv_sub hl [0, 1, 2] rfl) hf

set_option maxHeartbeats 4000000 in
set_option maxRecDepth 100000 in
theorem m_X6_say (l : Launch) (D : va_G) (cC cI cJ : ClassId) (h0 h1 h2 h3 h4 h5 : Nat) (u : StM) (sz : Nat) (a0 : Int32) (a1 : Int32) (res : Int32 × StM) (hf : f_X6_say u a0 a1 = some res) : Met l yX6_say wsX6_say rmX6_say (my_PcM D vwCl (KT cC cI cJ) sz (wM cC cI cJ h0 h1 h2 h3 h4 h5 u) [.ref h0, .int a0, .int a1]) (va_Qi (fun r v => r = res.1 ∧ v = res.2) (my_B D vwCl (KT cC cI cJ) (va_A (wM cC cI cJ h0 h1 h2 h3 h4 h5 u) sz) (fun v : StM => (wM cC cI cJ h0 h1 h2 h3 h4 h5 v))) (va_A (wM cC cI cJ h0 h1 h2 h3 h4 h5 u) sz)) 0 0 (va_A (wM cC cI cJ h0 h1 h2 h3 h4 h5 u) sz) := by
  refine Met.ofW (cc := cX6_say) (maxL := 3) (ret := (some .int)) (by decide) rfl ?_
  intro p e s m args below meth c s₁ B hml hv
  obtain ⟨rfl, hsz, hP, hK, hD0⟩ := hv
  have hx := B.exec
  have hb := B.bytes
  have hr := B.returns
  have hts : ∀ w ∈ wsX6_say, w.before ([.ref h0, .int a0, .int a1] : List Value).toArray s = true := atoms_spec (ws := wsX6_say) B.pre
  have hown : s.vm.findClass RX6 = some m.cls := findClass_of_methodNamed B.named
  have hlk : meth.locks = false := B.notSynchronized
  subst hsz
  have hD := hD0.self (sz := s.heap.size)
  generalize hAe : va_A (wM cC cI cJ h0 h1 h2 h3 h4 h5 u) s.heap.size = A at hD ⊢
  have hA : ∀ q : Nat, s.heap.size ≤ q → A q := fun q h => by rw [← hAe]; exact Or.inr h
  have hS : va_S A s.heap s.heap [] := va_S.rf
  have hP : va_P D vwCl [(h0, .inr (5, [.ref h1, .ref h2, .ref h3, .int u.2.2.2.1, .ref h4, .ref h5, .int u.2.2.2.2.2.2.1, .int u.2.2.2.2.2.2.2])), (h1, .inl (cJ, 8, .inr (.inl u.1))), (h2, .inl (cI, 8, .inl u.2.1)), (h3, .inl (cJ, 8, .inr (.inl u.2.2.1))), (h4, .inl (cC, 40, .inl u.2.2.2.2.1)), (h5, .inl (cI, 40, .inl u.2.2.2.2.2.1))] s.heap := hP
  have hD : va_D A [(h0, .inr (5, [.ref h1, .ref h2, .ref h3, .int u.2.2.2.1, .ref h4, .ref h5, .int u.2.2.2.2.2.2.1, .int u.2.2.2.2.2.2.2])), (h1, .inl (cJ, 8, .inr (.inl u.1))), (h2, .inl (cI, 8, .inl u.2.1)), (h3, .inl (cJ, 8, .inr (.inl u.2.2.1))), (h4, .inl (cC, 40, .inl u.2.2.2.2.1)), (h5, .inl (cI, 40, .inl u.2.2.2.2.2.1))] := hD
  have q1 := hts (.fieldLink RX6 174 "DoublelineModel" "words" "I") (by decide +kernel)
  have q2 : ∀ w ∈ u_ws RX6 TX6 8, w ∈ wsX6_say := by decide +kernel
  have q3 := hts (.fieldLink RX6 20 "DoublelineModel" "kinds" "[C") (by decide +kernel)
  have q4 := hts (.fieldLink RX6 24 "DoublelineModel" "counts" "[I") (by decide +kernel)
  have hl := lv_entry ([.ref h0, .int a0, .int a1]) (n := 3) (Nat.le_of_ble_eq_true rfl)
  rw [lg_entry_eq]
  generalize (lg_sl ([.ref h0, .int a0, .int a1]) ++ List.replicate (3 - (lg_sl ([.ref h0, .int a0, .int a1])).length) Slot.unset).toArray = ls at hl ⊢
  have hl : lv_has ls 3 [(0, .ref h0), (1, .int a0), (2, .int a1)] := hl
  unfold f_X6_say at hf
  refine lv_aload_n hx hb dX6_say_0 rfl (lv_at hl 0 rfl) ?_
  refine lv_iload_n hx hb dX6_say_1 rfl (lv_at hl 1 rfl) ?_
  refine lv_iload_n hx hb dX6_say_2 rfl (lv_at hl 2 rfl) ?_
  refine my_callPi (As := [.int a0, .int a1]) (n := 2) (rest := [.ref h0]) ⟨hx, hb, hml, hown, hts⟩ (m_X6_isWord l a0 a1 _ rfl) gX6_say_X6_isWord rfl ⟨rfl, rfl⟩ (by decide +kernel) ⟨Nat.le_of_ble_eq_true rfl, Nat.le_of_ble_eq_true rfl⟩ ⟨Nat.le_of_ble_eq_true rfl, Nat.le_of_ble_eq_true rfl⟩ hl.1 rfl rfl (Nat.le_of_ble_eq_true rfl) dX6_say_3 ?_
  refine lv_iconst (v := 1) hx hb dX6_say_6 (by decide) ?_
  refine my_callMi (As := [.int (b2i (f_X6_isWord a0 a1)), .int 1]) (n := 2) (rest := []) (wr := []) ⟨hx, hb, hml, hown, hts⟩ hK hP hD hS hA [0, 1, 2, 3, 4, 5] [] rfl rfl (by decide) (by decide) (by decide) (m_X6_no l D cC cI cJ h0 h1 h2 h3 h4 h5 u s.heap.size (f_X6_isWord a0 a1) 1 _ (no_b u (f_X6_isWord a0 a1) 1)) gX6_say_X6_no rfl ⟨rfl, rfl⟩ (ci := 5) rfl rfl (by decide +kernel) ⟨Nat.le_of_ble_eq_true rfl, Nat.le_of_ble_eq_true rfl⟩ ⟨Nat.le_of_ble_eq_true rfl, Nat.le_of_ble_eq_true rfl⟩ hl.1 rfl rfl (Nat.le_of_ble_eq_true rfl) dX6_say_7 (fun r9 u9 H locs hw hP hD hS => ?_)
  obtain ⟨rfl, rfl⟩ := hw
  have hP : va_P D vwCl [(h0, .inr (5, [.ref h1, .ref h2, .ref h3, .int u.2.2.2.1, .ref h4, .ref h5, .int u.2.2.2.2.2.2.1, .int (if (f_X6_isWord a0 a1) = true then 0 else 1)])), (h1, .inl (cJ, 8, .inr (.inl u.1))), (h2, .inl (cI, 8, .inl u.2.1)), (h3, .inl (cJ, 8, .inr (.inl u.2.2.1))), (h4, .inl (cC, 40, .inl u.2.2.2.2.1)), (h5, .inl (cI, 40, .inl u.2.2.2.2.2.1))] H := hP.sub [0, 1, 2, 3, 4, 5] rfl
  have hD : va_D A [(h0, .inr (5, [.ref h1, .ref h2, .ref h3, .int u.2.2.2.1, .ref h4, .ref h5, .int u.2.2.2.2.2.2.1, .int (if (f_X6_isWord a0 a1) = true then 0 else 1)])), (h1, .inl (cJ, 8, .inr (.inl u.1))), (h2, .inl (cI, 8, .inl u.2.1)), (h3, .inl (cJ, 8, .inr (.inl u.2.2.1))), (h4, .inl (cC, 40, .inl u.2.2.2.2.1)), (h5, .inl (cI, 40, .inl u.2.2.2.2.2.1))] := hD.sub [0, 1, 2, 3, 4, 5] (by decide) rfl
  refine my_bz_ne (x := (!(f_X6_isWord a0 a1))) (tgt := 35) hx hb dX6_say_10 (by decide) (fun c1 => ?_) (fun c1 => ?_)
  · rw [if_neg c1] at hf
    refine lv_iconst (v := 0) hx hb dX6_say_35 (by decide) ?_
    have hP9 : va_P D vwCl (wM cC cI cJ h0 h1 h2 h3 h4 h5 (u.1, (u.2.1, (u.2.2.1, (u.2.2.2.1, (u.2.2.2.2.1, (u.2.2.2.2.2.1, (u.2.2.2.2.2.2.1, (if (f_X6_isWord a0 a1) = true then 0 else 1))))))))) _ := hP
    have hD9 : va_D A (wM cC cI cJ h0 h1 h2 h3 h4 h5 (u.1, (u.2.1, (u.2.2.1, (u.2.2.2.1, (u.2.2.2.2.1, (u.2.2.2.2.2.1, (u.2.2.2.2.2.2.1, (if (f_X6_isWord a0 a1) = true then 0 else 1))))))))) := hD
    have hf := Option.some.inj hf
    have hf1 := congrArg Prod.fst hf
    have hf2 := congrArg Prod.snd hf
    exact W.iret (v := 0) hx hb hr (fun t ht hW => ⟨⟨0, (u.1, (u.2.1, (u.2.2.1, (u.2.2.2.1, (u.2.2.2.2.1, (u.2.2.2.2.2.1, (u.2.2.2.2.2.2.1, (if (f_X6_isWord a0 a1) = true then 0 else 1)))))))), rfl, ⟨hf1, hf2⟩, by rw [ht]; exact hP9, va_K.moved hW.alike hK, hD9⟩, hS.F ht⟩) hS.2.2 dX6_say_36
  · rw [if_pos c1] at hf
    refine lv_aload_n hx hb dX6_say_13 rfl (lv_at hl 0 rfl) ?_
    refine lv_aload_n hx hb dX6_say_14 rfl (lv_at hl 0 rfl) ?_
    refine va_get (D := D) (ci := 5) (v := .int u.2.2.2.2.2.2.1) (C := RX6) (T := TX6) (N := 8) hx hb hts q2 hown hK hP 0 rfl rfl 6 (by decide) q1 (fun _ h9 => h9) rfl dX6_say_15 ?_
    refine lv_bipush (v := 40) hx hb dX6_say_18 (by decide) ?_
    refine my_ic_ge (tgt := 27) hx hb dX6_say_20 (by decide) (fun c2 => ?_) (fun c2 => ?_)
    · rw [if_neg c2] at hf
      refine lv_iconst (v := 0) hx hb dX6_say_27 (by decide) ?_
      refine lv_iconst (v := 2) hx hb dX6_say_28 (by decide) ?_
      refine my_callMi (As := [.int (b2i false), .int 2]) (n := 2) (rest := []) (wr := []) ⟨hx, hb, hml, hown, hts⟩ hK hP hD hS hA [0, 1, 2, 3, 4, 5] [] rfl rfl (by decide) (by decide) (by decide) (m_X6_no l D cC cI cJ h0 h1 h2 h3 h4 h5 (u.1, (u.2.1, (u.2.2.1, (u.2.2.2.1, (u.2.2.2.2.1, (u.2.2.2.2.2.1, (u.2.2.2.2.2.2.1, (if (f_X6_isWord a0 a1) = true then 0 else 1)))))))) H.size false 2 _ (no_f (u.1, (u.2.1, (u.2.2.1, (u.2.2.2.1, (u.2.2.2.2.1, (u.2.2.2.2.2.1, (u.2.2.2.2.2.2.1, (if (f_X6_isWord a0 a1) = true then 0 else 1)))))))) 2)) gX6_say_X6_no rfl ⟨rfl, rfl⟩ (ci := 5) rfl rfl (by decide +kernel) ⟨Nat.le_of_ble_eq_true rfl, Nat.le_of_ble_eq_true rfl⟩ ⟨Nat.le_of_ble_eq_true rfl, Nat.le_of_ble_eq_true rfl⟩ hl.1 rfl rfl (Nat.le_of_ble_eq_true rfl) dX6_say_29 (fun r9 u9 H locs hw hP hD hS => ?_)
      obtain ⟨rfl, rfl⟩ := hw
      have hP : va_P D vwCl [(h0, .inr (5, [.ref h1, .ref h2, .ref h3, .int u.2.2.2.1, .ref h4, .ref h5, .int u.2.2.2.2.2.2.1, .int 2])), (h1, .inl (cJ, 8, .inr (.inl u.1))), (h2, .inl (cI, 8, .inl u.2.1)), (h3, .inl (cJ, 8, .inr (.inl u.2.2.1))), (h4, .inl (cC, 40, .inl u.2.2.2.2.1)), (h5, .inl (cI, 40, .inl u.2.2.2.2.2.1))] H := hP.sub [0, 1, 2, 3, 4, 5] rfl
      have hD : va_D A [(h0, .inr (5, [.ref h1, .ref h2, .ref h3, .int u.2.2.2.1, .ref h4, .ref h5, .int u.2.2.2.2.2.2.1, .int 2])), (h1, .inl (cJ, 8, .inr (.inl u.1))), (h2, .inl (cI, 8, .inl u.2.1)), (h3, .inl (cJ, 8, .inr (.inl u.2.2.1))), (h4, .inl (cC, 40, .inl u.2.2.2.2.1)), (h5, .inl (cI, 40, .inl u.2.2.2.2.2.1))] := hD.sub [0, 1, 2, 3, 4, 5] (by decide) rfl
      refine my_bz_eq (x := true) (tgt := 37) hx hb dX6_say_32 (by decide) (fun h9 => absurd h9 (by decide)) (fun _ => ?_)
      refine lv_iconst (v := 0) hx hb dX6_say_35 (by decide) ?_
      have hP9 : va_P D vwCl (wM cC cI cJ h0 h1 h2 h3 h4 h5 (u.1, (u.2.1, (u.2.2.1, (u.2.2.2.1, (u.2.2.2.2.1, (u.2.2.2.2.2.1, (u.2.2.2.2.2.2.1, 2)))))))) _ := hP
      have hD9 : va_D A (wM cC cI cJ h0 h1 h2 h3 h4 h5 (u.1, (u.2.1, (u.2.2.1, (u.2.2.2.1, (u.2.2.2.2.1, (u.2.2.2.2.2.1, (u.2.2.2.2.2.2.1, 2)))))))) := hD
      have hf := Option.some.inj hf
      have hf1 := congrArg Prod.fst hf
      have hf2 := congrArg Prod.snd hf
      exact W.iret (v := 0) hx hb hr (fun t ht hW => ⟨⟨0, (u.1, (u.2.1, (u.2.2.1, (u.2.2.2.1, (u.2.2.2.2.1, (u.2.2.2.2.2.1, (u.2.2.2.2.2.2.1, 2))))))), rfl, ⟨hf1, hf2⟩, by rw [ht]; exact hP9, va_K.moved hW.alike hK, hD9⟩, hS.F ht⟩) hS.2.2 dX6_say_36
    · rw [if_pos c2] at hf
      refine lv_iconst (v := 1) hx hb dX6_say_23 (by decide) ?_
      refine lv_goto (tgt := 28) hx hb dX6_say_24 (by decide) ?_
      refine lv_iconst (v := 2) hx hb dX6_say_28 (by decide) ?_
      refine my_callMi (As := [.int (b2i true), .int 2]) (n := 2) (rest := []) (wr := []) ⟨hx, hb, hml, hown, hts⟩ hK hP hD hS hA [0, 1, 2, 3, 4, 5] [] rfl rfl (by decide) (by decide) (by decide) (m_X6_no l D cC cI cJ h0 h1 h2 h3 h4 h5 (u.1, (u.2.1, (u.2.2.1, (u.2.2.2.1, (u.2.2.2.2.1, (u.2.2.2.2.2.1, (u.2.2.2.2.2.2.1, (if (f_X6_isWord a0 a1) = true then 0 else 1)))))))) H.size true 2 _ (no_t (u.1, (u.2.1, (u.2.2.1, (u.2.2.2.1, (u.2.2.2.2.1, (u.2.2.2.2.2.1, (u.2.2.2.2.2.2.1, (if (f_X6_isWord a0 a1) = true then 0 else 1)))))))) 2)) gX6_say_X6_no rfl ⟨rfl, rfl⟩ (ci := 5) rfl rfl (by decide +kernel) ⟨Nat.le_of_ble_eq_true rfl, Nat.le_of_ble_eq_true rfl⟩ ⟨Nat.le_of_ble_eq_true rfl, Nat.le_of_ble_eq_true rfl⟩ hl.1 rfl rfl (Nat.le_of_ble_eq_true rfl) dX6_say_29 (fun r9 u9 H locs hw hP hD hS => ?_)
      obtain ⟨rfl, rfl⟩ := hw
      have hP : va_P D vwCl [(h0, .inr (5, [.ref h1, .ref h2, .ref h3, .int u.2.2.2.1, .ref h4, .ref h5, .int u.2.2.2.2.2.2.1, .int 0])), (h1, .inl (cJ, 8, .inr (.inl u.1))), (h2, .inl (cI, 8, .inl u.2.1)), (h3, .inl (cJ, 8, .inr (.inl u.2.2.1))), (h4, .inl (cC, 40, .inl u.2.2.2.2.1)), (h5, .inl (cI, 40, .inl u.2.2.2.2.2.1))] H := hP.sub [0, 1, 2, 3, 4, 5] rfl
      have hD : va_D A [(h0, .inr (5, [.ref h1, .ref h2, .ref h3, .int u.2.2.2.1, .ref h4, .ref h5, .int u.2.2.2.2.2.2.1, .int 0])), (h1, .inl (cJ, 8, .inr (.inl u.1))), (h2, .inl (cI, 8, .inl u.2.1)), (h3, .inl (cJ, 8, .inr (.inl u.2.2.1))), (h4, .inl (cC, 40, .inl u.2.2.2.2.1)), (h5, .inl (cI, 40, .inl u.2.2.2.2.2.1))] := hD.sub [0, 1, 2, 3, 4, 5] (by decide) rfl
      refine my_bz_eq (x := false) (tgt := 37) hx hb dX6_say_32 (by decide) (fun _ => ?_) (fun h9 => absurd h9 (by decide))
      refine lv_aload_n hx hb dX6_say_37 rfl (lv_at hl 0 rfl) ?_
      refine va_get (D := D) (ci := 5) (v := .ref h4) (C := RX6) (T := TX6) (N := 8) hx hb hts q2 hown hK hP 0 rfl rfl 4 (by decide) q3 (fun _ h9 => h9) rfl dX6_say_38 ?_
      refine lv_aload_n hx hb dX6_say_41 rfl (lv_at hl 0 rfl) ?_
      refine va_get (D := D) (ci := 5) (v := .int u.2.2.2.2.2.2.1) (C := RX6) (T := TX6) (N := 8) hx hb hts q2 hown hK hP 0 rfl rfl 6 (by decide) q1 (fun _ h9 => h9) rfl dX6_say_42 ?_
      refine lv_iload_n hx hb dX6_say_45 rfl (lv_at hl 1 rfl) ?_
      obtain ⟨g3, hf⟩ := og_e hf
      refine va_cast hx hb hK hP hD hS 4 0 rfl rfl g3 dX6_say_46 (fun H locs hP hD hS => ?_)
      have hP : va_P D vwCl [(h0, .inr (5, [.ref h1, .ref h2, .ref h3, .int u.2.2.2.1, .ref h4, .ref h5, .int u.2.2.2.2.2.2.1, .int 0])), (h1, .inl (cJ, 8, .inr (.inl u.1))), (h2, .inl (cI, 8, .inl u.2.1)), (h3, .inl (cJ, 8, .inr (.inl u.2.2.1))), (h4, .inl (cC, 40, .inl (upd u.2.2.2.2.1 u.2.2.2.2.2.2.1.toNatClampNeg (vp_nar .char a0)))), (h5, .inl (cI, 40, .inl u.2.2.2.2.2.1))] H := hP
      have hD : va_D A [(h0, .inr (5, [.ref h1, .ref h2, .ref h3, .int u.2.2.2.1, .ref h4, .ref h5, .int u.2.2.2.2.2.2.1, .int 0])), (h1, .inl (cJ, 8, .inr (.inl u.1))), (h2, .inl (cI, 8, .inl u.2.1)), (h3, .inl (cJ, 8, .inr (.inl u.2.2.1))), (h4, .inl (cC, 40, .inl (upd u.2.2.2.2.1 u.2.2.2.2.2.2.1.toNatClampNeg (vp_nar .char a0)))), (h5, .inl (cI, 40, .inl u.2.2.2.2.2.1))] := hD
      refine lv_aload_n hx hb dX6_say_47 rfl (lv_at hl 0 rfl) ?_
      refine va_get (D := D) (ci := 5) (v := .ref h5) (C := RX6) (T := TX6) (N := 8) hx hb hts q2 hown hK hP 0 rfl rfl 5 (by decide) q4 (fun _ h9 => h9) rfl dX6_say_48 ?_
      refine lv_aload_n hx hb dX6_say_51 rfl (lv_at hl 0 rfl) ?_
      refine va_get (D := D) (ci := 5) (v := .int u.2.2.2.2.2.2.1) (C := RX6) (T := TX6) (N := 8) hx hb hts q2 hown hK hP 0 rfl rfl 6 (by decide) q1 (fun _ h9 => h9) rfl dX6_say_52 ?_
      refine lv_iload_n hx hb dX6_say_55 rfl (lv_at hl 2 rfl) ?_
      obtain ⟨g4, hf⟩ := og_e hf
      refine va_iast hx hb hK hP hD hS 5 1 rfl rfl g4 dX6_say_56 (fun H locs hP hD hS => ?_)
      have hP : va_P D vwCl [(h0, .inr (5, [.ref h1, .ref h2, .ref h3, .int u.2.2.2.1, .ref h4, .ref h5, .int u.2.2.2.2.2.2.1, .int 0])), (h1, .inl (cJ, 8, .inr (.inl u.1))), (h2, .inl (cI, 8, .inl u.2.1)), (h3, .inl (cJ, 8, .inr (.inl u.2.2.1))), (h4, .inl (cC, 40, .inl (upd u.2.2.2.2.1 u.2.2.2.2.2.2.1.toNatClampNeg (vp_nar .char a0)))), (h5, .inl (cI, 40, .inl (upd u.2.2.2.2.2.1 u.2.2.2.2.2.2.1.toNatClampNeg a1)))] H := hP
      have hD : va_D A [(h0, .inr (5, [.ref h1, .ref h2, .ref h3, .int u.2.2.2.1, .ref h4, .ref h5, .int u.2.2.2.2.2.2.1, .int 0])), (h1, .inl (cJ, 8, .inr (.inl u.1))), (h2, .inl (cI, 8, .inl u.2.1)), (h3, .inl (cJ, 8, .inr (.inl u.2.2.1))), (h4, .inl (cC, 40, .inl (upd u.2.2.2.2.1 u.2.2.2.2.2.2.1.toNatClampNeg (vp_nar .char a0)))), (h5, .inl (cI, 40, .inl (upd u.2.2.2.2.2.1 u.2.2.2.2.2.2.1.toNatClampNeg a1)))] := hD
      refine lv_aload_n hx hb dX6_say_57 rfl (lv_at hl 0 rfl) ?_
      refine lv_dup hx hb dX6_say_58 rfl ?_
      refine va_get (D := D) (ci := 5) (v := .int u.2.2.2.2.2.2.1) (C := RX6) (T := TX6) (N := 8) hx hb hts q2 hown hK hP 0 rfl rfl 6 (by decide) q1 (fun _ h9 => h9) rfl dX6_say_59 ?_
      refine lv_iconst (v := 1) hx hb dX6_say_62 (by decide) ?_
      refine lv_iadd hx hb dX6_say_63 ?_
      refine va_put (D := D) (ci := 5) (v := .int (u.2.2.2.2.2.2.1 + 1)) (ty := .int) (C := RX6) (T := TX6) (N := 8) hx hb hts q2 tyX6 tyX6_ok nmX6 hown hK hP hD hS 0 rfl rfl 6 (by decide) q1 (fun _ h9 => h9) rfl (by decide +kernel) rfl rfl (Nat.le_of_ble_eq_true rfl) dX6_say_64 (fun H locs hP hD hS => ?_)
      have hP : va_P D vwCl [(h0, .inr (5, [.ref h1, .ref h2, .ref h3, .int u.2.2.2.1, .ref h4, .ref h5, .int (u.2.2.2.2.2.2.1 + 1), .int 0])), (h1, .inl (cJ, 8, .inr (.inl u.1))), (h2, .inl (cI, 8, .inl u.2.1)), (h3, .inl (cJ, 8, .inr (.inl u.2.2.1))), (h4, .inl (cC, 40, .inl (upd u.2.2.2.2.1 u.2.2.2.2.2.2.1.toNatClampNeg (vp_nar .char a0)))), (h5, .inl (cI, 40, .inl (upd u.2.2.2.2.2.1 u.2.2.2.2.2.2.1.toNatClampNeg a1)))] H := hP
      have hD : va_D A [(h0, .inr (5, [.ref h1, .ref h2, .ref h3, .int u.2.2.2.1, .ref h4, .ref h5, .int (u.2.2.2.2.2.2.1 + 1), .int 0])), (h1, .inl (cJ, 8, .inr (.inl u.1))), (h2, .inl (cI, 8, .inl u.2.1)), (h3, .inl (cJ, 8, .inr (.inl u.2.2.1))), (h4, .inl (cC, 40, .inl (upd u.2.2.2.2.1 u.2.2.2.2.2.2.1.toNatClampNeg (vp_nar .char a0)))), (h5, .inl (cI, 40, .inl (upd u.2.2.2.2.2.1 u.2.2.2.2.2.2.1.toNatClampNeg a1)))] := hD
      refine lv_aload_n hx hb dX6_say_67 rfl (lv_at hl 0 rfl) ?_
      refine va_get (D := D) (ci := 5) (v := .int (u.2.2.2.2.2.2.1 + 1)) (C := RX6) (T := TX6) (N := 8) hx hb hts q2 hown hK hP 0 rfl rfl 6 (by decide) q1 (fun _ h9 => h9) rfl dX6_say_68 ?_
      have hP9 : va_P D vwCl (wM cC cI cJ h0 h1 h2 h3 h4 h5 (u.1, (u.2.1, (u.2.2.1, (u.2.2.2.1, ((upd u.2.2.2.2.1 u.2.2.2.2.2.2.1.toNatClampNeg (vp_nar .char a0)), ((upd u.2.2.2.2.2.1 u.2.2.2.2.2.2.1.toNatClampNeg a1), ((u.2.2.2.2.2.2.1 + 1), 0)))))))) _ := hP
      have hD9 : va_D A (wM cC cI cJ h0 h1 h2 h3 h4 h5 (u.1, (u.2.1, (u.2.2.1, (u.2.2.2.1, ((upd u.2.2.2.2.1 u.2.2.2.2.2.2.1.toNatClampNeg (vp_nar .char a0)), ((upd u.2.2.2.2.2.1 u.2.2.2.2.2.2.1.toNatClampNeg a1), ((u.2.2.2.2.2.2.1 + 1), 0)))))))) := hD
      have hf := Option.some.inj hf
      have hf1 := congrArg Prod.fst hf
      have hf2 := congrArg Prod.snd hf
      exact W.iret (v := (u.2.2.2.2.2.2.1 + 1)) hx hb hr (fun t ht hW => ⟨⟨(u.2.2.2.2.2.2.1 + 1), (u.1, (u.2.1, (u.2.2.1, (u.2.2.2.1, ((upd u.2.2.2.2.1 u.2.2.2.2.2.2.1.toNatClampNeg (vp_nar .char a0)), ((upd u.2.2.2.2.2.1 u.2.2.2.2.2.2.1.toNatClampNeg a1), ((u.2.2.2.2.2.2.1 + 1), 0))))))), rfl, ⟨hf1, hf2⟩, by rw [ht]; exact hP9, va_K.moved hW.alike hK, hD9⟩, hS.F ht⟩) hS.2.2 dX6_say_71

set_option maxHeartbeats 4000000 in
set_option maxRecDepth 100000 in
theorem m_X6_hush (l : Launch) (D : va_G) (cC cI cJ : ClassId) (h0 h1 h2 h3 h4 h5 : Nat) (u : StM) (sz : Nat)  (res : Int32 × StM) (hf : f_X6_hush u = some res) : Met l yX6_hush wsX6_hush rmX6_hush (my_PcM D vwCl (KT cC cI cJ) sz (wM cC cI cJ h0 h1 h2 h3 h4 h5 u) [.ref h0]) (va_Qi (fun r v => r = res.1 ∧ v = res.2) (my_B D vwCl (KT cC cI cJ) (va_A (wM cC cI cJ h0 h1 h2 h3 h4 h5 u) sz) (fun v : StM => (wM cC cI cJ h0 h1 h2 h3 h4 h5 v))) (va_A (wM cC cI cJ h0 h1 h2 h3 h4 h5 u) sz)) 0 0 (va_A (wM cC cI cJ h0 h1 h2 h3 h4 h5 u) sz) := by
  refine Met.ofW (cc := cX6_hush) (maxL := 2) (ret := (some .int)) (by decide) rfl ?_
  intro p e s m args below meth c s₁ B hml hv
  obtain ⟨rfl, hsz, hP, hK, hD0⟩ := hv
  have hx := B.exec
  have hb := B.bytes
  have hr := B.returns
  have hts : ∀ w ∈ wsX6_hush, w.before ([.ref h0] : List Value).toArray s = true := atoms_spec (ws := wsX6_hush) B.pre
  have hown : s.vm.findClass RX6 = some m.cls := findClass_of_methodNamed B.named
  have hlk : meth.locks = false := B.notSynchronized
  subst hsz
  have hD := hD0.self (sz := s.heap.size)
  generalize hAe : va_A (wM cC cI cJ h0 h1 h2 h3 h4 h5 u) s.heap.size = A at hD ⊢
  have hA : ∀ q : Nat, s.heap.size ≤ q → A q := fun q h => by rw [← hAe]; exact Or.inr h
  have hS : va_S A s.heap s.heap [] := va_S.rf
  have hP : va_P D vwCl [(h0, .inr (5, [.ref h1, .ref h2, .ref h3, .int u.2.2.2.1, .ref h4, .ref h5, .int u.2.2.2.2.2.2.1, .int u.2.2.2.2.2.2.2])), (h1, .inl (cJ, 8, .inr (.inl u.1))), (h2, .inl (cI, 8, .inl u.2.1)), (h3, .inl (cJ, 8, .inr (.inl u.2.2.1))), (h4, .inl (cC, 40, .inl u.2.2.2.2.1)), (h5, .inl (cI, 40, .inl u.2.2.2.2.2.1))] s.heap := hP
  have hD : va_D A [(h0, .inr (5, [.ref h1, .ref h2, .ref h3, .int u.2.2.2.1, .ref h4, .ref h5, .int u.2.2.2.2.2.2.1, .int u.2.2.2.2.2.2.2])), (h1, .inl (cJ, 8, .inr (.inl u.1))), (h2, .inl (cI, 8, .inl u.2.1)), (h3, .inl (cJ, 8, .inr (.inl u.2.2.1))), (h4, .inl (cC, 40, .inl u.2.2.2.2.1)), (h5, .inl (cI, 40, .inl u.2.2.2.2.2.1))] := hD
  have q1 := hts (.fieldLink RX6 174 "DoublelineModel" "words" "I") (by decide +kernel)
  have q2 : ∀ w ∈ u_ws RX6 TX6 8, w ∈ wsX6_hush := by decide +kernel
  have q3 := hts (.fieldLink RX6 27 "DoublelineModel" "thrown" "I") (by decide +kernel)
  have hl := lv_entry ([.ref h0]) (n := 2) (Nat.le_of_ble_eq_true rfl)
  rw [lg_entry_eq]
  generalize (lg_sl ([.ref h0]) ++ List.replicate (2 - (lg_sl ([.ref h0])).length) Slot.unset).toArray = ls at hl ⊢
  have hl : lv_has ls 2 [(0, .ref h0)] := hl
  unfold f_X6_hush at hf
  refine lv_aload_n hx hb dX6_hush_0 rfl (lv_at hl 0 rfl) ?_
  refine va_get (D := D) (ci := 5) (v := .int u.2.2.2.2.2.2.1) (C := RX6) (T := TX6) (N := 8) hx hb hts q2 hown hK hP 0 rfl rfl 6 (by decide) q1 (fun _ h9 => h9) rfl dX6_hush_1 ?_
  refine lv_istore_n (lv' := [(1, .int u.2.2.2.2.2.2.1), (0, .ref h0)]) hx hb dX6_hush_4 rfl hl (by decide) rfl (fun ls hl => ?_)
  refine lv_aload_n hx hb dX6_hush_5 rfl (lv_at hl 1 rfl) ?_
  refine lv_iconst (v := 0) hx hb dX6_hush_6 (by decide) ?_
  refine va_put (D := D) (ci := 5) (v := .int 0) (ty := .int) (C := RX6) (T := TX6) (N := 8) hx hb hts q2 tyX6 tyX6_ok nmX6 hown hK hP hD hS 0 rfl rfl 7 (by decide) q3 (fun _ h9 => h9) rfl (by decide +kernel) rfl rfl (Nat.le_of_ble_eq_true rfl) dX6_hush_7 (fun H locs hP hD hS => ?_)
  have hP : va_P D vwCl [(h0, .inr (5, [.ref h1, .ref h2, .ref h3, .int u.2.2.2.1, .ref h4, .ref h5, .int u.2.2.2.2.2.2.1, .int 0])), (h1, .inl (cJ, 8, .inr (.inl u.1))), (h2, .inl (cI, 8, .inl u.2.1)), (h3, .inl (cJ, 8, .inr (.inl u.2.2.1))), (h4, .inl (cC, 40, .inl u.2.2.2.2.1)), (h5, .inl (cI, 40, .inl u.2.2.2.2.2.1))] H := hP
  have hD : va_D A [(h0, .inr (5, [.ref h1, .ref h2, .ref h3, .int u.2.2.2.1, .ref h4, .ref h5, .int u.2.2.2.2.2.2.1, .int 0])), (h1, .inl (cJ, 8, .inr (.inl u.1))), (h2, .inl (cI, 8, .inl u.2.1)), (h3, .inl (cJ, 8, .inr (.inl u.2.2.1))), (h4, .inl (cC, 40, .inl u.2.2.2.2.1)), (h5, .inl (cI, 40, .inl u.2.2.2.2.2.1))] := hD
  refine lv_aload_n hx hb dX6_hush_10 rfl (lv_at hl 1 rfl) ?_
  refine lv_iconst (v := 0) hx hb dX6_hush_11 (by decide) ?_
  refine va_put (D := D) (ci := 5) (v := .int 0) (ty := .int) (C := RX6) (T := TX6) (N := 8) hx hb hts q2 tyX6 tyX6_ok nmX6 hown hK hP hD hS 0 rfl rfl 6 (by decide) q1 (fun _ h9 => h9) rfl (by decide +kernel) rfl rfl (Nat.le_of_ble_eq_true rfl) dX6_hush_12 (fun H locs hP hD hS => ?_)
  have hP : va_P D vwCl [(h0, .inr (5, [.ref h1, .ref h2, .ref h3, .int u.2.2.2.1, .ref h4, .ref h5, .int 0, .int 0])), (h1, .inl (cJ, 8, .inr (.inl u.1))), (h2, .inl (cI, 8, .inl u.2.1)), (h3, .inl (cJ, 8, .inr (.inl u.2.2.1))), (h4, .inl (cC, 40, .inl u.2.2.2.2.1)), (h5, .inl (cI, 40, .inl u.2.2.2.2.2.1))] H := hP
  have hD : va_D A [(h0, .inr (5, [.ref h1, .ref h2, .ref h3, .int u.2.2.2.1, .ref h4, .ref h5, .int 0, .int 0])), (h1, .inl (cJ, 8, .inr (.inl u.1))), (h2, .inl (cI, 8, .inl u.2.1)), (h3, .inl (cJ, 8, .inr (.inl u.2.2.1))), (h4, .inl (cC, 40, .inl u.2.2.2.2.1)), (h5, .inl (cI, 40, .inl u.2.2.2.2.2.1))] := hD
  refine lv_iload_n hx hb dX6_hush_15 rfl (lv_at hl 0 rfl) ?_
  have hP9 : va_P D vwCl (wM cC cI cJ h0 h1 h2 h3 h4 h5 (u.1, (u.2.1, (u.2.2.1, (u.2.2.2.1, (u.2.2.2.2.1, (u.2.2.2.2.2.1, (0, 0)))))))) _ := hP
  have hD9 : va_D A (wM cC cI cJ h0 h1 h2 h3 h4 h5 (u.1, (u.2.1, (u.2.2.1, (u.2.2.2.1, (u.2.2.2.2.1, (u.2.2.2.2.2.1, (0, 0)))))))) := hD
  have hf := Option.some.inj hf
  have hf1 := congrArg Prod.fst hf
  have hf2 := congrArg Prod.snd hf
  exact W.iret (v := u.2.2.2.2.2.2.1) hx hb hr (fun t ht hW => ⟨⟨u.2.2.2.2.2.2.1, (u.1, (u.2.1, (u.2.2.1, (u.2.2.2.1, (u.2.2.2.2.1, (u.2.2.2.2.2.1, (0, 0))))))), rfl, ⟨hf1, hf2⟩, by rw [ht]; exact hP9, va_K.moved hW.alike hK, hD9⟩, hS.F ht⟩) hS.2.2 dX6_hush_16

set_option maxHeartbeats 4000000 in
set_option maxRecDepth 100000 in
theorem m_X6_done (l : Launch) (D : va_G) (cC cI cJ : ClassId) (h0 h1 h2 h3 h4 h5 : Nat) (u : StM) (a0 : Int32) (a1 : Int64) (a2 : Bool) (res : Int64) (hf : f_X6_done u a0 a1 a2 = some res) : Met l yX6_done wsX6_done rmX6_done (my_PcR D vwCl (KT cC cI cJ) (wM cC cI cJ h0 h1 h2 h3 h4 h5 u) [.ref h0, .int a0, .long a1, .int (b2i a2)]) (vp_Sl (fun z => z = res)) 0 0 (fun _ => False) := by
  refine Met.ofW (cc := cX6_done) (maxL := 10) (ret := (some .long)) (by decide) rfl ?_
  intro p e s m args below meth c s₁ B hml hv
  obtain ⟨rfl, hP, hK⟩ := hv
  have hx := B.exec
  have hb := B.bytes
  have hr := B.returns
  have hts : ∀ w ∈ wsX6_done, w.before ([.ref h0, .int a0, .long a1, .int (b2i a2)] : List Value).toArray s = true := atoms_spec (ws := wsX6_done) B.pre
  have hown : s.vm.findClass RX6 = some m.cls := findClass_of_methodNamed B.named
  have hlk : meth.locks = false := B.notSynchronized
  have hP : va_P D vwCl [(h0, .inr (5, [.ref h1, .ref h2, .ref h3, .int u.2.2.2.1, .ref h4, .ref h5, .int u.2.2.2.2.2.2.1, .int u.2.2.2.2.2.2.2])), (h1, .inl (cJ, 8, .inr (.inl u.1))), (h2, .inl (cI, 8, .inl u.2.1)), (h3, .inl (cJ, 8, .inr (.inl u.2.2.1))), (h4, .inl (cC, 40, .inl u.2.2.2.2.1)), (h5, .inl (cI, 40, .inl u.2.2.2.2.2.1))] s.heap := hP
  have q1 := hts (.fieldLink RX6 20 "DoublelineModel" "kinds" "[C") (by decide +kernel)
  have q2 : ∀ w ∈ u_ws RX6 TX6 8, w ∈ wsX6_done := by decide +kernel
  have q3 := hts (.fieldLink RX6 24 "DoublelineModel" "counts" "[I") (by decide +kernel)
  have hl := lv_entry ([.ref h0, .int a0, .long a1, .int (b2i a2)]) (n := 10) (Nat.le_of_ble_eq_true rfl)
  rw [lg_entry_eq]
  generalize (lg_sl ([.ref h0, .int a0, .long a1, .int (b2i a2)]) ++ List.replicate (10 - (lg_sl ([.ref h0, .int a0, .long a1, .int (b2i a2)])).length) Slot.unset).toArray = ls at hl ⊢
  have hl : lv_has ls 10 [(0, .ref h0), (1, .int a0), (2, .long a1), (4, .int (b2i a2))] := hl
  unfold f_X6_done at hf
  refine lv_aload_n hx hb dX6_done_0 rfl (lv_at hl 0 rfl) ?_
  refine va_get (D := D) (ci := 5) (v := .ref h4) (C := RX6) (T := TX6) (N := 8) hx hb hts q2 hown hK hP 0 rfl rfl 4 (by decide) q1 (fun _ h9 => h9) rfl dX6_done_1 ?_
  refine lv_iload_n hx hb dX6_done_4 rfl (lv_at hl 1 rfl) ?_
  obtain ⟨g1, hf⟩ := og_e hf
  refine va_cald hx hb hK hP 4 0 rfl rfl g1 dX6_done_5 ?_
  refine lv_istore (lv' := [(5, .int (u.2.2.2.2.1 a0.toNatClampNeg)), (0, .ref h0), (1, .int a0), (2, .long a1), (4, .int (b2i a2))]) hx hb dX6_done_6 hl (by decide) rfl (fun ls hl => ?_)
  refine lv_aload_n hx hb dX6_done_8 rfl (lv_at hl 1 rfl) ?_
  refine va_get (D := D) (ci := 5) (v := .ref h5) (C := RX6) (T := TX6) (N := 8) hx hb hts q2 hown hK hP 0 rfl rfl 5 (by decide) q3 (fun _ h9 => h9) rfl dX6_done_9 ?_
  refine lv_iload_n hx hb dX6_done_12 rfl (lv_at hl 2 rfl) ?_
  obtain ⟨g2, hf⟩ := og_e hf
  refine va_iald hx hb hK hP 5 1 rfl rfl g2 dX6_done_13 ?_
  refine lv_istore (lv' := [(6, .int (u.2.2.2.2.2.1 a0.toNatClampNeg)), (5, .int (u.2.2.2.2.1 a0.toNatClampNeg)), (0, .ref h0), (1, .int a0), (2, .long a1), (4, .int (b2i a2))]) hx hb dX6_done_14 hl (by decide) rfl (fun ls hl => ?_)
  refine lv_iload hx hb dX6_done_16 (lv_at hl 1 rfl) ?_
  refine lv_bipush (v := 110) hx hb dX6_done_18 (by decide) ?_
  refine my_ic_ne (tgt := 28) hx hb dX6_done_20 (by decide) (fun c3 => ?_) (fun c3 => ?_)
  · rw [if_neg c3] at hf
    refine lv_iload hx hb dX6_done_28 (lv_at hl 1 rfl) ?_
    refine lv_bipush (v := 120) hx hb dX6_done_30 (by decide) ?_
    refine my_ic_ne (tgt := 53) hx hb dX6_done_32 (by decide) (fun c4 => ?_) (fun c4 => ?_)
    · rw [if_neg c4] at hf
      refine lv_lload_n hx hb dX6_done_53 rfl (lv_at hl 4 rfl) ?_
      refine lv_lstore (lv' := [(7, .long a1), (6, .int (u.2.2.2.2.2.1 a0.toNatClampNeg)), (5, .int (u.2.2.2.2.1 a0.toNatClampNeg)), (0, .ref h0), (1, .int a0), (2, .long a1), (4, .int (b2i a2))]) hx hb dX6_done_54 hl (by decide) rfl (fun ls hl => ?_)
      refine lv_iconst (v := 0) hx hb dX6_done_56 (by decide) ?_
      refine lv_istore (lv' := [(9, .int 0), (7, .long a1), (6, .int (u.2.2.2.2.2.1 a0.toNatClampNeg)), (5, .int (u.2.2.2.2.1 a0.toNatClampNeg)), (0, .ref h0), (1, .int a0), (2, .long a1), (4, .int (b2i a2))]) hx hb dX6_done_57 hl (by decide) rfl (fun ls hl => ?_)
      have loop59 : ∀ (n59 : Nat) (v59_9 : Int32) (v59_7 : Int64) (v59_6 : Int32) (v59_5 : Int32) (v59_4 : Int32) (ls : Array Slot), lv_has ls 10 [(9, .int v59_9), (7, .long v59_7), (6, .int v59_6), (5, .int v59_5), (4, .int v59_4)] → f_X6_done_L59 u a0 a1 a2 n59 v59_9 v59_7 v59_6 v59_5 v59_4 = some res → W p l e (rmX6_done) s m ([.ref h0, .int a0, .long a1, .int (b2i a2)] : List Value).toArray below meth c s.heap [] 0 0 (MQ below (vp_Sl (fun z => z = res)) ([.ref h0, .int a0, .long a1, .int (b2i a2)] : List Value).toArray s 0 0 (fun _ => False)) (F0 m 59 ls []) := by
        intro n59
        induction n59 with
        | zero => intro v59_9 v59_7 v59_6 v59_5 v59_4 ls hl hf; rw [f_X6_done_L59] at hf; cases hf
        | succ n59 ih59 =>
          intro v59_9 v59_7 v59_6 v59_5 v59_4 ls hl hf
          rw [f_X6_done_L59] at hf
          refine lv_iload hx hb dX6_done_59 (lv_at hl 0 rfl) ?_
          refine lv_iload hx hb dX6_done_61 (lv_at hl 2 rfl) ?_
          refine my_ic_ge (tgt := 104) hx hb dX6_done_63 (by decide) (fun c5 => ?_) (fun c5 => ?_)
          · rw [if_neg c5] at hf
            refine lv_lload hx hb dX6_done_104 (lv_at hl 1 rfl) ?_
            exact W.lret (v := v59_7) hx hb hr (fun t ht hW => ⟨_, rfl, Option.some.inj hf, ht⟩) (fun q hq => absurd hq List.not_mem_nil) dX6_done_106
          · rw [if_pos c5] at hf
            refine lv_iload hx hb dX6_done_66 (lv_at hl 3 rfl) ?_
            refine lv_bipush (v := 117) hx hb dX6_done_68 (by decide) ?_
            refine my_ic_ne (tgt := 77) hx hb dX6_done_70 (by decide) (fun c6 => ?_) (fun c6 => ?_)
            · rw [if_neg c6] at hf
              refine lv_iconst (v := 0) hx hb dX6_done_77 (by decide) ?_
              refine lv_iload hx hb dX6_done_78 (lv_at hl 4 rfl) ?_
              refine my_ic_eq (tgt := 91) hx hb dX6_done_80 (by decide) (fun c7 => ?_) (fun c7 => ?_)
              · rw [if_pos c7] at hf
                refine lv_lload hx hb dX6_done_91 (lv_at hl 1 rfl) ?_
                refine my_callPl (As := [.long v59_7]) (n := 1) (rest := []) ⟨hx, hb, hml, hown, hts⟩ (m_X6_below l v59_7 _ rfl) gX6_done_X6_below rfl ⟨rfl, rfl⟩ (by decide +kernel) ⟨Nat.le_of_ble_eq_true rfl, Nat.le_of_ble_eq_true rfl⟩ ⟨Nat.le_of_ble_eq_true rfl, Nat.le_of_ble_eq_true rfl⟩ hl.1 rfl rfl (Nat.le_of_ble_eq_true rfl) dX6_done_93 ?_
                refine lv_lstore (lv' := [(7, .long (f_X6_below v59_7)), (9, .int v59_9), (6, .int v59_6), (5, .int v59_5), (4, .int v59_4)]) hx hb dX6_done_96 hl (by decide) rfl (fun ls hl => ?_)
                refine lv_iinc (v := (v59_9 + 1)) (lv' := [(9, .int (v59_9 + 1)), (7, .long (f_X6_below v59_7)), (6, .int v59_6), (5, .int v59_5), (4, .int v59_4)]) hx hb dX6_done_98 hl (k := 1) rfl rfl (by decide) rfl (fun ls hl => ?_)
                refine lv_goto (tgt := 59) hx hb dX6_done_101 (by decide) ?_
                exact ih59 (v59_9 + 1) (f_X6_below v59_7) v59_6 v59_5 v59_4 _ (lv_sub hl [0, 1, 2, 3, 4] rfl) hf
              · rw [if_neg c7] at hf
                refine lv_lload hx hb dX6_done_83 (lv_at hl 1 rfl) ?_
                refine my_callPl (As := [.long v59_7]) (n := 1) (rest := []) ⟨hx, hb, hml, hown, hts⟩ (m_X6_above l v59_7 _ rfl) gX6_done_X6_above rfl ⟨rfl, rfl⟩ (by decide +kernel) ⟨Nat.le_of_ble_eq_true rfl, Nat.le_of_ble_eq_true rfl⟩ ⟨Nat.le_of_ble_eq_true rfl, Nat.le_of_ble_eq_true rfl⟩ hl.1 rfl rfl (Nat.le_of_ble_eq_true rfl) dX6_done_85 ?_
                refine lv_goto (tgt := 96) hx hb dX6_done_88 (by decide) ?_
                refine lv_lstore (lv' := [(7, .long (f_X6_above v59_7)), (9, .int v59_9), (6, .int v59_6), (5, .int v59_5), (4, .int v59_4)]) hx hb dX6_done_96 hl (by decide) rfl (fun ls hl => ?_)
                refine lv_iinc (v := (v59_9 + 1)) (lv' := [(9, .int (v59_9 + 1)), (7, .long (f_X6_above v59_7)), (6, .int v59_6), (5, .int v59_5), (4, .int v59_4)]) hx hb dX6_done_98 hl (k := 1) rfl rfl (by decide) rfl (fun ls hl => ?_)
                refine lv_goto (tgt := 59) hx hb dX6_done_101 (by decide) ?_
                exact ih59 (v59_9 + 1) (f_X6_above v59_7) v59_6 v59_5 v59_4 _ (lv_sub hl [0, 1, 2, 3, 4] rfl) hf
            · rw [if_pos c6] at hf
              refine lv_iconst (v := 1) hx hb dX6_done_73 (by decide) ?_
              refine lv_goto (tgt := 78) hx hb dX6_done_74 (by decide) ?_
              refine lv_iload hx hb dX6_done_78 (lv_at hl 4 rfl) ?_
              refine my_ic_eq (tgt := 91) hx hb dX6_done_80 (by decide) (fun c8 => ?_) (fun c8 => ?_)
              · rw [if_pos c8] at hf
                refine lv_lload hx hb dX6_done_91 (lv_at hl 1 rfl) ?_
                refine my_callPl (As := [.long v59_7]) (n := 1) (rest := []) ⟨hx, hb, hml, hown, hts⟩ (m_X6_below l v59_7 _ rfl) gX6_done_X6_below rfl ⟨rfl, rfl⟩ (by decide +kernel) ⟨Nat.le_of_ble_eq_true rfl, Nat.le_of_ble_eq_true rfl⟩ ⟨Nat.le_of_ble_eq_true rfl, Nat.le_of_ble_eq_true rfl⟩ hl.1 rfl rfl (Nat.le_of_ble_eq_true rfl) dX6_done_93 ?_
                refine lv_lstore (lv' := [(7, .long (f_X6_below v59_7)), (9, .int v59_9), (6, .int v59_6), (5, .int v59_5), (4, .int v59_4)]) hx hb dX6_done_96 hl (by decide) rfl (fun ls hl => ?_)
                refine lv_iinc (v := (v59_9 + 1)) (lv' := [(9, .int (v59_9 + 1)), (7, .long (f_X6_below v59_7)), (6, .int v59_6), (5, .int v59_5), (4, .int v59_4)]) hx hb dX6_done_98 hl (k := 1) rfl rfl (by decide) rfl (fun ls hl => ?_)
                refine lv_goto (tgt := 59) hx hb dX6_done_101 (by decide) ?_
                exact ih59 (v59_9 + 1) (f_X6_below v59_7) v59_6 v59_5 v59_4 _ (lv_sub hl [0, 1, 2, 3, 4] rfl) hf
              · rw [if_neg c8] at hf
                refine lv_lload hx hb dX6_done_83 (lv_at hl 1 rfl) ?_
                refine my_callPl (As := [.long v59_7]) (n := 1) (rest := []) ⟨hx, hb, hml, hown, hts⟩ (m_X6_above l v59_7 _ rfl) gX6_done_X6_above rfl ⟨rfl, rfl⟩ (by decide +kernel) ⟨Nat.le_of_ble_eq_true rfl, Nat.le_of_ble_eq_true rfl⟩ ⟨Nat.le_of_ble_eq_true rfl, Nat.le_of_ble_eq_true rfl⟩ hl.1 rfl rfl (Nat.le_of_ble_eq_true rfl) dX6_done_85 ?_
                refine lv_goto (tgt := 96) hx hb dX6_done_88 (by decide) ?_
                refine lv_lstore (lv' := [(7, .long (f_X6_above v59_7)), (9, .int v59_9), (6, .int v59_6), (5, .int v59_5), (4, .int v59_4)]) hx hb dX6_done_96 hl (by decide) rfl (fun ls hl => ?_)
                refine lv_iinc (v := (v59_9 + 1)) (lv' := [(9, .int (v59_9 + 1)), (7, .long (f_X6_above v59_7)), (6, .int v59_6), (5, .int v59_5), (4, .int v59_4)]) hx hb dX6_done_98 hl (k := 1) rfl rfl (by decide) rfl (fun ls hl => ?_)
                refine lv_goto (tgt := 59) hx hb dX6_done_101 (by decide) ?_
                exact ih59 (v59_9 + 1) (f_X6_above v59_7) v59_6 v59_5 v59_4 _ (lv_sub hl [0, 1, 2, 3, 4] rfl) hf
      exact loop59 100 0 a1 (u.2.2.2.2.2.1 a0.toNatClampNeg) (u.2.2.2.2.1 a0.toNatClampNeg) (b2i a2) _ (lv_sub hl [0, 1, 2, 3, 7] rfl) hf
    · rw [if_pos c4] at hf
      refine lv_lload_n hx hb dX6_done_35 rfl (lv_at hl 4 rfl) ?_
      refine lv_iload hx hb dX6_done_36 (lv_at hl 5 rfl) ?_
      refine my_bz_eq (x := a2) (tgt := 47) hx hb dX6_done_38 (by decide) (fun c9 => ?_) (fun c9 => ?_)
      · rw [if_pos c9] at hf
        refine lv_iload hx hb dX6_done_47 (lv_at hl 0 rfl) ?_
        obtain ⟨r10, er10, hf⟩ := ob_e hf
        refine my_callPl (As := [.long a1, .int (u.2.2.2.2.2.1 a0.toNatClampNeg)]) (n := 2) (rest := []) ⟨hx, hb, hml, hown, hts⟩ (m_X6_scaled l a1 (u.2.2.2.2.2.1 a0.toNatClampNeg) _ er10) gX6_done_X6_scaled rfl ⟨rfl, rfl⟩ (by decide +kernel) ⟨Nat.le_of_ble_eq_true rfl, Nat.le_of_ble_eq_true rfl⟩ ⟨Nat.le_of_ble_eq_true rfl, Nat.le_of_ble_eq_true rfl⟩ hl.1 rfl rfl (Nat.le_of_ble_eq_true rfl) dX6_done_49 ?_
        exact W.lret (v := r10) hx hb hr (fun t ht hW => ⟨_, rfl, Option.some.inj hf, ht⟩) (fun q hq => absurd hq List.not_mem_nil) dX6_done_52
      · rw [if_neg c9] at hf
        refine lv_iload hx hb dX6_done_41 (lv_at hl 0 rfl) ?_
        refine lv_ineg hx hb dX6_done_43 ?_
        refine lv_goto (tgt := 49) hx hb dX6_done_44 (by decide) ?_
        obtain ⟨r11, er11, hf⟩ := ob_e hf
        refine my_callPl (As := [.long a1, .int (-(u.2.2.2.2.2.1 a0.toNatClampNeg))]) (n := 2) (rest := []) ⟨hx, hb, hml, hown, hts⟩ (m_X6_scaled l a1 (-(u.2.2.2.2.2.1 a0.toNatClampNeg)) _ er11) gX6_done_X6_scaled rfl ⟨rfl, rfl⟩ (by decide +kernel) ⟨Nat.le_of_ble_eq_true rfl, Nat.le_of_ble_eq_true rfl⟩ ⟨Nat.le_of_ble_eq_true rfl, Nat.le_of_ble_eq_true rfl⟩ hl.1 rfl rfl (Nat.le_of_ble_eq_true rfl) dX6_done_49 ?_
        exact W.lret (v := r11) hx hb hr (fun t ht hW => ⟨_, rfl, Option.some.inj hf, ht⟩) (fun q hq => absurd hq List.not_mem_nil) dX6_done_52
  · rw [if_pos c3] at hf
    refine lv_lload_n hx hb dX6_done_23 rfl (lv_at hl 4 rfl) ?_
    refine my_callPl (As := [.long a1]) (n := 1) (rest := []) ⟨hx, hb, hml, hown, hts⟩ (m_X6_opposite l a1 _ rfl) gX6_done_X6_opposite rfl ⟨rfl, rfl⟩ (by decide +kernel) ⟨Nat.le_of_ble_eq_true rfl, Nat.le_of_ble_eq_true rfl⟩ ⟨Nat.le_of_ble_eq_true rfl, Nat.le_of_ble_eq_true rfl⟩ hl.1 rfl rfl (Nat.le_of_ble_eq_true rfl) dX6_done_24 ?_
    exact W.lret (v := (f_X6_opposite a1)) hx hb hr (fun t ht hW => ⟨_, rfl, Option.some.inj hf, ht⟩) (fun q hq => absurd hq List.not_mem_nil) dX6_done_27

set_option maxHeartbeats 4000000 in
set_option maxRecDepth 100000 in
theorem m_X6_played (l : Launch) (D : va_G) (cC cI cJ : ClassId) (h0 h1 h2 h3 h4 h5 : Nat) (u : StM) (a0 : Int64) (res : Int64) (hf : f_X6_played u a0 = some res) : Met l yX6_played wsX6_played rmX6_played (my_PcR D vwCl (KT cC cI cJ) (wM cC cI cJ h0 h1 h2 h3 h4 h5 u) [.ref h0, .long a0]) (vp_Sl (fun z => z = res)) 0 0 (fun _ => False) := by
  refine Met.ofW (cc := cX6_played) (maxL := 6) (ret := (some .long)) (by decide) rfl ?_
  intro p e s m args below meth c s₁ B hml hv
  obtain ⟨rfl, hP, hK⟩ := hv
  have hx := B.exec
  have hb := B.bytes
  have hr := B.returns
  have hts : ∀ w ∈ wsX6_played, w.before ([.ref h0, .long a0] : List Value).toArray s = true := atoms_spec (ws := wsX6_played) B.pre
  have hown : s.vm.findClass RX6 = some m.cls := findClass_of_methodNamed B.named
  have hlk : meth.locks = false := B.notSynchronized
  have hP : va_P D vwCl [(h0, .inr (5, [.ref h1, .ref h2, .ref h3, .int u.2.2.2.1, .ref h4, .ref h5, .int u.2.2.2.2.2.2.1, .int u.2.2.2.2.2.2.2])), (h1, .inl (cJ, 8, .inr (.inl u.1))), (h2, .inl (cI, 8, .inl u.2.1)), (h3, .inl (cJ, 8, .inr (.inl u.2.2.1))), (h4, .inl (cC, 40, .inl u.2.2.2.2.1)), (h5, .inl (cI, 40, .inl u.2.2.2.2.2.1))] s.heap := hP
  have q1 := hts (.fieldLink RX6 174 "DoublelineModel" "words" "I") (by decide +kernel)
  have q2 : ∀ w ∈ u_ws RX6 TX6 8, w ∈ wsX6_played := by decide +kernel
  have hl := lv_entry ([.ref h0, .long a0]) (n := 6) (Nat.le_of_ble_eq_true rfl)
  rw [lg_entry_eq]
  generalize (lg_sl ([.ref h0, .long a0]) ++ List.replicate (6 - (lg_sl ([.ref h0, .long a0])).length) Slot.unset).toArray = ls at hl ⊢
  have hl : lv_has ls 6 [(0, .ref h0), (1, .long a0)] := hl
  unfold f_X6_played at hf
  refine lv_lload_n hx hb dX6_played_0 rfl (lv_at hl 1 rfl) ?_
  refine lv_lstore_n (lv' := [(3, .long a0), (0, .ref h0), (1, .long a0)]) hx hb dX6_played_1 rfl hl (by decide) rfl (fun ls hl => ?_)
  refine lv_iconst (v := 0) hx hb dX6_played_2 (by decide) ?_
  refine lv_istore (lv' := [(5, .int 0), (3, .long a0), (0, .ref h0), (1, .long a0)]) hx hb dX6_played_3 hl (by decide) rfl (fun ls hl => ?_)
  have loop5 : ∀ (n5 : Nat) (v5_5 : Int32) (v5_3 : Int64) (ls : Array Slot), lv_has ls 6 [(5, .int v5_5), (3, .long v5_3), (0, .ref h0)] → f_X6_played_L5 u a0 n5 v5_5 v5_3 = some res → W p l e (rmX6_played) s m ([.ref h0, .long a0] : List Value).toArray below meth c s.heap [] 0 0 (MQ below (vp_Sl (fun z => z = res)) ([.ref h0, .long a0] : List Value).toArray s 0 0 (fun _ => False)) (F0 m 5 ls []) := by
    intro n5
    induction n5 with
    | zero => intro v5_5 v5_3 ls hl hf; rw [f_X6_played_L5] at hf; cases hf
    | succ n5 ih5 =>
      intro v5_5 v5_3 ls hl hf
      rw [f_X6_played_L5] at hf
      refine lv_iload hx hb dX6_played_5 (lv_at hl 0 rfl) ?_
      refine lv_aload_n hx hb dX6_played_7 rfl (lv_at hl 2 rfl) ?_
      refine va_get (D := D) (ci := 5) (v := .int u.2.2.2.2.2.2.1) (C := RX6) (T := TX6) (N := 8) hx hb hts q2 hown hK hP 0 rfl rfl 6 (by decide) q1 (fun _ h9 => h9) rfl dX6_played_8 ?_
      refine my_ic_ge (tgt := 29) hx hb dX6_played_11 (by decide) (fun c1 => ?_) (fun c1 => ?_)
      · rw [if_neg c1] at hf
        refine lv_lload_n hx hb dX6_played_29 rfl (lv_at hl 1 rfl) ?_
        exact W.lret (v := v5_3) hx hb hr (fun t ht hW => ⟨_, rfl, Option.some.inj hf, ht⟩) (fun q hq => absurd hq List.not_mem_nil) dX6_played_30
      · rw [if_pos c1] at hf
        refine lv_aload_n hx hb dX6_played_14 rfl (lv_at hl 2 rfl) ?_
        refine lv_iload hx hb dX6_played_15 (lv_at hl 0 rfl) ?_
        refine lv_lload_n hx hb dX6_played_17 rfl (lv_at hl 1 rfl) ?_
        refine lv_iconst (v := 0) hx hb dX6_played_18 (by decide) ?_
        obtain ⟨r2, er2, hf⟩ := ob_e hf
        refine my_callRl (As := [.int v5_5, .long v5_3, .int (b2i false)]) (n := 3) (rest := []) ⟨hx, hb, hml, hown, hts⟩ hK (hP.sub (ws' := (wM cC cI cJ h0 h1 h2 h3 h4 h5 u)) [0, 1, 2, 3, 4, 5] rfl) (m_X6_done l D cC cI cJ h0 h1 h2 h3 h4 h5 u v5_5 v5_3 false _ er2) gX6_played_X6_done rfl ⟨rfl, rfl⟩ (ci := 5) rfl rfl (by decide +kernel) ⟨Nat.le_of_ble_eq_true rfl, Nat.le_of_ble_eq_true rfl⟩ ⟨Nat.le_of_ble_eq_true rfl, Nat.le_of_ble_eq_true rfl⟩ hl.1 rfl rfl (Nat.le_of_ble_eq_true rfl) dX6_played_19 ?_
        refine lv_lstore_n (lv' := [(3, .long r2), (5, .int v5_5), (0, .ref h0)]) hx hb dX6_played_22 rfl hl (by decide) rfl (fun ls hl => ?_)
        refine lv_iinc (v := (v5_5 + 1)) (lv' := [(5, .int (v5_5 + 1)), (3, .long r2), (0, .ref h0)]) hx hb dX6_played_23 hl (k := 1) rfl rfl (by decide) rfl (fun ls hl => ?_)
        refine lv_goto (tgt := 5) hx hb dX6_played_26 (by decide) ?_
        exact ih5 (v5_5 + 1) r2 _ (lv_sub hl [0, 1, 2] rfl) hf
  exact loop5 100 0 a0 _ (lv_sub hl [0, 1, 2] rfl) hf

set_option maxHeartbeats 4000000 in
set_option maxRecDepth 100000 in
theorem m_X6_playedBack (l : Launch) (D : va_G) (cC cI cJ : ClassId) (h0 h1 h2 h3 h4 h5 : Nat) (u : StM) (a0 : Int64) (res : Int64) (hf : f_X6_playedBack u a0 = some res) : Met l yX6_playedBack wsX6_playedBack rmX6_playedBack (my_PcR D vwCl (KT cC cI cJ) (wM cC cI cJ h0 h1 h2 h3 h4 h5 u) [.ref h0, .long a0]) (vp_Sl (fun z => z = res)) 0 0 (fun _ => False) := by
  refine Met.ofW (cc := cX6_playedBack) (maxL := 6) (ret := (some .long)) (by decide) rfl ?_
  intro p e s m args below meth c s₁ B hml hv
  obtain ⟨rfl, hP, hK⟩ := hv
  have hx := B.exec
  have hb := B.bytes
  have hr := B.returns
  have hts : ∀ w ∈ wsX6_playedBack, w.before ([.ref h0, .long a0] : List Value).toArray s = true := atoms_spec (ws := wsX6_playedBack) B.pre
  have hown : s.vm.findClass RX6 = some m.cls := findClass_of_methodNamed B.named
  have hlk : meth.locks = false := B.notSynchronized
  have hP : va_P D vwCl [(h0, .inr (5, [.ref h1, .ref h2, .ref h3, .int u.2.2.2.1, .ref h4, .ref h5, .int u.2.2.2.2.2.2.1, .int u.2.2.2.2.2.2.2])), (h1, .inl (cJ, 8, .inr (.inl u.1))), (h2, .inl (cI, 8, .inl u.2.1)), (h3, .inl (cJ, 8, .inr (.inl u.2.2.1))), (h4, .inl (cC, 40, .inl u.2.2.2.2.1)), (h5, .inl (cI, 40, .inl u.2.2.2.2.2.1))] s.heap := hP
  have q1 := hts (.fieldLink RX6 174 "DoublelineModel" "words" "I") (by decide +kernel)
  have q2 : ∀ w ∈ u_ws RX6 TX6 8, w ∈ wsX6_playedBack := by decide +kernel
  have hl := lv_entry ([.ref h0, .long a0]) (n := 6) (Nat.le_of_ble_eq_true rfl)
  rw [lg_entry_eq]
  generalize (lg_sl ([.ref h0, .long a0]) ++ List.replicate (6 - (lg_sl ([.ref h0, .long a0])).length) Slot.unset).toArray = ls at hl ⊢
  have hl : lv_has ls 6 [(0, .ref h0), (1, .long a0)] := hl
  unfold f_X6_playedBack at hf
  refine lv_lload_n hx hb dX6_playedBack_0 rfl (lv_at hl 1 rfl) ?_
  refine lv_lstore_n (lv' := [(3, .long a0), (0, .ref h0), (1, .long a0)]) hx hb dX6_playedBack_1 rfl hl (by decide) rfl (fun ls hl => ?_)
  refine lv_aload_n hx hb dX6_playedBack_2 rfl (lv_at hl 1 rfl) ?_
  refine va_get (D := D) (ci := 5) (v := .int u.2.2.2.2.2.2.1) (C := RX6) (T := TX6) (N := 8) hx hb hts q2 hown hK hP 0 rfl rfl 6 (by decide) q1 (fun _ h9 => h9) rfl dX6_playedBack_3 ?_
  refine lv_iconst (v := 1) hx hb dX6_playedBack_6 (by decide) ?_
  refine lv_isub hx hb dX6_playedBack_7 ?_
  refine lv_istore (lv' := [(5, .int (u.2.2.2.2.2.2.1 - 1)), (3, .long a0), (0, .ref h0), (1, .long a0)]) hx hb dX6_playedBack_8 hl (by decide) rfl (fun ls hl => ?_)
  have loop10 : ∀ (n10 : Nat) (v10_5 : Int32) (v10_3 : Int64) (ls : Array Slot), lv_has ls 6 [(5, .int v10_5), (3, .long v10_3), (0, .ref h0)] → f_X6_playedBack_L10 u a0 n10 v10_5 v10_3 = some res → W p l e (rmX6_playedBack) s m ([.ref h0, .long a0] : List Value).toArray below meth c s.heap [] 0 0 (MQ below (vp_Sl (fun z => z = res)) ([.ref h0, .long a0] : List Value).toArray s 0 0 (fun _ => False)) (F0 m 10 ls []) := by
    intro n10
    induction n10 with
    | zero => intro v10_5 v10_3 ls hl hf; rw [f_X6_playedBack_L10] at hf; cases hf
    | succ n10 ih10 =>
      intro v10_5 v10_3 ls hl hf
      rw [f_X6_playedBack_L10] at hf
      refine lv_iload hx hb dX6_playedBack_10 (lv_at hl 0 rfl) ?_
      refine my_if_lt (tgt := 30) hx hb dX6_playedBack_12 (by decide) (fun c1 => ?_) (fun c1 => ?_)
      · rw [if_pos c1] at hf
        refine lv_lload_n hx hb dX6_playedBack_30 rfl (lv_at hl 1 rfl) ?_
        exact W.lret (v := v10_3) hx hb hr (fun t ht hW => ⟨_, rfl, Option.some.inj hf, ht⟩) (fun q hq => absurd hq List.not_mem_nil) dX6_playedBack_31
      · rw [if_neg c1] at hf
        refine lv_aload_n hx hb dX6_playedBack_15 rfl (lv_at hl 2 rfl) ?_
        refine lv_iload hx hb dX6_playedBack_16 (lv_at hl 0 rfl) ?_
        refine lv_lload_n hx hb dX6_playedBack_18 rfl (lv_at hl 1 rfl) ?_
        refine lv_iconst (v := 1) hx hb dX6_playedBack_19 (by decide) ?_
        obtain ⟨r2, er2, hf⟩ := ob_e hf
        refine my_callRl (As := [.int v10_5, .long v10_3, .int (b2i true)]) (n := 3) (rest := []) ⟨hx, hb, hml, hown, hts⟩ hK (hP.sub (ws' := (wM cC cI cJ h0 h1 h2 h3 h4 h5 u)) [0, 1, 2, 3, 4, 5] rfl) (m_X6_done l D cC cI cJ h0 h1 h2 h3 h4 h5 u v10_5 v10_3 true _ er2) gX6_playedBack_X6_done rfl ⟨rfl, rfl⟩ (ci := 5) rfl rfl (by decide +kernel) ⟨Nat.le_of_ble_eq_true rfl, Nat.le_of_ble_eq_true rfl⟩ ⟨Nat.le_of_ble_eq_true rfl, Nat.le_of_ble_eq_true rfl⟩ hl.1 rfl rfl (Nat.le_of_ble_eq_true rfl) dX6_playedBack_20 ?_
        refine lv_lstore_n (lv' := [(3, .long r2), (5, .int v10_5), (0, .ref h0)]) hx hb dX6_playedBack_23 rfl hl (by decide) rfl (fun ls hl => ?_)
        refine lv_iinc (v := (v10_5 + (-1))) (lv' := [(5, .int (v10_5 + (-1))), (3, .long r2), (0, .ref h0)]) hx hb dX6_playedBack_24 hl (k := 1) rfl rfl (by decide) rfl (fun ls hl => ?_)
        refine lv_goto (tgt := 10) hx hb dX6_playedBack_27 (by decide) ?_
        exact ih10 (v10_5 + (-1)) r2 _ (lv_sub hl [0, 1, 2] rfl) hf
  exact loop10 100 (u.2.2.2.2.2.2.1 - 1) a0 _ (lv_sub hl [0, 1, 2] rfl) hf

set_option maxHeartbeats 4000000 in
set_option maxRecDepth 100000 in
theorem m_X6_play (l : Launch) (D : va_G) (cC cI cJ : ClassId) (h0 h1 h2 h3 h4 h5 : Nat) (u : StM) (sz : Nat) (a0 : Int32) (a1 : Int32) (res : Int64 × StM) (hf : f_X6_play u a0 a1 = some res) : Met l yX6_play wsX6_play rmX6_play (my_PcM D vwCl (KT cC cI cJ) sz (wM cC cI cJ h0 h1 h2 h3 h4 h5 u) [.ref h0, .int a0, .int a1]) (va_Ql (fun r v => r = res.1 ∧ v = res.2) (my_B D vwCl (KT cC cI cJ) (va_A (wM cC cI cJ h0 h1 h2 h3 h4 h5 u) sz) (fun v : StM => (wM cC cI cJ h0 h1 h2 h3 h4 h5 v))) (va_A (wM cC cI cJ h0 h1 h2 h3 h4 h5 u) sz)) 0 0 (va_A (wM cC cI cJ h0 h1 h2 h3 h4 h5 u) sz) := by
  refine Met.ofW (cc := cX6_play) (maxL := 3) (ret := (some .long)) (by decide) rfl ?_
  intro p e s m args below meth c s₁ B hml hv
  obtain ⟨rfl, hsz, hP, hK, hD0⟩ := hv
  have hx := B.exec
  have hb := B.bytes
  have hr := B.returns
  have hts : ∀ w ∈ wsX6_play, w.before ([.ref h0, .int a0, .int a1] : List Value).toArray s = true := atoms_spec (ws := wsX6_play) B.pre
  have hown : s.vm.findClass RX6 = some m.cls := findClass_of_methodNamed B.named
  have hlk : meth.locks = false := B.notSynchronized
  subst hsz
  have hD := hD0.self (sz := s.heap.size)
  generalize hAe : va_A (wM cC cI cJ h0 h1 h2 h3 h4 h5 u) s.heap.size = A at hD ⊢
  have hA : ∀ q : Nat, s.heap.size ≤ q → A q := fun q h => by rw [← hAe]; exact Or.inr h
  have hS : va_S A s.heap s.heap [] := va_S.rf
  have hP : va_P D vwCl [(h0, .inr (5, [.ref h1, .ref h2, .ref h3, .int u.2.2.2.1, .ref h4, .ref h5, .int u.2.2.2.2.2.2.1, .int u.2.2.2.2.2.2.2])), (h1, .inl (cJ, 8, .inr (.inl u.1))), (h2, .inl (cI, 8, .inl u.2.1)), (h3, .inl (cJ, 8, .inr (.inl u.2.2.1))), (h4, .inl (cC, 40, .inl u.2.2.2.2.1)), (h5, .inl (cI, 40, .inl u.2.2.2.2.2.1))] s.heap := hP
  have hD : va_D A [(h0, .inr (5, [.ref h1, .ref h2, .ref h3, .int u.2.2.2.1, .ref h4, .ref h5, .int u.2.2.2.2.2.2.1, .int u.2.2.2.2.2.2.2])), (h1, .inl (cJ, 8, .inr (.inl u.1))), (h2, .inl (cI, 8, .inl u.2.1)), (h3, .inl (cJ, 8, .inr (.inl u.2.2.1))), (h4, .inl (cC, 40, .inl u.2.2.2.2.1)), (h5, .inl (cI, 40, .inl u.2.2.2.2.2.1))] := hD
  have q1 := hts (.fieldLink RX6 9 "DoublelineModel" "codes" "[J") (by decide +kernel)
  have q2 : ∀ w ∈ u_ws RX6 TX6 8, w ∈ wsX6_play := by decide +kernel
  have hl := lv_entry ([.ref h0, .int a0, .int a1]) (n := 3) (Nat.le_of_ble_eq_true rfl)
  rw [lg_entry_eq]
  generalize (lg_sl ([.ref h0, .int a0, .int a1]) ++ List.replicate (3 - (lg_sl ([.ref h0, .int a0, .int a1])).length) Slot.unset).toArray = ls at hl ⊢
  have hl : lv_has ls 3 [(0, .ref h0), (1, .int a0), (2, .int a1)] := hl
  unfold f_X6_play at hf
  refine lv_aload_n hx hb dX6_play_0 rfl (lv_at hl 0 rfl) ?_
  refine lv_iload_n hx hb dX6_play_1 rfl (lv_at hl 1 rfl) ?_
  refine lv_iload_n hx hb dX6_play_2 rfl (lv_at hl 2 rfl) ?_
  obtain ⟨z1, ez1, hf⟩ := ob_e hf
  refine my_callMi (As := [.int a0, .int a1]) (n := 2) (rest := []) (wr := []) ⟨hx, hb, hml, hown, hts⟩ hK hP hD hS hA [0, 1, 2, 3, 4, 5] [] rfl rfl (by decide) (by decide) (by decide) (m_X6_lacks_ l D cC cI cJ h0 h1 h2 h3 h4 h5 u s.heap.size a0 a1 _ ez1) gX6_play_X6_lacks_ rfl ⟨rfl, rfl⟩ (ci := 5) rfl rfl (by decide +kernel) ⟨Nat.le_of_ble_eq_true rfl, Nat.le_of_ble_eq_true rfl⟩ ⟨Nat.le_of_ble_eq_true rfl, Nat.le_of_ble_eq_true rfl⟩ hl.1 rfl rfl (Nat.le_of_ble_eq_true rfl) dX6_play_3 (fun r9 u9 H locs hw hP hD hS => ?_)
  obtain ⟨rfl, rfl⟩ := hw
  have hP : va_P D vwCl [(h0, .inr (5, [.ref h1, .ref h2, .ref h3, .int z1.2.2.2.2.1, .ref h4, .ref h5, .int z1.2.2.2.2.2.2.2.1, .int z1.2.2.2.2.2.2.2.2])), (h1, .inl (cJ, 8, .inr (.inl z1.2.1))), (h2, .inl (cI, 8, .inl z1.2.2.1)), (h3, .inl (cJ, 8, .inr (.inl z1.2.2.2.1))), (h4, .inl (cC, 40, .inl z1.2.2.2.2.2.1)), (h5, .inl (cI, 40, .inl z1.2.2.2.2.2.2.1))] H := hP.sub [0, 1, 2, 3, 4, 5] rfl
  have hD : va_D A [(h0, .inr (5, [.ref h1, .ref h2, .ref h3, .int z1.2.2.2.2.1, .ref h4, .ref h5, .int z1.2.2.2.2.2.2.2.1, .int z1.2.2.2.2.2.2.2.2])), (h1, .inl (cJ, 8, .inr (.inl z1.2.1))), (h2, .inl (cI, 8, .inl z1.2.2.1)), (h3, .inl (cJ, 8, .inr (.inl z1.2.2.2.1))), (h4, .inl (cC, 40, .inl z1.2.2.2.2.2.1)), (h5, .inl (cI, 40, .inl z1.2.2.2.2.2.2.1))] := hD.sub [0, 1, 2, 3, 4, 5] (by decide) rfl
  refine my_bz_eq (x := z1.1) (tgt := 11) hx hb dX6_play_6 (by decide) (fun c2 => ?_) (fun c2 => ?_)
  · rw [if_pos c2] at hf
    refine lv_aload_n hx hb dX6_play_11 rfl (lv_at hl 0 rfl) ?_
    refine lv_iload_n hx hb dX6_play_12 rfl (lv_at hl 2 rfl) ?_
    refine lv_aload_n hx hb dX6_play_13 rfl (lv_at hl 0 rfl) ?_
    refine lv_aload_n hx hb dX6_play_14 rfl (lv_at hl 0 rfl) ?_
    refine va_get (D := D) (ci := 5) (v := .ref h1) (C := RX6) (T := TX6) (N := 8) hx hb hts q2 hown hK hP 0 rfl rfl 0 (by decide) q1 (fun _ h9 => h9) rfl dX6_play_15 ?_
    refine lv_iload_n hx hb dX6_play_18 rfl (lv_at hl 1 rfl) ?_
    obtain ⟨g3, hf⟩ := og_e hf
    refine va_lald hx hb hK hP 1 2 rfl rfl g3 dX6_play_19 ?_
    obtain ⟨r4, er4, hf⟩ := ob_e hf
    refine my_callRl (As := [.long (z1.2.1 a0.toNatClampNeg)]) (n := 1) (rest := [.int a1, .ref h0]) ⟨hx, hb, hml, hown, hts⟩ hK (hP.sub (ws' := (wM cC cI cJ h0 h1 h2 h3 h4 h5 z1.2)) [0, 1, 2, 3, 4, 5] rfl) (m_X6_played l D cC cI cJ h0 h1 h2 h3 h4 h5 z1.2 (z1.2.1 a0.toNatClampNeg) _ er4) gX6_play_X6_played rfl ⟨rfl, rfl⟩ (ci := 5) rfl rfl (by decide +kernel) ⟨Nat.le_of_ble_eq_true rfl, Nat.le_of_ble_eq_true rfl⟩ ⟨Nat.le_of_ble_eq_true rfl, Nat.le_of_ble_eq_true rfl⟩ hl.1 rfl rfl (Nat.le_of_ble_eq_true rfl) dX6_play_20 ?_
    obtain ⟨z5, ez5, hf⟩ := ob_e hf
    refine my_callMl (As := [.int a1, .long r4]) (n := 2) (rest := []) (wr := []) ⟨hx, hb, hml, hown, hts⟩ hK hP hD hS hA [0, 1, 2, 3, 4, 5] [] rfl rfl (by decide) (by decide) (by decide) (m_X6_becomes l D cC cI cJ h0 h1 h2 h3 h4 h5 z1.2 H.size a1 r4 _ ez5) gX6_play_X6_becomes rfl ⟨rfl, rfl⟩ (ci := 5) rfl rfl (by decide +kernel) ⟨Nat.le_of_ble_eq_true rfl, Nat.le_of_ble_eq_true rfl⟩ ⟨Nat.le_of_ble_eq_true rfl, Nat.le_of_ble_eq_true rfl⟩ hl.1 rfl rfl (Nat.le_of_ble_eq_true rfl) dX6_play_23 (fun r9 u9 H locs hw hP hD hS => ?_)
    obtain ⟨rfl, rfl⟩ := hw
    have hP : va_P D vwCl [(h0, .inr (5, [.ref h1, .ref h2, .ref h3, .int z5.2.2.2.2.1, .ref h4, .ref h5, .int z5.2.2.2.2.2.2.2.1, .int z5.2.2.2.2.2.2.2.2])), (h1, .inl (cJ, 8, .inr (.inl z5.2.1))), (h2, .inl (cI, 8, .inl z5.2.2.1)), (h3, .inl (cJ, 8, .inr (.inl z5.2.2.2.1))), (h4, .inl (cC, 40, .inl z5.2.2.2.2.2.1)), (h5, .inl (cI, 40, .inl z5.2.2.2.2.2.2.1))] H := hP.sub [0, 1, 2, 3, 4, 5] rfl
    have hD : va_D A [(h0, .inr (5, [.ref h1, .ref h2, .ref h3, .int z5.2.2.2.2.1, .ref h4, .ref h5, .int z5.2.2.2.2.2.2.2.1, .int z5.2.2.2.2.2.2.2.2])), (h1, .inl (cJ, 8, .inr (.inl z5.2.1))), (h2, .inl (cI, 8, .inl z5.2.2.1)), (h3, .inl (cJ, 8, .inr (.inl z5.2.2.2.1))), (h4, .inl (cC, 40, .inl z5.2.2.2.2.2.1)), (h5, .inl (cI, 40, .inl z5.2.2.2.2.2.2.1))] := hD.sub [0, 1, 2, 3, 4, 5] (by decide) rfl
    have hP9 : va_P D vwCl (wM cC cI cJ h0 h1 h2 h3 h4 h5 z5.2) _ := hP
    have hD9 : va_D A (wM cC cI cJ h0 h1 h2 h3 h4 h5 z5.2) := hD
    have hf := Option.some.inj hf
    have hf1 := congrArg Prod.fst hf
    have hf2 := congrArg Prod.snd hf
    exact W.lret (v := z5.1) hx hb hr (fun t ht hW => ⟨⟨z5.1, z5.2, rfl, ⟨hf1, hf2⟩, by rw [ht]; exact hP9, va_K.moved hW.alike hK, hD9⟩, hS.F ht⟩) hS.2.2 dX6_play_26
  · rw [if_neg c2] at hf
    refine lv_lconst (v := 0) hx hb dX6_play_9 (by decide) ?_
    have hP9 : va_P D vwCl (wM cC cI cJ h0 h1 h2 h3 h4 h5 z1.2) _ := hP
    have hD9 : va_D A (wM cC cI cJ h0 h1 h2 h3 h4 h5 z1.2) := hD
    have hf := Option.some.inj hf
    have hf1 := congrArg Prod.fst hf
    have hf2 := congrArg Prod.snd hf
    exact W.lret (v := 0) hx hb hr (fun t ht hW => ⟨⟨0, z1.2, rfl, ⟨hf1, hf2⟩, by rw [ht]; exact hP9, va_K.moved hW.alike hK, hD9⟩, hS.F ht⟩) hS.2.2 dX6_play_10

set_option maxHeartbeats 4000000 in
set_option maxRecDepth 100000 in
theorem m_X6_playBack (l : Launch) (D : va_G) (cC cI cJ : ClassId) (h0 h1 h2 h3 h4 h5 : Nat) (u : StM) (sz : Nat) (a0 : Int32) (a1 : Int32) (res : Int64 × StM) (hf : f_X6_playBack u a0 a1 = some res) : Met l yX6_playBack wsX6_playBack rmX6_playBack (my_PcM D vwCl (KT cC cI cJ) sz (wM cC cI cJ h0 h1 h2 h3 h4 h5 u) [.ref h0, .int a0, .int a1]) (va_Ql (fun r v => r = res.1 ∧ v = res.2) (my_B D vwCl (KT cC cI cJ) (va_A (wM cC cI cJ h0 h1 h2 h3 h4 h5 u) sz) (fun v : StM => (wM cC cI cJ h0 h1 h2 h3 h4 h5 v))) (va_A (wM cC cI cJ h0 h1 h2 h3 h4 h5 u) sz)) 0 0 (va_A (wM cC cI cJ h0 h1 h2 h3 h4 h5 u) sz) := by
  refine Met.ofW (cc := cX6_playBack) (maxL := 3) (ret := (some .long)) (by decide) rfl ?_
  intro p e s m args below meth c s₁ B hml hv
  obtain ⟨rfl, hsz, hP, hK, hD0⟩ := hv
  have hx := B.exec
  have hb := B.bytes
  have hr := B.returns
  have hts : ∀ w ∈ wsX6_playBack, w.before ([.ref h0, .int a0, .int a1] : List Value).toArray s = true := atoms_spec (ws := wsX6_playBack) B.pre
  have hown : s.vm.findClass RX6 = some m.cls := findClass_of_methodNamed B.named
  have hlk : meth.locks = false := B.notSynchronized
  subst hsz
  have hD := hD0.self (sz := s.heap.size)
  generalize hAe : va_A (wM cC cI cJ h0 h1 h2 h3 h4 h5 u) s.heap.size = A at hD ⊢
  have hA : ∀ q : Nat, s.heap.size ≤ q → A q := fun q h => by rw [← hAe]; exact Or.inr h
  have hS : va_S A s.heap s.heap [] := va_S.rf
  have hP : va_P D vwCl [(h0, .inr (5, [.ref h1, .ref h2, .ref h3, .int u.2.2.2.1, .ref h4, .ref h5, .int u.2.2.2.2.2.2.1, .int u.2.2.2.2.2.2.2])), (h1, .inl (cJ, 8, .inr (.inl u.1))), (h2, .inl (cI, 8, .inl u.2.1)), (h3, .inl (cJ, 8, .inr (.inl u.2.2.1))), (h4, .inl (cC, 40, .inl u.2.2.2.2.1)), (h5, .inl (cI, 40, .inl u.2.2.2.2.2.1))] s.heap := hP
  have hD : va_D A [(h0, .inr (5, [.ref h1, .ref h2, .ref h3, .int u.2.2.2.1, .ref h4, .ref h5, .int u.2.2.2.2.2.2.1, .int u.2.2.2.2.2.2.2])), (h1, .inl (cJ, 8, .inr (.inl u.1))), (h2, .inl (cI, 8, .inl u.2.1)), (h3, .inl (cJ, 8, .inr (.inl u.2.2.1))), (h4, .inl (cC, 40, .inl u.2.2.2.2.1)), (h5, .inl (cI, 40, .inl u.2.2.2.2.2.1))] := hD
  have q1 := hts (.fieldLink RX6 9 "DoublelineModel" "codes" "[J") (by decide +kernel)
  have q2 : ∀ w ∈ u_ws RX6 TX6 8, w ∈ wsX6_playBack := by decide +kernel
  have hl := lv_entry ([.ref h0, .int a0, .int a1]) (n := 3) (Nat.le_of_ble_eq_true rfl)
  rw [lg_entry_eq]
  generalize (lg_sl ([.ref h0, .int a0, .int a1]) ++ List.replicate (3 - (lg_sl ([.ref h0, .int a0, .int a1])).length) Slot.unset).toArray = ls at hl ⊢
  have hl : lv_has ls 3 [(0, .ref h0), (1, .int a0), (2, .int a1)] := hl
  unfold f_X6_playBack at hf
  refine lv_aload_n hx hb dX6_playBack_0 rfl (lv_at hl 0 rfl) ?_
  refine lv_iload_n hx hb dX6_playBack_1 rfl (lv_at hl 1 rfl) ?_
  refine lv_iload_n hx hb dX6_playBack_2 rfl (lv_at hl 2 rfl) ?_
  obtain ⟨z1, ez1, hf⟩ := ob_e hf
  refine my_callMi (As := [.int a0, .int a1]) (n := 2) (rest := []) (wr := []) ⟨hx, hb, hml, hown, hts⟩ hK hP hD hS hA [0, 1, 2, 3, 4, 5] [] rfl rfl (by decide) (by decide) (by decide) (m_X6_lacks_ l D cC cI cJ h0 h1 h2 h3 h4 h5 u s.heap.size a0 a1 _ ez1) gX6_playBack_X6_lacks_ rfl ⟨rfl, rfl⟩ (ci := 5) rfl rfl (by decide +kernel) ⟨Nat.le_of_ble_eq_true rfl, Nat.le_of_ble_eq_true rfl⟩ ⟨Nat.le_of_ble_eq_true rfl, Nat.le_of_ble_eq_true rfl⟩ hl.1 rfl rfl (Nat.le_of_ble_eq_true rfl) dX6_playBack_3 (fun r9 u9 H locs hw hP hD hS => ?_)
  obtain ⟨rfl, rfl⟩ := hw
  have hP : va_P D vwCl [(h0, .inr (5, [.ref h1, .ref h2, .ref h3, .int z1.2.2.2.2.1, .ref h4, .ref h5, .int z1.2.2.2.2.2.2.2.1, .int z1.2.2.2.2.2.2.2.2])), (h1, .inl (cJ, 8, .inr (.inl z1.2.1))), (h2, .inl (cI, 8, .inl z1.2.2.1)), (h3, .inl (cJ, 8, .inr (.inl z1.2.2.2.1))), (h4, .inl (cC, 40, .inl z1.2.2.2.2.2.1)), (h5, .inl (cI, 40, .inl z1.2.2.2.2.2.2.1))] H := hP.sub [0, 1, 2, 3, 4, 5] rfl
  have hD : va_D A [(h0, .inr (5, [.ref h1, .ref h2, .ref h3, .int z1.2.2.2.2.1, .ref h4, .ref h5, .int z1.2.2.2.2.2.2.2.1, .int z1.2.2.2.2.2.2.2.2])), (h1, .inl (cJ, 8, .inr (.inl z1.2.1))), (h2, .inl (cI, 8, .inl z1.2.2.1)), (h3, .inl (cJ, 8, .inr (.inl z1.2.2.2.1))), (h4, .inl (cC, 40, .inl z1.2.2.2.2.2.1)), (h5, .inl (cI, 40, .inl z1.2.2.2.2.2.2.1))] := hD.sub [0, 1, 2, 3, 4, 5] (by decide) rfl
  refine my_bz_eq (x := z1.1) (tgt := 11) hx hb dX6_playBack_6 (by decide) (fun c2 => ?_) (fun c2 => ?_)
  · rw [if_pos c2] at hf
    refine lv_aload_n hx hb dX6_playBack_11 rfl (lv_at hl 0 rfl) ?_
    refine lv_iload_n hx hb dX6_playBack_12 rfl (lv_at hl 2 rfl) ?_
    refine lv_aload_n hx hb dX6_playBack_13 rfl (lv_at hl 0 rfl) ?_
    refine lv_aload_n hx hb dX6_playBack_14 rfl (lv_at hl 0 rfl) ?_
    refine va_get (D := D) (ci := 5) (v := .ref h1) (C := RX6) (T := TX6) (N := 8) hx hb hts q2 hown hK hP 0 rfl rfl 0 (by decide) q1 (fun _ h9 => h9) rfl dX6_playBack_15 ?_
    refine lv_iload_n hx hb dX6_playBack_18 rfl (lv_at hl 1 rfl) ?_
    obtain ⟨g3, hf⟩ := og_e hf
    refine va_lald hx hb hK hP 1 2 rfl rfl g3 dX6_playBack_19 ?_
    obtain ⟨r4, er4, hf⟩ := ob_e hf
    refine my_callRl (As := [.long (z1.2.1 a0.toNatClampNeg)]) (n := 1) (rest := [.int a1, .ref h0]) ⟨hx, hb, hml, hown, hts⟩ hK (hP.sub (ws' := (wM cC cI cJ h0 h1 h2 h3 h4 h5 z1.2)) [0, 1, 2, 3, 4, 5] rfl) (m_X6_playedBack l D cC cI cJ h0 h1 h2 h3 h4 h5 z1.2 (z1.2.1 a0.toNatClampNeg) _ er4) gX6_playBack_X6_playedBack rfl ⟨rfl, rfl⟩ (ci := 5) rfl rfl (by decide +kernel) ⟨Nat.le_of_ble_eq_true rfl, Nat.le_of_ble_eq_true rfl⟩ ⟨Nat.le_of_ble_eq_true rfl, Nat.le_of_ble_eq_true rfl⟩ hl.1 rfl rfl (Nat.le_of_ble_eq_true rfl) dX6_playBack_20 ?_
    obtain ⟨z5, ez5, hf⟩ := ob_e hf
    refine my_callMl (As := [.int a1, .long r4]) (n := 2) (rest := []) (wr := []) ⟨hx, hb, hml, hown, hts⟩ hK hP hD hS hA [0, 1, 2, 3, 4, 5] [] rfl rfl (by decide) (by decide) (by decide) (m_X6_becomes l D cC cI cJ h0 h1 h2 h3 h4 h5 z1.2 H.size a1 r4 _ ez5) gX6_playBack_X6_becomes rfl ⟨rfl, rfl⟩ (ci := 5) rfl rfl (by decide +kernel) ⟨Nat.le_of_ble_eq_true rfl, Nat.le_of_ble_eq_true rfl⟩ ⟨Nat.le_of_ble_eq_true rfl, Nat.le_of_ble_eq_true rfl⟩ hl.1 rfl rfl (Nat.le_of_ble_eq_true rfl) dX6_playBack_23 (fun r9 u9 H locs hw hP hD hS => ?_)
    obtain ⟨rfl, rfl⟩ := hw
    have hP : va_P D vwCl [(h0, .inr (5, [.ref h1, .ref h2, .ref h3, .int z5.2.2.2.2.1, .ref h4, .ref h5, .int z5.2.2.2.2.2.2.2.1, .int z5.2.2.2.2.2.2.2.2])), (h1, .inl (cJ, 8, .inr (.inl z5.2.1))), (h2, .inl (cI, 8, .inl z5.2.2.1)), (h3, .inl (cJ, 8, .inr (.inl z5.2.2.2.1))), (h4, .inl (cC, 40, .inl z5.2.2.2.2.2.1)), (h5, .inl (cI, 40, .inl z5.2.2.2.2.2.2.1))] H := hP.sub [0, 1, 2, 3, 4, 5] rfl
    have hD : va_D A [(h0, .inr (5, [.ref h1, .ref h2, .ref h3, .int z5.2.2.2.2.1, .ref h4, .ref h5, .int z5.2.2.2.2.2.2.2.1, .int z5.2.2.2.2.2.2.2.2])), (h1, .inl (cJ, 8, .inr (.inl z5.2.1))), (h2, .inl (cI, 8, .inl z5.2.2.1)), (h3, .inl (cJ, 8, .inr (.inl z5.2.2.2.1))), (h4, .inl (cC, 40, .inl z5.2.2.2.2.2.1)), (h5, .inl (cI, 40, .inl z5.2.2.2.2.2.2.1))] := hD.sub [0, 1, 2, 3, 4, 5] (by decide) rfl
    have hP9 : va_P D vwCl (wM cC cI cJ h0 h1 h2 h3 h4 h5 z5.2) _ := hP
    have hD9 : va_D A (wM cC cI cJ h0 h1 h2 h3 h4 h5 z5.2) := hD
    have hf := Option.some.inj hf
    have hf1 := congrArg Prod.fst hf
    have hf2 := congrArg Prod.snd hf
    exact W.lret (v := z5.1) hx hb hr (fun t ht hW => ⟨⟨z5.1, z5.2, rfl, ⟨hf1, hf2⟩, by rw [ht]; exact hP9, va_K.moved hW.alike hK, hD9⟩, hS.F ht⟩) hS.2.2 dX6_playBack_26
  · rw [if_neg c2] at hf
    refine lv_lconst (v := 0) hx hb dX6_playBack_9 (by decide) ?_
    have hP9 : va_P D vwCl (wM cC cI cJ h0 h1 h2 h3 h4 h5 z1.2) _ := hP
    have hD9 : va_D A (wM cC cI cJ h0 h1 h2 h3 h4 h5 z1.2) := hD
    have hf := Option.some.inj hf
    have hf1 := congrArg Prod.fst hf
    have hf2 := congrArg Prod.snd hf
    exact W.lret (v := 0) hx hb hr (fun t ht hW => ⟨⟨0, z1.2, rfl, ⟨hf1, hf2⟩, by rw [ht]; exact hP9, va_K.moved hW.alike hK, hD9⟩, hS.F ht⟩) hS.2.2 dX6_playBack_10

set_option maxHeartbeats 4000000 in
set_option maxRecDepth 100000 in
theorem m_X6_isHome (l : Launch) (D : va_G) (cC cI cJ : ClassId) (h0 h1 h2 h3 h4 h5 : Nat) (u : StM) (sz : Nat) (a0 : Int32) (res : Bool × StM) (hf : f_X6_isHome u a0 = some res) : Met l yX6_isHome wsX6_isHome rmX6_isHome (my_PcM D vwCl (KT cC cI cJ) sz (wM cC cI cJ h0 h1 h2 h3 h4 h5 u) [.ref h0, .int a0]) (va_Qi (fun r v => r = b2i res.1 ∧ v = res.2) (my_B D vwCl (KT cC cI cJ) (va_A (wM cC cI cJ h0 h1 h2 h3 h4 h5 u) sz) (fun v : StM => (wM cC cI cJ h0 h1 h2 h3 h4 h5 v))) (va_A (wM cC cI cJ h0 h1 h2 h3 h4 h5 u) sz)) 0 0 (va_A (wM cC cI cJ h0 h1 h2 h3 h4 h5 u) sz) := by
  refine Met.ofW (cc := cX6_isHome) (maxL := 2) (ret := (some .boolean)) (by decide) rfl ?_
  intro p e s m args below meth c s₁ B hml hv
  obtain ⟨rfl, hsz, hP, hK, hD0⟩ := hv
  have hx := B.exec
  have hb := B.bytes
  have hr := B.returns
  have hts : ∀ w ∈ wsX6_isHome, w.before ([.ref h0, .int a0] : List Value).toArray s = true := atoms_spec (ws := wsX6_isHome) B.pre
  have hown : s.vm.findClass RX6 = some m.cls := findClass_of_methodNamed B.named
  have hlk : meth.locks = false := B.notSynchronized
  subst hsz
  have hD := hD0.self (sz := s.heap.size)
  generalize hAe : va_A (wM cC cI cJ h0 h1 h2 h3 h4 h5 u) s.heap.size = A at hD ⊢
  have hA : ∀ q : Nat, s.heap.size ≤ q → A q := fun q h => by rw [← hAe]; exact Or.inr h
  have hS : va_S A s.heap s.heap [] := va_S.rf
  have hP : va_P D vwCl [(h0, .inr (5, [.ref h1, .ref h2, .ref h3, .int u.2.2.2.1, .ref h4, .ref h5, .int u.2.2.2.2.2.2.1, .int u.2.2.2.2.2.2.2])), (h1, .inl (cJ, 8, .inr (.inl u.1))), (h2, .inl (cI, 8, .inl u.2.1)), (h3, .inl (cJ, 8, .inr (.inl u.2.2.1))), (h4, .inl (cC, 40, .inl u.2.2.2.2.1)), (h5, .inl (cI, 40, .inl u.2.2.2.2.2.1))] s.heap := hP
  have hD : va_D A [(h0, .inr (5, [.ref h1, .ref h2, .ref h3, .int u.2.2.2.1, .ref h4, .ref h5, .int u.2.2.2.2.2.2.1, .int u.2.2.2.2.2.2.2])), (h1, .inl (cJ, 8, .inr (.inl u.1))), (h2, .inl (cI, 8, .inl u.2.1)), (h3, .inl (cJ, 8, .inr (.inl u.2.2.1))), (h4, .inl (cC, 40, .inl u.2.2.2.2.1)), (h5, .inl (cI, 40, .inl u.2.2.2.2.2.1))] := hD
  have q1 := hts (.fieldLink RX6 9 "DoublelineModel" "codes" "[J") (by decide +kernel)
  have q2 : ∀ w ∈ u_ws RX6 TX6 8, w ∈ wsX6_isHome := by decide +kernel
  have hl := lv_entry ([.ref h0, .int a0]) (n := 2) (Nat.le_of_ble_eq_true rfl)
  rw [lg_entry_eq]
  generalize (lg_sl ([.ref h0, .int a0]) ++ List.replicate (2 - (lg_sl ([.ref h0, .int a0])).length) Slot.unset).toArray = ls at hl ⊢
  have hl : lv_has ls 2 [(0, .ref h0), (1, .int a0)] := hl
  unfold f_X6_isHome at hf
  refine lv_aload_n hx hb dX6_isHome_0 rfl (lv_at hl 0 rfl) ?_
  refine lv_iload_n hx hb dX6_isHome_1 rfl (lv_at hl 1 rfl) ?_
  obtain ⟨z1, ez1, hf⟩ := ob_e hf
  refine my_callMi (As := [.int a0]) (n := 1) (rest := []) (wr := []) ⟨hx, hb, hml, hown, hts⟩ hK hP hD hS hA [0, 1, 2, 3, 4, 5] [] rfl rfl (by decide) (by decide) (by decide) (m_X6_lacks l D cC cI cJ h0 h1 h2 h3 h4 h5 u s.heap.size a0 _ ez1) gX6_isHome_X6_lacks rfl ⟨rfl, rfl⟩ (ci := 5) rfl rfl (by decide +kernel) ⟨Nat.le_of_ble_eq_true rfl, Nat.le_of_ble_eq_true rfl⟩ ⟨Nat.le_of_ble_eq_true rfl, Nat.le_of_ble_eq_true rfl⟩ hl.1 rfl rfl (Nat.le_of_ble_eq_true rfl) dX6_isHome_2 (fun r9 u9 H locs hw hP hD hS => ?_)
  obtain ⟨rfl, rfl⟩ := hw
  have hP : va_P D vwCl [(h0, .inr (5, [.ref h1, .ref h2, .ref h3, .int z1.2.2.2.2.1, .ref h4, .ref h5, .int z1.2.2.2.2.2.2.2.1, .int z1.2.2.2.2.2.2.2.2])), (h1, .inl (cJ, 8, .inr (.inl z1.2.1))), (h2, .inl (cI, 8, .inl z1.2.2.1)), (h3, .inl (cJ, 8, .inr (.inl z1.2.2.2.1))), (h4, .inl (cC, 40, .inl z1.2.2.2.2.2.1)), (h5, .inl (cI, 40, .inl z1.2.2.2.2.2.2.1))] H := hP.sub [0, 1, 2, 3, 4, 5] rfl
  have hD : va_D A [(h0, .inr (5, [.ref h1, .ref h2, .ref h3, .int z1.2.2.2.2.1, .ref h4, .ref h5, .int z1.2.2.2.2.2.2.2.1, .int z1.2.2.2.2.2.2.2.2])), (h1, .inl (cJ, 8, .inr (.inl z1.2.1))), (h2, .inl (cI, 8, .inl z1.2.2.1)), (h3, .inl (cJ, 8, .inr (.inl z1.2.2.2.1))), (h4, .inl (cC, 40, .inl z1.2.2.2.2.2.1)), (h5, .inl (cI, 40, .inl z1.2.2.2.2.2.2.1))] := hD.sub [0, 1, 2, 3, 4, 5] (by decide) rfl
  refine my_bz_eq (x := z1.1) (tgt := 10) hx hb dX6_isHome_5 (by decide) (fun c2 => ?_) (fun c2 => ?_)
  · rw [if_pos c2] at hf
    refine lv_aload_n hx hb dX6_isHome_10 rfl (lv_at hl 0 rfl) ?_
    refine lv_aload_n hx hb dX6_isHome_11 rfl (lv_at hl 0 rfl) ?_
    refine lv_aload_n hx hb dX6_isHome_12 rfl (lv_at hl 0 rfl) ?_
    refine va_get (D := D) (ci := 5) (v := .ref h1) (C := RX6) (T := TX6) (N := 8) hx hb hts q2 hown hK hP 0 rfl rfl 0 (by decide) q1 (fun _ h9 => h9) rfl dX6_isHome_13 ?_
    refine lv_iload_n hx hb dX6_isHome_16 rfl (lv_at hl 1 rfl) ?_
    obtain ⟨g3, hf⟩ := og_e hf
    refine va_lald hx hb hK hP 1 2 rfl rfl g3 dX6_isHome_17 ?_
    obtain ⟨r4, er4, hf⟩ := ob_e hf
    refine my_callRl (As := [.long (z1.2.1 a0.toNatClampNeg)]) (n := 1) (rest := [.ref h0]) ⟨hx, hb, hml, hown, hts⟩ hK (hP.sub (ws' := (wM cC cI cJ h0 h1 h2 h3 h4 h5 z1.2)) [0, 1, 2, 3, 4, 5] rfl) (m_X6_played l D cC cI cJ h0 h1 h2 h3 h4 h5 z1.2 (z1.2.1 a0.toNatClampNeg) _ er4) gX6_isHome_X6_played rfl ⟨rfl, rfl⟩ (ci := 5) rfl rfl (by decide +kernel) ⟨Nat.le_of_ble_eq_true rfl, Nat.le_of_ble_eq_true rfl⟩ ⟨Nat.le_of_ble_eq_true rfl, Nat.le_of_ble_eq_true rfl⟩ hl.1 rfl rfl (Nat.le_of_ble_eq_true rfl) dX6_isHome_18 ?_
    obtain ⟨r5, er5, hf⟩ := ob_e hf
    refine my_callRl (As := [.long r4]) (n := 1) (rest := []) ⟨hx, hb, hml, hown, hts⟩ hK (hP.sub (ws' := (wM cC cI cJ h0 h1 h2 h3 h4 h5 z1.2)) [0, 1, 2, 3, 4, 5] rfl) (m_X6_playedBack l D cC cI cJ h0 h1 h2 h3 h4 h5 z1.2 r4 _ er5) gX6_isHome_X6_playedBack rfl ⟨rfl, rfl⟩ (ci := 5) rfl rfl (by decide +kernel) ⟨Nat.le_of_ble_eq_true rfl, Nat.le_of_ble_eq_true rfl⟩ ⟨Nat.le_of_ble_eq_true rfl, Nat.le_of_ble_eq_true rfl⟩ hl.1 rfl rfl (Nat.le_of_ble_eq_true rfl) dX6_isHome_21 ?_
    refine lv_aload_n hx hb dX6_isHome_24 rfl (lv_at hl 0 rfl) ?_
    refine va_get (D := D) (ci := 5) (v := .ref h1) (C := RX6) (T := TX6) (N := 8) hx hb hts q2 hown hK hP 0 rfl rfl 0 (by decide) q1 (fun _ h9 => h9) rfl dX6_isHome_25 ?_
    refine lv_iload_n hx hb dX6_isHome_28 rfl (lv_at hl 1 rfl) ?_
    obtain ⟨g6, hf⟩ := og_e hf
    refine va_lald hx hb hK hP 1 2 rfl rfl g6 dX6_isHome_29 ?_
    refine my_lc_ne (tgt := 38) hx hb dX6_isHome_30 dX6_isHome_31 (by decide) (fun c7 => ?_) (fun c7 => ?_)
    · rw [if_neg c7] at hf
      refine lv_iconst (v := 0) hx hb dX6_isHome_38 (by decide) ?_
      have hP9 : va_P D vwCl (wM cC cI cJ h0 h1 h2 h3 h4 h5 z1.2) _ := hP
      have hD9 : va_D A (wM cC cI cJ h0 h1 h2 h3 h4 h5 z1.2) := hD
      have hf := Option.some.inj hf
      have hf1 := congrArg (fun z => b2i z.1) hf
      have hf2 := congrArg Prod.snd hf
      exact W.zret (v := b2i false) (ty := .boolean) hx hb hr (b2i_nar _) (fun t ht hW => ⟨⟨b2i false, z1.2, rfl, ⟨hf1, hf2⟩, by rw [ht]; exact hP9, va_K.moved hW.alike hK, hD9⟩, hS.F ht⟩) hS.2.2 dX6_isHome_39
    · rw [if_pos c7] at hf
      refine lv_iconst (v := 1) hx hb dX6_isHome_34 (by decide) ?_
      refine lv_goto (tgt := 39) hx hb dX6_isHome_35 (by decide) ?_
      have hP9 : va_P D vwCl (wM cC cI cJ h0 h1 h2 h3 h4 h5 z1.2) _ := hP
      have hD9 : va_D A (wM cC cI cJ h0 h1 h2 h3 h4 h5 z1.2) := hD
      have hf := Option.some.inj hf
      have hf1 := congrArg (fun z => b2i z.1) hf
      have hf2 := congrArg Prod.snd hf
      exact W.zret (v := b2i true) (ty := .boolean) hx hb hr (b2i_nar _) (fun t ht hW => ⟨⟨b2i true, z1.2, rfl, ⟨hf1, hf2⟩, by rw [ht]; exact hP9, va_K.moved hW.alike hK, hD9⟩, hS.F ht⟩) hS.2.2 dX6_isHome_39
  · rw [if_neg c2] at hf
    refine lv_iconst (v := 0) hx hb dX6_isHome_8 (by decide) ?_
    have hP9 : va_P D vwCl (wM cC cI cJ h0 h1 h2 h3 h4 h5 z1.2) _ := hP
    have hD9 : va_D A (wM cC cI cJ h0 h1 h2 h3 h4 h5 z1.2) := hD
    have hf := Option.some.inj hf
    have hf1 := congrArg (fun z => b2i z.1) hf
    have hf2 := congrArg Prod.snd hf
    exact W.zret (v := b2i false) (ty := .boolean) hx hb hr (b2i_nar _) (fun t ht hW => ⟨⟨b2i false, z1.2, rfl, ⟨hf1, hf2⟩, by rw [ht]; exact hP9, va_K.moved hW.alike hK, hD9⟩, hS.F ht⟩) hS.2.2 dX6_isHome_9

set_option maxHeartbeats 4000000 in
set_option maxRecDepth 100000 in
theorem m_X6_losses (l : Launch) (D : va_G) (cC cI cJ : ClassId) (h0 h1 h2 h3 h4 h5 : Nat) (u : StM) (sz : Nat) (a0 : Int32) (res : Int32 × StM) (hf : f_X6_losses u a0 = some res) : Met l yX6_losses wsX6_losses rmX6_losses (my_PcM D vwCl (KT cC cI cJ) sz (wM cC cI cJ h0 h1 h2 h3 h4 h5 u) [.ref h0, .int a0]) (va_Qi (fun r v => r = res.1 ∧ v = res.2) (my_B D vwCl (KT cC cI cJ) (va_A (wM cC cI cJ h0 h1 h2 h3 h4 h5 u) sz) (fun v : StM => (wM cC cI cJ h0 h1 h2 h3 h4 h5 v))) (va_A (wM cC cI cJ h0 h1 h2 h3 h4 h5 u) sz)) 0 0 (va_A (wM cC cI cJ h0 h1 h2 h3 h4 h5 u) sz) := by
  refine Met.ofW (cc := cX6_losses) (maxL := 8) (ret := (some .int)) (by decide) rfl ?_
  intro p e s m args below meth c s₁ B hml hv
  obtain ⟨rfl, hsz, hP, hK, hD0⟩ := hv
  have hx := B.exec
  have hb := B.bytes
  have hr := B.returns
  have hts : ∀ w ∈ wsX6_losses, w.before ([.ref h0, .int a0] : List Value).toArray s = true := atoms_spec (ws := wsX6_losses) B.pre
  have hown : s.vm.findClass RX6 = some m.cls := findClass_of_methodNamed B.named
  have hlk : meth.locks = false := B.notSynchronized
  subst hsz
  have hD := hD0.self (sz := s.heap.size)
  generalize hAe : va_A (wM cC cI cJ h0 h1 h2 h3 h4 h5 u) s.heap.size = A at hD ⊢
  have hA : ∀ q : Nat, s.heap.size ≤ q → A q := fun q h => by rw [← hAe]; exact Or.inr h
  have hS : va_S A s.heap s.heap [] := va_S.rf
  have hP : va_P D vwCl [(h0, .inr (5, [.ref h1, .ref h2, .ref h3, .int u.2.2.2.1, .ref h4, .ref h5, .int u.2.2.2.2.2.2.1, .int u.2.2.2.2.2.2.2])), (h1, .inl (cJ, 8, .inr (.inl u.1))), (h2, .inl (cI, 8, .inl u.2.1)), (h3, .inl (cJ, 8, .inr (.inl u.2.2.1))), (h4, .inl (cC, 40, .inl u.2.2.2.2.1)), (h5, .inl (cI, 40, .inl u.2.2.2.2.2.1))] s.heap := hP
  have hD : va_D A [(h0, .inr (5, [.ref h1, .ref h2, .ref h3, .int u.2.2.2.1, .ref h4, .ref h5, .int u.2.2.2.2.2.2.1, .int u.2.2.2.2.2.2.2])), (h1, .inl (cJ, 8, .inr (.inl u.1))), (h2, .inl (cI, 8, .inl u.2.1)), (h3, .inl (cJ, 8, .inr (.inl u.2.2.1))), (h4, .inl (cC, 40, .inl u.2.2.2.2.1)), (h5, .inl (cI, 40, .inl u.2.2.2.2.2.1))] := hD
  have q1 := hts (.fieldLink RX6 9 "DoublelineModel" "codes" "[J") (by decide +kernel)
  have q2 : ∀ w ∈ u_ws RX6 TX6 8, w ∈ wsX6_losses := by decide +kernel
  have q3 := hts (.fieldLink RX6 174 "DoublelineModel" "words" "I") (by decide +kernel)
  have hl := lv_entry ([.ref h0, .int a0]) (n := 8) (Nat.le_of_ble_eq_true rfl)
  rw [lg_entry_eq]
  generalize (lg_sl ([.ref h0, .int a0]) ++ List.replicate (8 - (lg_sl ([.ref h0, .int a0])).length) Slot.unset).toArray = ls at hl ⊢
  have hl : lv_has ls 8 [(0, .ref h0), (1, .int a0)] := hl
  unfold f_X6_losses at hf
  refine lv_aload_n hx hb dX6_losses_0 rfl (lv_at hl 0 rfl) ?_
  refine lv_iload_n hx hb dX6_losses_1 rfl (lv_at hl 1 rfl) ?_
  obtain ⟨z1, ez1, hf⟩ := ob_e hf
  refine my_callMi (As := [.int a0]) (n := 1) (rest := []) (wr := []) ⟨hx, hb, hml, hown, hts⟩ hK hP hD hS hA [0, 1, 2, 3, 4, 5] [] rfl rfl (by decide) (by decide) (by decide) (m_X6_lacks l D cC cI cJ h0 h1 h2 h3 h4 h5 u s.heap.size a0 _ ez1) gX6_losses_X6_lacks rfl ⟨rfl, rfl⟩ (ci := 5) rfl rfl (by decide +kernel) ⟨Nat.le_of_ble_eq_true rfl, Nat.le_of_ble_eq_true rfl⟩ ⟨Nat.le_of_ble_eq_true rfl, Nat.le_of_ble_eq_true rfl⟩ hl.1 rfl rfl (Nat.le_of_ble_eq_true rfl) dX6_losses_2 (fun r9 u9 H locs hw hP hD hS => ?_)
  obtain ⟨rfl, rfl⟩ := hw
  have hP : va_P D vwCl [(h0, .inr (5, [.ref h1, .ref h2, .ref h3, .int z1.2.2.2.2.1, .ref h4, .ref h5, .int z1.2.2.2.2.2.2.2.1, .int z1.2.2.2.2.2.2.2.2])), (h1, .inl (cJ, 8, .inr (.inl z1.2.1))), (h2, .inl (cI, 8, .inl z1.2.2.1)), (h3, .inl (cJ, 8, .inr (.inl z1.2.2.2.1))), (h4, .inl (cC, 40, .inl z1.2.2.2.2.2.1)), (h5, .inl (cI, 40, .inl z1.2.2.2.2.2.2.1))] H := hP.sub [0, 1, 2, 3, 4, 5] rfl
  have hD : va_D A [(h0, .inr (5, [.ref h1, .ref h2, .ref h3, .int z1.2.2.2.2.1, .ref h4, .ref h5, .int z1.2.2.2.2.2.2.2.1, .int z1.2.2.2.2.2.2.2.2])), (h1, .inl (cJ, 8, .inr (.inl z1.2.1))), (h2, .inl (cI, 8, .inl z1.2.2.1)), (h3, .inl (cJ, 8, .inr (.inl z1.2.2.2.1))), (h4, .inl (cC, 40, .inl z1.2.2.2.2.2.1)), (h5, .inl (cI, 40, .inl z1.2.2.2.2.2.2.1))] := hD.sub [0, 1, 2, 3, 4, 5] (by decide) rfl
  refine my_bz_eq (x := z1.1) (tgt := 10) hx hb dX6_losses_5 (by decide) (fun c2 => ?_) (fun c2 => ?_)
  · rw [if_pos c2] at hf
    refine lv_aload_n hx hb dX6_losses_10 rfl (lv_at hl 0 rfl) ?_
    refine va_get (D := D) (ci := 5) (v := .ref h1) (C := RX6) (T := TX6) (N := 8) hx hb hts q2 hown hK hP 0 rfl rfl 0 (by decide) q1 (fun _ h9 => h9) rfl dX6_losses_11 ?_
    refine lv_iload_n hx hb dX6_losses_14 rfl (lv_at hl 1 rfl) ?_
    obtain ⟨g3, hf⟩ := og_e hf
    refine va_lald hx hb hK hP 1 2 rfl rfl g3 dX6_losses_15 ?_
    refine lv_lstore_n (lv' := [(2, .long (z1.2.1 a0.toNatClampNeg)), (0, .ref h0), (1, .int a0)]) hx hb dX6_losses_16 rfl hl (by decide) rfl (fun ls hl => ?_)
    refine lv_iconst (v := 0) hx hb dX6_losses_17 (by decide) ?_
    refine lv_istore (lv' := [(4, .int 0), (2, .long (z1.2.1 a0.toNatClampNeg)), (0, .ref h0), (1, .int a0)]) hx hb dX6_losses_18 hl (by decide) rfl (fun ls hl => ?_)
    refine lv_iconst (v := 0) hx hb dX6_losses_20 (by decide) ?_
    refine lv_istore (lv' := [(5, .int 0), (4, .int 0), (2, .long (z1.2.1 a0.toNatClampNeg)), (0, .ref h0), (1, .int a0)]) hx hb dX6_losses_21 hl (by decide) rfl (fun ls hl => ?_)
    have loop23 : ∀ (n23 : Nat) (v23_5 : Int32) (v23_4 : Int32) (v23_2 : Int64) (s23 : StM) (H : Heap) (locs : List Loc) (hP : va_P D vwCl [(h0, .inr (5, [.ref h1, .ref h2, .ref h3, .int s23.2.2.2.1, .ref h4, .ref h5, .int s23.2.2.2.2.2.2.1, .int s23.2.2.2.2.2.2.2])), (h1, .inl (cJ, 8, .inr (.inl s23.1))), (h2, .inl (cI, 8, .inl s23.2.1)), (h3, .inl (cJ, 8, .inr (.inl s23.2.2.1))), (h4, .inl (cC, 40, .inl s23.2.2.2.2.1)), (h5, .inl (cI, 40, .inl s23.2.2.2.2.2.1))] H) (hD : va_D A [(h0, .inr (5, [.ref h1, .ref h2, .ref h3, .int s23.2.2.2.1, .ref h4, .ref h5, .int s23.2.2.2.2.2.2.1, .int s23.2.2.2.2.2.2.2])), (h1, .inl (cJ, 8, .inr (.inl s23.1))), (h2, .inl (cI, 8, .inl s23.2.1)), (h3, .inl (cJ, 8, .inr (.inl s23.2.2.1))), (h4, .inl (cC, 40, .inl s23.2.2.2.2.1)), (h5, .inl (cI, 40, .inl s23.2.2.2.2.2.1))]) (hS : va_S A s.heap H locs) (ls : Array Slot), lv_has ls 8 [(5, .int v23_5), (4, .int v23_4), (2, .long v23_2), (0, .ref h0)] → f_X6_losses_L23 u a0 n23 v23_5 v23_4 v23_2 s23 = some res → W p l e (rmX6_losses) s m ([.ref h0, .int a0] : List Value).toArray below meth c H locs 0 0 (MQ below (va_Qi (fun r v => r = res.1 ∧ v = res.2) (my_B D vwCl (KT cC cI cJ) A (fun v : StM => (wM cC cI cJ h0 h1 h2 h3 h4 h5 v))) A) ([.ref h0, .int a0] : List Value).toArray s 0 0 A) (F0 m 23 ls []) := by
      intro n23
      induction n23 with
      | zero => intro v23_5 v23_4 v23_2 s23 H locs hP hD hS ls hl hf; rw [f_X6_losses_L23] at hf; cases hf
      | succ n23 ih23 =>
        intro v23_5 v23_4 v23_2 s23 H locs hP hD hS ls hl hf
        rw [f_X6_losses_L23] at hf
        refine lv_iload hx hb dX6_losses_23 (lv_at hl 0 rfl) ?_
        refine lv_aload_n hx hb dX6_losses_25 rfl (lv_at hl 3 rfl) ?_
        refine va_get (D := D) (ci := 5) (v := .int s23.2.2.2.2.2.2.1) (C := RX6) (T := TX6) (N := 8) hx hb hts q2 hown hK hP 0 rfl rfl 6 (by decide) q3 (fun _ h9 => h9) rfl dX6_losses_26 ?_
        refine my_ic_ge (tgt := 68) hx hb dX6_losses_29 (by decide) (fun c4 => ?_) (fun c4 => ?_)
        · rw [if_neg c4] at hf
          refine lv_iload hx hb dX6_losses_68 (lv_at hl 1 rfl) ?_
          have hP9 : va_P D vwCl (wM cC cI cJ h0 h1 h2 h3 h4 h5 s23) _ := hP
          have hD9 : va_D A (wM cC cI cJ h0 h1 h2 h3 h4 h5 s23) := hD
          have hf := Option.some.inj hf
          have hf1 := congrArg Prod.fst hf
          have hf2 := congrArg Prod.snd hf
          exact W.iret (v := v23_4) hx hb hr (fun t ht hW => ⟨⟨v23_4, s23, rfl, ⟨hf1, hf2⟩, by rw [ht]; exact hP9, va_K.moved hW.alike hK, hD9⟩, hS.F ht⟩) hS.2.2 dX6_losses_70
        · rw [if_pos c4] at hf
          refine lv_aload_n hx hb dX6_losses_32 rfl (lv_at hl 3 rfl) ?_
          refine lv_iload hx hb dX6_losses_33 (lv_at hl 0 rfl) ?_
          refine lv_lload_n hx hb dX6_losses_35 rfl (lv_at hl 2 rfl) ?_
          refine lv_iconst (v := 0) hx hb dX6_losses_36 (by decide) ?_
          obtain ⟨r5, er5, hf⟩ := ob_e hf
          refine my_callRl (As := [.int v23_5, .long v23_2, .int (b2i false)]) (n := 3) (rest := []) ⟨hx, hb, hml, hown, hts⟩ hK (hP.sub (ws' := (wM cC cI cJ h0 h1 h2 h3 h4 h5 s23)) [0, 1, 2, 3, 4, 5] rfl) (m_X6_done l D cC cI cJ h0 h1 h2 h3 h4 h5 s23 v23_5 v23_2 false _ er5) gX6_losses_X6_done rfl ⟨rfl, rfl⟩ (ci := 5) rfl rfl (by decide +kernel) ⟨Nat.le_of_ble_eq_true rfl, Nat.le_of_ble_eq_true rfl⟩ ⟨Nat.le_of_ble_eq_true rfl, Nat.le_of_ble_eq_true rfl⟩ hl.1 rfl rfl (Nat.le_of_ble_eq_true rfl) dX6_losses_37 ?_
          refine lv_lstore (lv' := [(6, .long r5), (5, .int v23_5), (4, .int v23_4), (2, .long v23_2), (0, .ref h0)]) hx hb dX6_losses_40 hl (by decide) rfl (fun ls hl => ?_)
          refine lv_aload_n hx hb dX6_losses_42 rfl (lv_at hl 4 rfl) ?_
          refine lv_iload hx hb dX6_losses_43 (lv_at hl 1 rfl) ?_
          refine lv_lload hx hb dX6_losses_45 (lv_at hl 0 rfl) ?_
          refine lv_iconst (v := 1) hx hb dX6_losses_47 (by decide) ?_
          obtain ⟨r6, er6, hf⟩ := ob_e hf
          refine my_callRl (As := [.int v23_5, .long r5, .int (b2i true)]) (n := 3) (rest := []) ⟨hx, hb, hml, hown, hts⟩ hK (hP.sub (ws' := (wM cC cI cJ h0 h1 h2 h3 h4 h5 s23)) [0, 1, 2, 3, 4, 5] rfl) (m_X6_done l D cC cI cJ h0 h1 h2 h3 h4 h5 s23 v23_5 r5 true _ er6) gX6_losses_X6_done rfl ⟨rfl, rfl⟩ (ci := 5) rfl rfl (by decide +kernel) ⟨Nat.le_of_ble_eq_true rfl, Nat.le_of_ble_eq_true rfl⟩ ⟨Nat.le_of_ble_eq_true rfl, Nat.le_of_ble_eq_true rfl⟩ hl.1 rfl rfl (Nat.le_of_ble_eq_true rfl) dX6_losses_48 ?_
          refine lv_lload_n hx hb dX6_losses_51 rfl (lv_at hl 3 rfl) ?_
          refine my_lc_eq (tgt := 59) hx hb dX6_losses_52 dX6_losses_53 (by decide) (fun c7 => ?_) (fun c7 => ?_)
          · rw [if_pos c7] at hf
            refine lv_lload hx hb dX6_losses_59 (lv_at hl 0 rfl) ?_
            refine lv_lstore_n (lv' := [(2, .long r5), (6, .long r5), (5, .int v23_5), (4, .int v23_4), (0, .ref h0)]) hx hb dX6_losses_61 rfl hl (by decide) rfl (fun ls hl => ?_)
            refine lv_iinc (v := (v23_5 + 1)) (lv' := [(5, .int (v23_5 + 1)), (2, .long r5), (6, .long r5), (4, .int v23_4), (0, .ref h0)]) hx hb dX6_losses_62 hl (k := 2) rfl rfl (by decide) rfl (fun ls hl => ?_)
            refine lv_goto (tgt := 23) hx hb dX6_losses_65 (by decide) ?_
            exact ih23 (v23_5 + 1) v23_4 r5 s23 _ _ hP hD hS _ (lv_sub hl [0, 3, 1, 4] rfl) hf
          · rw [if_neg c7] at hf
            refine lv_iinc (v := (v23_4 + 1)) (lv' := [(4, .int (v23_4 + 1)), (6, .long r5), (5, .int v23_5), (2, .long v23_2), (0, .ref h0)]) hx hb dX6_losses_56 hl (k := 2) rfl rfl (by decide) rfl (fun ls hl => ?_)
            refine lv_lload hx hb dX6_losses_59 (lv_at hl 1 rfl) ?_
            refine lv_lstore_n (lv' := [(2, .long r5), (4, .int (v23_4 + 1)), (6, .long r5), (5, .int v23_5), (0, .ref h0)]) hx hb dX6_losses_61 rfl hl (by decide) rfl (fun ls hl => ?_)
            refine lv_iinc (v := (v23_5 + 1)) (lv' := [(5, .int (v23_5 + 1)), (2, .long r5), (4, .int (v23_4 + 1)), (6, .long r5), (0, .ref h0)]) hx hb dX6_losses_62 hl (k := 3) rfl rfl (by decide) rfl (fun ls hl => ?_)
            refine lv_goto (tgt := 23) hx hb dX6_losses_65 (by decide) ?_
            exact ih23 (v23_5 + 1) (v23_4 + 1) r5 s23 _ _ hP hD hS _ (lv_sub hl [0, 2, 1, 4] rfl) hf
    exact loop23 100 0 0 (z1.2.1 a0.toNatClampNeg) z1.2 _ _ hP hD hS _ (lv_sub hl [0, 1, 2, 3] rfl) hf
  · rw [if_neg c2] at hf
    refine lv_iconst (v := 0) hx hb dX6_losses_8 (by decide) ?_
    have hP9 : va_P D vwCl (wM cC cI cJ h0 h1 h2 h3 h4 h5 z1.2) _ := hP
    have hD9 : va_D A (wM cC cI cJ h0 h1 h2 h3 h4 h5 z1.2) := hD
    have hf := Option.some.inj hf
    have hf1 := congrArg Prod.fst hf
    have hf2 := congrArg Prod.snd hf
    exact W.iret (v := 0) hx hb hr (fun t ht hW => ⟨⟨0, z1.2, rfl, ⟨hf1, hf2⟩, by rw [ht]; exact hP9, va_K.moved hW.alike hK, hD9⟩, hS.F ht⟩) hS.2.2 dX6_losses_9

set_option maxHeartbeats 4000000 in
set_option maxRecDepth 100000 in
theorem m_X6_share (l : Launch) (D : va_G) (cC cI cJ : ClassId) (h0 h1 h2 h3 h4 h5 : Nat) (u : StM) (sz : Nat)  (res : UInt32 × StM) (hf : f_X6_share u = some res) : Met l yX6_share wsX6_share rmX6_share (my_PcM D vwCl (KT cC cI cJ) sz (wM cC cI cJ h0 h1 h2 h3 h4 h5 u) [.ref h0]) (va_Qf (fun r v => r = res.1 ∧ v = res.2) (my_B D vwCl (KT cC cI cJ) (va_A (wM cC cI cJ h0 h1 h2 h3 h4 h5 u) sz) (fun v : StM => (wM cC cI cJ h0 h1 h2 h3 h4 h5 v))) (va_A (wM cC cI cJ h0 h1 h2 h3 h4 h5 u) sz)) 0 0 (va_A (wM cC cI cJ h0 h1 h2 h3 h4 h5 u) sz) := by
  refine Met.ofW (cc := cX6_share) (maxL := 3) (ret := (some .float)) (by decide) rfl ?_
  intro p e s m args below meth c s₁ B hml hv
  obtain ⟨rfl, hsz, hP, hK, hD0⟩ := hv
  have hx := B.exec
  have hb := B.bytes
  have hr := B.returns
  have hts : ∀ w ∈ wsX6_share, w.before ([.ref h0] : List Value).toArray s = true := atoms_spec (ws := wsX6_share) B.pre
  have hown : s.vm.findClass RX6 = some m.cls := findClass_of_methodNamed B.named
  have hlk : meth.locks = false := B.notSynchronized
  subst hsz
  have hD := hD0.self (sz := s.heap.size)
  generalize hAe : va_A (wM cC cI cJ h0 h1 h2 h3 h4 h5 u) s.heap.size = A at hD ⊢
  have hA : ∀ q : Nat, s.heap.size ≤ q → A q := fun q h => by rw [← hAe]; exact Or.inr h
  have hS : va_S A s.heap s.heap [] := va_S.rf
  have hP : va_P D vwCl [(h0, .inr (5, [.ref h1, .ref h2, .ref h3, .int u.2.2.2.1, .ref h4, .ref h5, .int u.2.2.2.2.2.2.1, .int u.2.2.2.2.2.2.2])), (h1, .inl (cJ, 8, .inr (.inl u.1))), (h2, .inl (cI, 8, .inl u.2.1)), (h3, .inl (cJ, 8, .inr (.inl u.2.2.1))), (h4, .inl (cC, 40, .inl u.2.2.2.2.1)), (h5, .inl (cI, 40, .inl u.2.2.2.2.2.1))] s.heap := hP
  have hD : va_D A [(h0, .inr (5, [.ref h1, .ref h2, .ref h3, .int u.2.2.2.1, .ref h4, .ref h5, .int u.2.2.2.2.2.2.1, .int u.2.2.2.2.2.2.2])), (h1, .inl (cJ, 8, .inr (.inl u.1))), (h2, .inl (cI, 8, .inl u.2.1)), (h3, .inl (cJ, 8, .inr (.inl u.2.2.1))), (h4, .inl (cC, 40, .inl u.2.2.2.2.1)), (h5, .inl (cI, 40, .inl u.2.2.2.2.2.1))] := hD
  have q1 := hts (.fieldLink RX6 27 "DoublelineModel" "thrown" "I") (by decide +kernel)
  have q2 : ∀ w ∈ u_ws RX6 TX6 8, w ∈ wsX6_share := by decide +kernel
  have q3 := hts (.constantFloat RX6 187 (1090519040)) (by decide +kernel)
  have q4 := hts (.fieldLink RX6 9 "DoublelineModel" "codes" "[J") (by decide +kernel)
  have hl := lv_entry ([.ref h0]) (n := 3) (Nat.le_of_ble_eq_true rfl)
  rw [lg_entry_eq]
  generalize (lg_sl ([.ref h0]) ++ List.replicate (3 - (lg_sl ([.ref h0])).length) Slot.unset).toArray = ls at hl ⊢
  have hl : lv_has ls 3 [(0, .ref h0)] := hl
  unfold f_X6_share at hf
  refine lv_iconst (v := 0) hx hb dX6_share_0 (by decide) ?_
  refine lv_istore_n (lv' := [(1, .int 0), (0, .ref h0)]) hx hb dX6_share_1 rfl hl (by decide) rfl (fun ls hl => ?_)
  refine lv_aload_n hx hb dX6_share_2 rfl (lv_at hl 1 rfl) ?_
  refine lv_iconst (v := 0) hx hb dX6_share_3 (by decide) ?_
  refine va_put (D := D) (ci := 5) (v := .int 0) (ty := .int) (C := RX6) (T := TX6) (N := 8) hx hb hts q2 tyX6 tyX6_ok nmX6 hown hK hP hD hS 0 rfl rfl 7 (by decide) q1 (fun _ h9 => h9) rfl (by decide +kernel) rfl rfl (Nat.le_of_ble_eq_true rfl) dX6_share_4 (fun H locs hP hD hS => ?_)
  have hP : va_P D vwCl [(h0, .inr (5, [.ref h1, .ref h2, .ref h3, .int u.2.2.2.1, .ref h4, .ref h5, .int u.2.2.2.2.2.2.1, .int 0])), (h1, .inl (cJ, 8, .inr (.inl u.1))), (h2, .inl (cI, 8, .inl u.2.1)), (h3, .inl (cJ, 8, .inr (.inl u.2.2.1))), (h4, .inl (cC, 40, .inl u.2.2.2.2.1)), (h5, .inl (cI, 40, .inl u.2.2.2.2.2.1))] H := hP
  have hD : va_D A [(h0, .inr (5, [.ref h1, .ref h2, .ref h3, .int u.2.2.2.1, .ref h4, .ref h5, .int u.2.2.2.2.2.2.1, .int 0])), (h1, .inl (cJ, 8, .inr (.inl u.1))), (h2, .inl (cI, 8, .inl u.2.1)), (h3, .inl (cJ, 8, .inr (.inl u.2.2.1))), (h4, .inl (cC, 40, .inl u.2.2.2.2.1)), (h5, .inl (cI, 40, .inl u.2.2.2.2.2.1))] := hD
  refine lv_iconst (v := 0) hx hb dX6_share_7 (by decide) ?_
  refine lv_istore_n (lv' := [(2, .int 0), (1, .int 0), (0, .ref h0)]) hx hb dX6_share_8 rfl hl (by decide) rfl (fun ls hl => ?_)
  have loop9 : ∀ (n9 : Nat) (v9_2 : Int32) (v9_1 : Int32) (s9 : StM) (H : Heap) (locs : List Loc) (hP : va_P D vwCl [(h0, .inr (5, [.ref h1, .ref h2, .ref h3, .int s9.2.2.2.1, .ref h4, .ref h5, .int s9.2.2.2.2.2.2.1, .int s9.2.2.2.2.2.2.2])), (h1, .inl (cJ, 8, .inr (.inl s9.1))), (h2, .inl (cI, 8, .inl s9.2.1)), (h3, .inl (cJ, 8, .inr (.inl s9.2.2.1))), (h4, .inl (cC, 40, .inl s9.2.2.2.2.1)), (h5, .inl (cI, 40, .inl s9.2.2.2.2.2.1))] H) (hD : va_D A [(h0, .inr (5, [.ref h1, .ref h2, .ref h3, .int s9.2.2.2.1, .ref h4, .ref h5, .int s9.2.2.2.2.2.2.1, .int s9.2.2.2.2.2.2.2])), (h1, .inl (cJ, 8, .inr (.inl s9.1))), (h2, .inl (cI, 8, .inl s9.2.1)), (h3, .inl (cJ, 8, .inr (.inl s9.2.2.1))), (h4, .inl (cC, 40, .inl s9.2.2.2.2.1)), (h5, .inl (cI, 40, .inl s9.2.2.2.2.2.1))]) (hS : va_S A s.heap H locs) (ls : Array Slot), lv_has ls 3 [(2, .int v9_2), (1, .int v9_1), (0, .ref h0)] → f_X6_share_L9 u n9 v9_2 v9_1 s9 = some res → W p l e (rmX6_share) s m ([.ref h0] : List Value).toArray below meth c H locs 0 0 (MQ below (va_Qf (fun r v => r = res.1 ∧ v = res.2) (my_B D vwCl (KT cC cI cJ) A (fun v : StM => (wM cC cI cJ h0 h1 h2 h3 h4 h5 v))) A) ([.ref h0] : List Value).toArray s 0 0 A) (F0 m 9 ls []) := by
    intro n9
    induction n9 with
    | zero => intro v9_2 v9_1 s9 H locs hP hD hS ls hl hf; rw [f_X6_share_L9] at hf; cases hf
    | succ n9 ih9 =>
      intro v9_2 v9_1 s9 H locs hP hD hS ls hl hf
      rw [f_X6_share_L9] at hf
      refine lv_iload_n hx hb dX6_share_9 rfl (lv_at hl 0 rfl) ?_
      refine lv_bipush (v := 8) hx hb dX6_share_10 (by decide) ?_
      refine my_ic_ge (tgt := 41) hx hb dX6_share_12 (by decide) (fun c1 => ?_) (fun c1 => ?_)
      · rw [if_neg c1] at hf
        refine lv_iload_n hx hb dX6_share_41 rfl (lv_at hl 1 rfl) ?_
        refine lv_i2f hx hb dX6_share_42 ?_
        refine lv_ldcf (v := 1090519040) hx hb hown q3 dX6_share_43 ?_
        obtain ⟨g2, hf⟩ := og_e hf
        refine lv_fdiv hx hb dX6_share_45 (Classical.not_not.mp g2) ?_
        have hP9 : va_P D vwCl (wM cC cI cJ h0 h1 h2 h3 h4 h5 s9) _ := hP
        have hD9 : va_D A (wM cC cI cJ h0 h1 h2 h3 h4 h5 s9) := hD
        have hf := Option.some.inj hf
        have hf1 := congrArg Prod.fst hf
        have hf2 := congrArg Prod.snd hf
        exact W.fret (v := (FP.fdiv (FP.i2f v9_1) 1090519040)) hx hb hr (fun t ht hW => ⟨⟨(FP.fdiv (FP.i2f v9_1) 1090519040), s9, rfl, ⟨hf1, hf2⟩, by rw [ht]; exact hP9, va_K.moved hW.alike hK, hD9⟩, hS.F ht⟩) hS.2.2 dX6_share_46
      · rw [if_pos c1] at hf
        refine lv_iload_n hx hb dX6_share_15 rfl (lv_at hl 1 rfl) ?_
        refine lv_aload_n hx hb dX6_share_16 rfl (lv_at hl 2 rfl) ?_
        refine va_get (D := D) (ci := 5) (v := .ref h1) (C := RX6) (T := TX6) (N := 8) hx hb hts q2 hown hK hP 0 rfl rfl 0 (by decide) q4 (fun _ h9 => h9) rfl dX6_share_17 ?_
        refine lv_iload_n hx hb dX6_share_20 rfl (lv_at hl 0 rfl) ?_
        obtain ⟨g3, hf⟩ := og_e hf
        refine va_lald hx hb hK hP 1 2 rfl rfl g3 dX6_share_21 ?_
        refine my_callPi (As := [.long (s9.1 v9_2.toNatClampNeg)]) (n := 1) (rest := [.int v9_1]) ⟨hx, hb, hml, hown, hts⟩ (m_X6_isLittle l (s9.1 v9_2.toNatClampNeg) _ rfl) gX6_share_X6_isLittle rfl ⟨rfl, rfl⟩ (by decide +kernel) ⟨Nat.le_of_ble_eq_true rfl, Nat.le_of_ble_eq_true rfl⟩ ⟨Nat.le_of_ble_eq_true rfl, Nat.le_of_ble_eq_true rfl⟩ hl.1 rfl rfl (Nat.le_of_ble_eq_true rfl) dX6_share_22 ?_
        refine my_bz_eq (x := (f_X6_isLittle (s9.1 v9_2.toNatClampNeg))) (tgt := 32) hx hb dX6_share_25 (by decide) (fun c4 => ?_) (fun c4 => ?_)
        · rw [if_pos c4] at hf
          refine lv_iconst (v := 0) hx hb dX6_share_32 (by decide) ?_
          refine lv_iadd hx hb dX6_share_33 ?_
          refine lv_istore_n (lv' := [(1, .int (v9_1 + 0)), (2, .int v9_2), (0, .ref h0)]) hx hb dX6_share_34 rfl hl (by decide) rfl (fun ls hl => ?_)
          refine lv_iinc (v := (v9_2 + 1)) (lv' := [(2, .int (v9_2 + 1)), (1, .int (v9_1 + 0)), (0, .ref h0)]) hx hb dX6_share_35 hl (k := 1) rfl rfl (by decide) rfl (fun ls hl => ?_)
          refine lv_goto (tgt := 9) hx hb dX6_share_38 (by decide) ?_
          exact ih9 (v9_2 + 1) (v9_1 + 0) s9 _ _ hP hD hS _ (lv_sub hl [0, 1, 2] rfl) hf
        · rw [if_neg c4] at hf
          refine lv_iconst (v := 1) hx hb dX6_share_28 (by decide) ?_
          refine lv_goto (tgt := 33) hx hb dX6_share_29 (by decide) ?_
          refine lv_iadd hx hb dX6_share_33 ?_
          refine lv_istore_n (lv' := [(1, .int (v9_1 + 1)), (2, .int v9_2), (0, .ref h0)]) hx hb dX6_share_34 rfl hl (by decide) rfl (fun ls hl => ?_)
          refine lv_iinc (v := (v9_2 + 1)) (lv' := [(2, .int (v9_2 + 1)), (1, .int (v9_1 + 1)), (0, .ref h0)]) hx hb dX6_share_35 hl (k := 1) rfl rfl (by decide) rfl (fun ls hl => ?_)
          refine lv_goto (tgt := 9) hx hb dX6_share_38 (by decide) ?_
          exact ih9 (v9_2 + 1) (v9_1 + 1) s9 _ _ hP hD hS _ (lv_sub hl [0, 1, 2] rfl) hf
  exact loop9 100 0 0 (u.1, (u.2.1, (u.2.2.1, (u.2.2.2.1, (u.2.2.2.2.1, (u.2.2.2.2.2.1, (u.2.2.2.2.2.2.1, 0))))))) _ _ hP hD hS _ (lv_sub hl [0, 1, 2] rfl) hf

set_option maxHeartbeats 4000000 in
set_option maxRecDepth 100000 in
theorem m_X6_meanExponent (l : Launch) (D : va_G) (cC cI cJ : ClassId) (h0 h1 h2 h3 h4 h5 : Nat) (u : StM) (sz : Nat)  (res : UInt64 × StM) (hf : f_X6_meanExponent u = some res) : Met l yX6_meanExponent wsX6_meanExponent rmX6_meanExponent (my_PcM D vwCl (KT cC cI cJ) sz (wM cC cI cJ h0 h1 h2 h3 h4 h5 u) [.ref h0]) (va_Qd (fun r v => r = res.1 ∧ v = res.2) (my_B D vwCl (KT cC cI cJ) (va_A (wM cC cI cJ h0 h1 h2 h3 h4 h5 u) sz) (fun v : StM => (wM cC cI cJ h0 h1 h2 h3 h4 h5 v))) (va_A (wM cC cI cJ h0 h1 h2 h3 h4 h5 u) sz)) 0 0 (va_A (wM cC cI cJ h0 h1 h2 h3 h4 h5 u) sz) := by
  refine Met.ofW (cc := cX6_meanExponent) (maxL := 3) (ret := (some .double)) (by decide) rfl ?_
  intro p e s m args below meth c s₁ B hml hv
  obtain ⟨rfl, hsz, hP, hK, hD0⟩ := hv
  have hx := B.exec
  have hb := B.bytes
  have hr := B.returns
  have hts : ∀ w ∈ wsX6_meanExponent, w.before ([.ref h0] : List Value).toArray s = true := atoms_spec (ws := wsX6_meanExponent) B.pre
  have hown : s.vm.findClass RX6 = some m.cls := findClass_of_methodNamed B.named
  have hlk : meth.locks = false := B.notSynchronized
  subst hsz
  have hD := hD0.self (sz := s.heap.size)
  generalize hAe : va_A (wM cC cI cJ h0 h1 h2 h3 h4 h5 u) s.heap.size = A at hD ⊢
  have hA : ∀ q : Nat, s.heap.size ≤ q → A q := fun q h => by rw [← hAe]; exact Or.inr h
  have hS : va_S A s.heap s.heap [] := va_S.rf
  have hP : va_P D vwCl [(h0, .inr (5, [.ref h1, .ref h2, .ref h3, .int u.2.2.2.1, .ref h4, .ref h5, .int u.2.2.2.2.2.2.1, .int u.2.2.2.2.2.2.2])), (h1, .inl (cJ, 8, .inr (.inl u.1))), (h2, .inl (cI, 8, .inl u.2.1)), (h3, .inl (cJ, 8, .inr (.inl u.2.2.1))), (h4, .inl (cC, 40, .inl u.2.2.2.2.1)), (h5, .inl (cI, 40, .inl u.2.2.2.2.2.1))] s.heap := hP
  have hD : va_D A [(h0, .inr (5, [.ref h1, .ref h2, .ref h3, .int u.2.2.2.1, .ref h4, .ref h5, .int u.2.2.2.2.2.2.1, .int u.2.2.2.2.2.2.2])), (h1, .inl (cJ, 8, .inr (.inl u.1))), (h2, .inl (cI, 8, .inl u.2.1)), (h3, .inl (cJ, 8, .inr (.inl u.2.2.1))), (h4, .inl (cC, 40, .inl u.2.2.2.2.1)), (h5, .inl (cI, 40, .inl u.2.2.2.2.2.1))] := hD
  have q1 := hts (.fieldLink RX6 27 "DoublelineModel" "thrown" "I") (by decide +kernel)
  have q2 : ∀ w ∈ u_ws RX6 TX6 8, w ∈ wsX6_meanExponent := by decide +kernel
  have q3 := hts (.constantDouble RX6 188 (4620693217682128896)) (by decide +kernel)
  have q4 := hts (.fieldLink RX6 9 "DoublelineModel" "codes" "[J") (by decide +kernel)
  have hl := lv_entry ([.ref h0]) (n := 3) (Nat.le_of_ble_eq_true rfl)
  rw [lg_entry_eq]
  generalize (lg_sl ([.ref h0]) ++ List.replicate (3 - (lg_sl ([.ref h0])).length) Slot.unset).toArray = ls at hl ⊢
  have hl : lv_has ls 3 [(0, .ref h0)] := hl
  unfold f_X6_meanExponent at hf
  refine lv_iconst (v := 0) hx hb dX6_meanExponent_0 (by decide) ?_
  refine lv_istore_n (lv' := [(1, .int 0), (0, .ref h0)]) hx hb dX6_meanExponent_1 rfl hl (by decide) rfl (fun ls hl => ?_)
  refine lv_aload_n hx hb dX6_meanExponent_2 rfl (lv_at hl 1 rfl) ?_
  refine lv_iconst (v := 0) hx hb dX6_meanExponent_3 (by decide) ?_
  refine va_put (D := D) (ci := 5) (v := .int 0) (ty := .int) (C := RX6) (T := TX6) (N := 8) hx hb hts q2 tyX6 tyX6_ok nmX6 hown hK hP hD hS 0 rfl rfl 7 (by decide) q1 (fun _ h9 => h9) rfl (by decide +kernel) rfl rfl (Nat.le_of_ble_eq_true rfl) dX6_meanExponent_4 (fun H locs hP hD hS => ?_)
  have hP : va_P D vwCl [(h0, .inr (5, [.ref h1, .ref h2, .ref h3, .int u.2.2.2.1, .ref h4, .ref h5, .int u.2.2.2.2.2.2.1, .int 0])), (h1, .inl (cJ, 8, .inr (.inl u.1))), (h2, .inl (cI, 8, .inl u.2.1)), (h3, .inl (cJ, 8, .inr (.inl u.2.2.1))), (h4, .inl (cC, 40, .inl u.2.2.2.2.1)), (h5, .inl (cI, 40, .inl u.2.2.2.2.2.1))] H := hP
  have hD : va_D A [(h0, .inr (5, [.ref h1, .ref h2, .ref h3, .int u.2.2.2.1, .ref h4, .ref h5, .int u.2.2.2.2.2.2.1, .int 0])), (h1, .inl (cJ, 8, .inr (.inl u.1))), (h2, .inl (cI, 8, .inl u.2.1)), (h3, .inl (cJ, 8, .inr (.inl u.2.2.1))), (h4, .inl (cC, 40, .inl u.2.2.2.2.1)), (h5, .inl (cI, 40, .inl u.2.2.2.2.2.1))] := hD
  refine lv_iconst (v := 0) hx hb dX6_meanExponent_7 (by decide) ?_
  refine lv_istore_n (lv' := [(2, .int 0), (1, .int 0), (0, .ref h0)]) hx hb dX6_meanExponent_8 rfl hl (by decide) rfl (fun ls hl => ?_)
  have loop9 : ∀ (n9 : Nat) (v9_2 : Int32) (v9_1 : Int32) (s9 : StM) (H : Heap) (locs : List Loc) (hP : va_P D vwCl [(h0, .inr (5, [.ref h1, .ref h2, .ref h3, .int s9.2.2.2.1, .ref h4, .ref h5, .int s9.2.2.2.2.2.2.1, .int s9.2.2.2.2.2.2.2])), (h1, .inl (cJ, 8, .inr (.inl s9.1))), (h2, .inl (cI, 8, .inl s9.2.1)), (h3, .inl (cJ, 8, .inr (.inl s9.2.2.1))), (h4, .inl (cC, 40, .inl s9.2.2.2.2.1)), (h5, .inl (cI, 40, .inl s9.2.2.2.2.2.1))] H) (hD : va_D A [(h0, .inr (5, [.ref h1, .ref h2, .ref h3, .int s9.2.2.2.1, .ref h4, .ref h5, .int s9.2.2.2.2.2.2.1, .int s9.2.2.2.2.2.2.2])), (h1, .inl (cJ, 8, .inr (.inl s9.1))), (h2, .inl (cI, 8, .inl s9.2.1)), (h3, .inl (cJ, 8, .inr (.inl s9.2.2.1))), (h4, .inl (cC, 40, .inl s9.2.2.2.2.1)), (h5, .inl (cI, 40, .inl s9.2.2.2.2.2.1))]) (hS : va_S A s.heap H locs) (ls : Array Slot), lv_has ls 3 [(2, .int v9_2), (1, .int v9_1), (0, .ref h0)] → f_X6_meanExponent_L9 u n9 v9_2 v9_1 s9 = some res → W p l e (rmX6_meanExponent) s m ([.ref h0] : List Value).toArray below meth c H locs 0 0 (MQ below (va_Qd (fun r v => r = res.1 ∧ v = res.2) (my_B D vwCl (KT cC cI cJ) A (fun v : StM => (wM cC cI cJ h0 h1 h2 h3 h4 h5 v))) A) ([.ref h0] : List Value).toArray s 0 0 A) (F0 m 9 ls []) := by
    intro n9
    induction n9 with
    | zero => intro v9_2 v9_1 s9 H locs hP hD hS ls hl hf; rw [f_X6_meanExponent_L9] at hf; cases hf
    | succ n9 ih9 =>
      intro v9_2 v9_1 s9 H locs hP hD hS ls hl hf
      rw [f_X6_meanExponent_L9] at hf
      refine lv_iload_n hx hb dX6_meanExponent_9 rfl (lv_at hl 0 rfl) ?_
      refine lv_bipush (v := 8) hx hb dX6_meanExponent_10 (by decide) ?_
      refine my_ic_ge (tgt := 33) hx hb dX6_meanExponent_12 (by decide) (fun c1 => ?_) (fun c1 => ?_)
      · rw [if_neg c1] at hf
        refine lv_iload_n hx hb dX6_meanExponent_33 rfl (lv_at hl 1 rfl) ?_
        refine lv_i2d hx hb dX6_meanExponent_34 ?_
        refine lv_ldc2d (v := 4620693217682128896) hx hb hown q3 dX6_meanExponent_35 ?_
        obtain ⟨g2, hf⟩ := og_e hf
        refine lv_ddiv hx hb dX6_meanExponent_38 (Classical.not_not.mp g2) ?_
        have hP9 : va_P D vwCl (wM cC cI cJ h0 h1 h2 h3 h4 h5 s9) _ := hP
        have hD9 : va_D A (wM cC cI cJ h0 h1 h2 h3 h4 h5 s9) := hD
        have hf := Option.some.inj hf
        have hf1 := congrArg Prod.fst hf
        have hf2 := congrArg Prod.snd hf
        exact W.dret (v := (FP.ddiv (FP.i2d v9_1) 4620693217682128896)) hx hb hr (fun t ht hW => ⟨⟨(FP.ddiv (FP.i2d v9_1) 4620693217682128896), s9, rfl, ⟨hf1, hf2⟩, by rw [ht]; exact hP9, va_K.moved hW.alike hK, hD9⟩, hS.F ht⟩) hS.2.2 dX6_meanExponent_39
      · rw [if_pos c1] at hf
        refine lv_iload_n hx hb dX6_meanExponent_15 rfl (lv_at hl 1 rfl) ?_
        refine lv_aload_n hx hb dX6_meanExponent_16 rfl (lv_at hl 2 rfl) ?_
        refine va_get (D := D) (ci := 5) (v := .ref h1) (C := RX6) (T := TX6) (N := 8) hx hb hts q2 hown hK hP 0 rfl rfl 0 (by decide) q4 (fun _ h9 => h9) rfl dX6_meanExponent_17 ?_
        refine lv_iload_n hx hb dX6_meanExponent_20 rfl (lv_at hl 0 rfl) ?_
        obtain ⟨g3, hf⟩ := og_e hf
        refine va_lald hx hb hK hP 1 2 rfl rfl g3 dX6_meanExponent_21 ?_
        refine my_callPi (As := [.long (s9.1 v9_2.toNatClampNeg)]) (n := 1) (rest := [.int v9_1]) ⟨hx, hb, hml, hown, hts⟩ (m_X6_exponentOf l (s9.1 v9_2.toNatClampNeg) _ rfl) gX6_meanExponent_X6_exponentOf rfl ⟨rfl, rfl⟩ (by decide +kernel) ⟨Nat.le_of_ble_eq_true rfl, Nat.le_of_ble_eq_true rfl⟩ ⟨Nat.le_of_ble_eq_true rfl, Nat.le_of_ble_eq_true rfl⟩ hl.1 rfl rfl (Nat.le_of_ble_eq_true rfl) dX6_meanExponent_22 ?_
        refine lv_iadd hx hb dX6_meanExponent_25 ?_
        refine lv_istore_n (lv' := [(1, .int (v9_1 + (f_X6_exponentOf (s9.1 v9_2.toNatClampNeg)))), (2, .int v9_2), (0, .ref h0)]) hx hb dX6_meanExponent_26 rfl hl (by decide) rfl (fun ls hl => ?_)
        refine lv_iinc (v := (v9_2 + 1)) (lv' := [(2, .int (v9_2 + 1)), (1, .int (v9_1 + (f_X6_exponentOf (s9.1 v9_2.toNatClampNeg)))), (0, .ref h0)]) hx hb dX6_meanExponent_27 hl (k := 1) rfl rfl (by decide) rfl (fun ls hl => ?_)
        refine lv_goto (tgt := 9) hx hb dX6_meanExponent_30 (by decide) ?_
        exact ih9 (v9_2 + 1) (v9_1 + (f_X6_exponentOf (s9.1 v9_2.toNatClampNeg))) s9 _ _ hP hD hS _ (lv_sub hl [0, 1, 2] rfl) hf
  exact loop9 100 0 0 (u.1, (u.2.1, (u.2.2.1, (u.2.2.2.1, (u.2.2.2.2.1, (u.2.2.2.2.2.1, (u.2.2.2.2.2.2.1, 0))))))) _ _ hP hD hS _ (lv_sub hl [0, 1, 2] rfl) hf

set_option maxHeartbeats 4000000 in
set_option maxRecDepth 100000 in
theorem m_X6_checksum (l : Launch) (D : va_G) (cC cI cJ : ClassId) (h0 h1 h2 h3 h4 h5 : Nat) (u : StM) (sz : Nat)  (res : Int64 × StM) (hf : f_X6_checksum u = some res) : Met l yX6_checksum wsX6_checksum rmX6_checksum (my_PcM D vwCl (KT cC cI cJ) sz (wM cC cI cJ h0 h1 h2 h3 h4 h5 u) [.ref h0]) (va_Ql (fun r v => r = res.1 ∧ v = res.2) (my_B D vwCl (KT cC cI cJ) (va_A (wM cC cI cJ h0 h1 h2 h3 h4 h5 u) sz) (fun v : StM => (wM cC cI cJ h0 h1 h2 h3 h4 h5 v))) (va_A (wM cC cI cJ h0 h1 h2 h3 h4 h5 u) sz)) 0 0 (va_A (wM cC cI cJ h0 h1 h2 h3 h4 h5 u) sz) := by
  refine Met.ofW (cc := cX6_checksum) (maxL := 4) (ret := (some .long)) (by decide) rfl ?_
  intro p e s m args below meth c s₁ B hml hv
  obtain ⟨rfl, hsz, hP, hK, hD0⟩ := hv
  have hx := B.exec
  have hb := B.bytes
  have hr := B.returns
  have hts : ∀ w ∈ wsX6_checksum, w.before ([.ref h0] : List Value).toArray s = true := atoms_spec (ws := wsX6_checksum) B.pre
  have hown : s.vm.findClass RX6 = some m.cls := findClass_of_methodNamed B.named
  have hlk : meth.locks = false := B.notSynchronized
  subst hsz
  have hD := hD0.self (sz := s.heap.size)
  generalize hAe : va_A (wM cC cI cJ h0 h1 h2 h3 h4 h5 u) s.heap.size = A at hD ⊢
  have hA : ∀ q : Nat, s.heap.size ≤ q → A q := fun q h => by rw [← hAe]; exact Or.inr h
  have hS : va_S A s.heap s.heap [] := va_S.rf
  have hP : va_P D vwCl [(h0, .inr (5, [.ref h1, .ref h2, .ref h3, .int u.2.2.2.1, .ref h4, .ref h5, .int u.2.2.2.2.2.2.1, .int u.2.2.2.2.2.2.2])), (h1, .inl (cJ, 8, .inr (.inl u.1))), (h2, .inl (cI, 8, .inl u.2.1)), (h3, .inl (cJ, 8, .inr (.inl u.2.2.1))), (h4, .inl (cC, 40, .inl u.2.2.2.2.1)), (h5, .inl (cI, 40, .inl u.2.2.2.2.2.1))] s.heap := hP
  have hD : va_D A [(h0, .inr (5, [.ref h1, .ref h2, .ref h3, .int u.2.2.2.1, .ref h4, .ref h5, .int u.2.2.2.2.2.2.1, .int u.2.2.2.2.2.2.2])), (h1, .inl (cJ, 8, .inr (.inl u.1))), (h2, .inl (cI, 8, .inl u.2.1)), (h3, .inl (cJ, 8, .inr (.inl u.2.2.1))), (h4, .inl (cC, 40, .inl u.2.2.2.2.1)), (h5, .inl (cI, 40, .inl u.2.2.2.2.2.1))] := hD
  have q1 := hts (.constantLong RX6 190 (7)) (by decide +kernel)
  have q2 := hts (.fieldLink RX6 27 "DoublelineModel" "thrown" "I") (by decide +kernel)
  have q3 : ∀ w ∈ u_ws RX6 TX6 8, w ∈ wsX6_checksum := by decide +kernel
  have q4 := hts (.constantLong RX6 192 (31)) (by decide +kernel)
  have q5 := hts (.fieldLink RX6 174 "DoublelineModel" "words" "I") (by decide +kernel)
  have q6 := hts (.fieldLink RX6 20 "DoublelineModel" "kinds" "[C") (by decide +kernel)
  have q7 := hts (.fieldLink RX6 24 "DoublelineModel" "counts" "[I") (by decide +kernel)
  have q8 := hts (.fieldLink RX6 9 "DoublelineModel" "codes" "[J") (by decide +kernel)
  have hl := lv_entry ([.ref h0]) (n := 4) (Nat.le_of_ble_eq_true rfl)
  rw [lg_entry_eq]
  generalize (lg_sl ([.ref h0]) ++ List.replicate (4 - (lg_sl ([.ref h0])).length) Slot.unset).toArray = ls at hl ⊢
  have hl : lv_has ls 4 [(0, .ref h0)] := hl
  unfold f_X6_checksum at hf
  refine lv_ldc2 (v := 7) hx hb hown q1 dX6_checksum_0 ?_
  refine lv_lstore_n (lv' := [(1, .long 7), (0, .ref h0)]) hx hb dX6_checksum_3 rfl hl (by decide) rfl (fun ls hl => ?_)
  refine lv_aload_n hx hb dX6_checksum_4 rfl (lv_at hl 1 rfl) ?_
  refine lv_iconst (v := 0) hx hb dX6_checksum_5 (by decide) ?_
  refine va_put (D := D) (ci := 5) (v := .int 0) (ty := .int) (C := RX6) (T := TX6) (N := 8) hx hb hts q3 tyX6 tyX6_ok nmX6 hown hK hP hD hS 0 rfl rfl 7 (by decide) q2 (fun _ h9 => h9) rfl (by decide +kernel) rfl rfl (Nat.le_of_ble_eq_true rfl) dX6_checksum_6 (fun H locs hP hD hS => ?_)
  have hP : va_P D vwCl [(h0, .inr (5, [.ref h1, .ref h2, .ref h3, .int u.2.2.2.1, .ref h4, .ref h5, .int u.2.2.2.2.2.2.1, .int 0])), (h1, .inl (cJ, 8, .inr (.inl u.1))), (h2, .inl (cI, 8, .inl u.2.1)), (h3, .inl (cJ, 8, .inr (.inl u.2.2.1))), (h4, .inl (cC, 40, .inl u.2.2.2.2.1)), (h5, .inl (cI, 40, .inl u.2.2.2.2.2.1))] H := hP
  have hD : va_D A [(h0, .inr (5, [.ref h1, .ref h2, .ref h3, .int u.2.2.2.1, .ref h4, .ref h5, .int u.2.2.2.2.2.2.1, .int 0])), (h1, .inl (cJ, 8, .inr (.inl u.1))), (h2, .inl (cI, 8, .inl u.2.1)), (h3, .inl (cJ, 8, .inr (.inl u.2.2.1))), (h4, .inl (cC, 40, .inl u.2.2.2.2.1)), (h5, .inl (cI, 40, .inl u.2.2.2.2.2.1))] := hD
  refine lv_iconst (v := 0) hx hb dX6_checksum_9 (by decide) ?_
  refine lv_istore_n (lv' := [(3, .int 0), (1, .long 7), (0, .ref h0)]) hx hb dX6_checksum_10 rfl hl (by decide) rfl (fun ls hl => ?_)
  have loop11 : ∀ (n11 : Nat) (v11_3 : Int32) (v11_1 : Int64) (s11 : StM) (H : Heap) (locs : List Loc) (hP : va_P D vwCl [(h0, .inr (5, [.ref h1, .ref h2, .ref h3, .int s11.2.2.2.1, .ref h4, .ref h5, .int s11.2.2.2.2.2.2.1, .int s11.2.2.2.2.2.2.2])), (h1, .inl (cJ, 8, .inr (.inl s11.1))), (h2, .inl (cI, 8, .inl s11.2.1)), (h3, .inl (cJ, 8, .inr (.inl s11.2.2.1))), (h4, .inl (cC, 40, .inl s11.2.2.2.2.1)), (h5, .inl (cI, 40, .inl s11.2.2.2.2.2.1))] H) (hD : va_D A [(h0, .inr (5, [.ref h1, .ref h2, .ref h3, .int s11.2.2.2.1, .ref h4, .ref h5, .int s11.2.2.2.2.2.2.1, .int s11.2.2.2.2.2.2.2])), (h1, .inl (cJ, 8, .inr (.inl s11.1))), (h2, .inl (cI, 8, .inl s11.2.1)), (h3, .inl (cJ, 8, .inr (.inl s11.2.2.1))), (h4, .inl (cC, 40, .inl s11.2.2.2.2.1)), (h5, .inl (cI, 40, .inl s11.2.2.2.2.2.1))]) (hS : va_S A s.heap H locs) (ls : Array Slot), lv_has ls 4 [(3, .int v11_3), (1, .long v11_1), (0, .ref h0)] → f_X6_checksum_L11 u n11 v11_3 v11_1 s11 = some res → W p l e (rmX6_checksum) s m ([.ref h0] : List Value).toArray below meth c H locs 0 0 (MQ below (va_Ql (fun r v => r = res.1 ∧ v = res.2) (my_B D vwCl (KT cC cI cJ) A (fun v : StM => (wM cC cI cJ h0 h1 h2 h3 h4 h5 v))) A) ([.ref h0] : List Value).toArray s 0 0 A) (F0 m 11 ls []) := by
    intro n11
    induction n11 with
    | zero => intro v11_3 v11_1 s11 H locs hP hD hS ls hl hf; rw [f_X6_checksum_L11] at hf; cases hf
    | succ n11 ih11 =>
      intro v11_3 v11_1 s11 H locs hP hD hS ls hl hf
      rw [f_X6_checksum_L11] at hf
      refine lv_iload_n hx hb dX6_checksum_11 rfl (lv_at hl 0 rfl) ?_
      refine lv_bipush (v := 8) hx hb dX6_checksum_12 (by decide) ?_
      refine my_ic_ge (tgt := 39) hx hb dX6_checksum_14 (by decide) (fun c1 => ?_) (fun c1 => ?_)
      · rw [if_neg c1] at hf
        refine lv_ldc2 (v := 31) hx hb hown q4 dX6_checksum_39 ?_
        refine lv_lload_n hx hb dX6_checksum_42 rfl (lv_at hl 1 rfl) ?_
        refine lv_lmul hx hb dX6_checksum_43 ?_
        refine lv_aload_n hx hb dX6_checksum_44 rfl (lv_at hl 2 rfl) ?_
        refine va_get (D := D) (ci := 5) (v := .int s11.2.2.2.2.2.2.1) (C := RX6) (T := TX6) (N := 8) hx hb hts q3 hown hK hP 0 rfl rfl 6 (by decide) q5 (fun _ h9 => h9) rfl dX6_checksum_45 ?_
        refine lv_i2l (v := (s11.2.2.2.2.2.2.1.toInt64)) hx hb dX6_checksum_48 rfl ?_
        refine lv_ladd hx hb dX6_checksum_49 ?_
        refine lv_lstore_n (lv' := [(1, .long ((31 * v11_1) + (s11.2.2.2.2.2.2.1.toInt64))), (3, .int v11_3), (0, .ref h0)]) hx hb dX6_checksum_50 rfl hl (by decide) rfl (fun ls hl => ?_)
        refine lv_iconst (v := 0) hx hb dX6_checksum_51 (by decide) ?_
        refine lv_istore_n (lv' := [(3, .int 0), (1, .long ((31 * v11_1) + (s11.2.2.2.2.2.2.1.toInt64))), (0, .ref h0)]) hx hb dX6_checksum_52 rfl hl (by decide) rfl (fun ls hl => ?_)
        have loop53 : ∀ (n53 : Nat) (v53_3 : Int32) (v53_1 : Int64) (s53 : StM) (H : Heap) (locs : List Loc) (hP : va_P D vwCl [(h0, .inr (5, [.ref h1, .ref h2, .ref h3, .int s53.2.2.2.1, .ref h4, .ref h5, .int s53.2.2.2.2.2.2.1, .int s53.2.2.2.2.2.2.2])), (h1, .inl (cJ, 8, .inr (.inl s53.1))), (h2, .inl (cI, 8, .inl s53.2.1)), (h3, .inl (cJ, 8, .inr (.inl s53.2.2.1))), (h4, .inl (cC, 40, .inl s53.2.2.2.2.1)), (h5, .inl (cI, 40, .inl s53.2.2.2.2.2.1))] H) (hD : va_D A [(h0, .inr (5, [.ref h1, .ref h2, .ref h3, .int s53.2.2.2.1, .ref h4, .ref h5, .int s53.2.2.2.2.2.2.1, .int s53.2.2.2.2.2.2.2])), (h1, .inl (cJ, 8, .inr (.inl s53.1))), (h2, .inl (cI, 8, .inl s53.2.1)), (h3, .inl (cJ, 8, .inr (.inl s53.2.2.1))), (h4, .inl (cC, 40, .inl s53.2.2.2.2.1)), (h5, .inl (cI, 40, .inl s53.2.2.2.2.2.1))]) (hS : va_S A s.heap H locs) (ls : Array Slot), lv_has ls 4 [(3, .int v53_3), (1, .long v53_1), (0, .ref h0)] → f_X6_checksum_L53 u n53 v53_3 v53_1 s53 = some res → W p l e (rmX6_checksum) s m ([.ref h0] : List Value).toArray below meth c H locs 0 0 (MQ below (va_Ql (fun r v => r = res.1 ∧ v = res.2) (my_B D vwCl (KT cC cI cJ) A (fun v : StM => (wM cC cI cJ h0 h1 h2 h3 h4 h5 v))) A) ([.ref h0] : List Value).toArray s 0 0 A) (F0 m 53 ls []) := by
          intro n53
          induction n53 with
          | zero => intro v53_3 v53_1 s53 H locs hP hD hS ls hl hf; rw [f_X6_checksum_L53] at hf; cases hf
          | succ n53 ih53 =>
            intro v53_3 v53_1 s53 H locs hP hD hS ls hl hf
            rw [f_X6_checksum_L53] at hf
            refine lv_iload_n hx hb dX6_checksum_53 rfl (lv_at hl 0 rfl) ?_
            refine lv_aload_n hx hb dX6_checksum_54 rfl (lv_at hl 2 rfl) ?_
            refine va_get (D := D) (ci := 5) (v := .int s53.2.2.2.2.2.2.1) (C := RX6) (T := TX6) (N := 8) hx hb hts q3 hown hK hP 0 rfl rfl 6 (by decide) q5 (fun _ h9 => h9) rfl dX6_checksum_55 ?_
            refine my_ic_ge (tgt := 95) hx hb dX6_checksum_58 (by decide) (fun c2 => ?_) (fun c2 => ?_)
            · rw [if_neg c2] at hf
              refine lv_lload_n hx hb dX6_checksum_95 rfl (lv_at hl 1 rfl) ?_
              have hP9 : va_P D vwCl (wM cC cI cJ h0 h1 h2 h3 h4 h5 s53) _ := hP
              have hD9 : va_D A (wM cC cI cJ h0 h1 h2 h3 h4 h5 s53) := hD
              have hf := Option.some.inj hf
              have hf1 := congrArg Prod.fst hf
              have hf2 := congrArg Prod.snd hf
              exact W.lret (v := v53_1) hx hb hr (fun t ht hW => ⟨⟨v53_1, s53, rfl, ⟨hf1, hf2⟩, by rw [ht]; exact hP9, va_K.moved hW.alike hK, hD9⟩, hS.F ht⟩) hS.2.2 dX6_checksum_96
            · rw [if_pos c2] at hf
              refine lv_ldc2 (v := 31) hx hb hown q4 dX6_checksum_61 ?_
              refine lv_lload_n hx hb dX6_checksum_64 rfl (lv_at hl 1 rfl) ?_
              refine lv_lmul hx hb dX6_checksum_65 ?_
              refine lv_aload_n hx hb dX6_checksum_66 rfl (lv_at hl 2 rfl) ?_
              refine va_get (D := D) (ci := 5) (v := .ref h4) (C := RX6) (T := TX6) (N := 8) hx hb hts q3 hown hK hP 0 rfl rfl 4 (by decide) q6 (fun _ h9 => h9) rfl dX6_checksum_67 ?_
              refine lv_iload_n hx hb dX6_checksum_70 rfl (lv_at hl 0 rfl) ?_
              obtain ⟨g3, hf⟩ := og_e hf
              refine va_cald hx hb hK hP 4 0 rfl rfl g3 dX6_checksum_71 ?_
              refine lv_i2l (v := ((s53.2.2.2.2.1 v53_3.toNatClampNeg).toInt64)) hx hb dX6_checksum_72 rfl ?_
              refine lv_ladd hx hb dX6_checksum_73 ?_
              refine lv_lstore_n (lv' := [(1, .long ((31 * v53_1) + ((s53.2.2.2.2.1 v53_3.toNatClampNeg).toInt64))), (3, .int v53_3), (0, .ref h0)]) hx hb dX6_checksum_74 rfl hl (by decide) rfl (fun ls hl => ?_)
              refine lv_ldc2 (v := 31) hx hb hown q4 dX6_checksum_75 ?_
              refine lv_lload_n hx hb dX6_checksum_78 rfl (lv_at hl 0 rfl) ?_
              refine lv_lmul hx hb dX6_checksum_79 ?_
              refine lv_aload_n hx hb dX6_checksum_80 rfl (lv_at hl 2 rfl) ?_
              refine va_get (D := D) (ci := 5) (v := .ref h5) (C := RX6) (T := TX6) (N := 8) hx hb hts q3 hown hK hP 0 rfl rfl 5 (by decide) q7 (fun _ h9 => h9) rfl dX6_checksum_81 ?_
              refine lv_iload_n hx hb dX6_checksum_84 rfl (lv_at hl 1 rfl) ?_
              obtain ⟨g4, hf⟩ := og_e hf
              refine va_iald hx hb hK hP 5 1 rfl rfl g4 dX6_checksum_85 ?_
              refine lv_i2l (v := ((s53.2.2.2.2.2.1 v53_3.toNatClampNeg).toInt64)) hx hb dX6_checksum_86 rfl ?_
              refine lv_ladd hx hb dX6_checksum_87 ?_
              refine lv_lstore_n (lv' := [(1, .long ((31 * ((31 * v53_1) + ((s53.2.2.2.2.1 v53_3.toNatClampNeg).toInt64))) + ((s53.2.2.2.2.2.1 v53_3.toNatClampNeg).toInt64))), (3, .int v53_3), (0, .ref h0)]) hx hb dX6_checksum_88 rfl hl (by decide) rfl (fun ls hl => ?_)
              refine lv_iinc (v := (v53_3 + 1)) (lv' := [(3, .int (v53_3 + 1)), (1, .long ((31 * ((31 * v53_1) + ((s53.2.2.2.2.1 v53_3.toNatClampNeg).toInt64))) + ((s53.2.2.2.2.2.1 v53_3.toNatClampNeg).toInt64))), (0, .ref h0)]) hx hb dX6_checksum_89 hl (k := 1) rfl rfl (by decide) rfl (fun ls hl => ?_)
              refine lv_goto (tgt := 53) hx hb dX6_checksum_92 (by decide) ?_
              exact ih53 (v53_3 + 1) ((31 * ((31 * v53_1) + ((s53.2.2.2.2.1 v53_3.toNatClampNeg).toInt64))) + ((s53.2.2.2.2.2.1 v53_3.toNatClampNeg).toInt64)) s53 _ _ hP hD hS _ (lv_sub hl [0, 1, 2] rfl) hf
        exact loop53 100 0 ((31 * v11_1) + (s11.2.2.2.2.2.2.1.toInt64)) s11 _ _ hP hD hS _ (lv_sub hl [0, 1, 2] rfl) hf
      · rw [if_pos c1] at hf
        refine lv_ldc2 (v := 31) hx hb hown q4 dX6_checksum_17 ?_
        refine lv_lload_n hx hb dX6_checksum_20 rfl (lv_at hl 1 rfl) ?_
        refine lv_lmul hx hb dX6_checksum_21 ?_
        refine lv_aload_n hx hb dX6_checksum_22 rfl (lv_at hl 2 rfl) ?_
        refine va_get (D := D) (ci := 5) (v := .ref h1) (C := RX6) (T := TX6) (N := 8) hx hb hts q3 hown hK hP 0 rfl rfl 0 (by decide) q8 (fun _ h9 => h9) rfl dX6_checksum_23 ?_
        refine lv_iload_n hx hb dX6_checksum_26 rfl (lv_at hl 0 rfl) ?_
        obtain ⟨g5, hf⟩ := og_e hf
        refine va_lald hx hb hK hP 1 2 rfl rfl g5 dX6_checksum_27 ?_
        refine my_callPl (As := [.long (s11.1 v11_3.toNatClampNeg)]) (n := 1) (rest := [.long (31 * v11_1)]) ⟨hx, hb, hml, hown, hts⟩ (m_X6_bitsOf l (s11.1 v11_3.toNatClampNeg) _ rfl) gX6_checksum_X6_bitsOf rfl ⟨rfl, rfl⟩ (by decide +kernel) ⟨Nat.le_of_ble_eq_true rfl, Nat.le_of_ble_eq_true rfl⟩ ⟨Nat.le_of_ble_eq_true rfl, Nat.le_of_ble_eq_true rfl⟩ hl.1 rfl rfl (Nat.le_of_ble_eq_true rfl) dX6_checksum_28 ?_
        refine lv_ladd hx hb dX6_checksum_31 ?_
        refine lv_lstore_n (lv' := [(1, .long ((31 * v11_1) + (f_X6_bitsOf (s11.1 v11_3.toNatClampNeg)))), (3, .int v11_3), (0, .ref h0)]) hx hb dX6_checksum_32 rfl hl (by decide) rfl (fun ls hl => ?_)
        refine lv_iinc (v := (v11_3 + 1)) (lv' := [(3, .int (v11_3 + 1)), (1, .long ((31 * v11_1) + (f_X6_bitsOf (s11.1 v11_3.toNatClampNeg)))), (0, .ref h0)]) hx hb dX6_checksum_33 hl (k := 1) rfl rfl (by decide) rfl (fun ls hl => ?_)
        refine lv_goto (tgt := 11) hx hb dX6_checksum_36 (by decide) ?_
        exact ih11 (v11_3 + 1) ((31 * v11_1) + (f_X6_bitsOf (s11.1 v11_3.toNatClampNeg))) s11 _ _ hP hD hS _ (lv_sub hl [0, 1, 2] rfl) hf
  exact loop11 100 0 7 (u.1, (u.2.1, (u.2.2.1, (u.2.2.2.1, (u.2.2.2.2.1, (u.2.2.2.2.2.1, (u.2.2.2.2.2.2.1, 0))))))) _ _ hP hD hS _ (lv_sub hl [0, 1, 2] rfl) hf

set_option maxHeartbeats 4000000 in
set_option maxRecDepth 100000 in
theorem m_X6_isSound (l : Launch) (D : va_G) (cC cI cJ : ClassId) (h0 h1 h2 h3 h4 h5 : Nat) (u : StM) (sz : Nat)  (res : Bool × StM) (hf : f_X6_isSound u = some res) : Met l yX6_isSound wsX6_isSound rmX6_isSound (my_PcM D vwCl (KT cC cI cJ) sz (wM cC cI cJ h0 h1 h2 h3 h4 h5 u) [.ref h0]) (va_Qi (fun r v => r = b2i res.1 ∧ v = res.2) (my_B D vwCl (KT cC cI cJ) (va_A (wM cC cI cJ h0 h1 h2 h3 h4 h5 u) sz) (fun v : StM => (wM cC cI cJ h0 h1 h2 h3 h4 h5 v))) (va_A (wM cC cI cJ h0 h1 h2 h3 h4 h5 u) sz)) 0 0 (va_A (wM cC cI cJ h0 h1 h2 h3 h4 h5 u) sz) := by
  refine Met.ofW (cc := cX6_isSound) (maxL := 1) (ret := (some .boolean)) (by decide) rfl ?_
  intro p e s m args below meth c s₁ B hml hv
  obtain ⟨rfl, hsz, hP, hK, hD0⟩ := hv
  have hx := B.exec
  have hb := B.bytes
  have hr := B.returns
  have hts : ∀ w ∈ wsX6_isSound, w.before ([.ref h0] : List Value).toArray s = true := atoms_spec (ws := wsX6_isSound) B.pre
  have hown : s.vm.findClass RX6 = some m.cls := findClass_of_methodNamed B.named
  have hlk : meth.locks = false := B.notSynchronized
  subst hsz
  have hD := hD0.self (sz := s.heap.size)
  generalize hAe : va_A (wM cC cI cJ h0 h1 h2 h3 h4 h5 u) s.heap.size = A at hD ⊢
  have hA : ∀ q : Nat, s.heap.size ≤ q → A q := fun q h => by rw [← hAe]; exact Or.inr h
  have hS : va_S A s.heap s.heap [] := va_S.rf
  have hP : va_P D vwCl [(h0, .inr (5, [.ref h1, .ref h2, .ref h3, .int u.2.2.2.1, .ref h4, .ref h5, .int u.2.2.2.2.2.2.1, .int u.2.2.2.2.2.2.2])), (h1, .inl (cJ, 8, .inr (.inl u.1))), (h2, .inl (cI, 8, .inl u.2.1)), (h3, .inl (cJ, 8, .inr (.inl u.2.2.1))), (h4, .inl (cC, 40, .inl u.2.2.2.2.1)), (h5, .inl (cI, 40, .inl u.2.2.2.2.2.1))] s.heap := hP
  have hD : va_D A [(h0, .inr (5, [.ref h1, .ref h2, .ref h3, .int u.2.2.2.1, .ref h4, .ref h5, .int u.2.2.2.2.2.2.1, .int u.2.2.2.2.2.2.2])), (h1, .inl (cJ, 8, .inr (.inl u.1))), (h2, .inl (cI, 8, .inl u.2.1)), (h3, .inl (cJ, 8, .inr (.inl u.2.2.1))), (h4, .inl (cC, 40, .inl u.2.2.2.2.1)), (h5, .inl (cI, 40, .inl u.2.2.2.2.2.1))] := hD
  have q1 := hts (.fieldLink RX6 27 "DoublelineModel" "thrown" "I") (by decide +kernel)
  have q2 : ∀ w ∈ u_ws RX6 TX6 8, w ∈ wsX6_isSound := by decide +kernel
  have hl := lv_entry ([.ref h0]) (n := 1) (Nat.le_of_ble_eq_true rfl)
  rw [lg_entry_eq]
  generalize (lg_sl ([.ref h0]) ++ List.replicate (1 - (lg_sl ([.ref h0])).length) Slot.unset).toArray = ls at hl ⊢
  have hl : lv_has ls 1 [(0, .ref h0)] := hl
  unfold f_X6_isSound at hf
  refine lv_aload_n hx hb dX6_isSound_0 rfl (lv_at hl 0 rfl) ?_
  refine lv_iconst (v := 0) hx hb dX6_isSound_1 (by decide) ?_
  refine va_put (D := D) (ci := 5) (v := .int 0) (ty := .int) (C := RX6) (T := TX6) (N := 8) hx hb hts q2 tyX6 tyX6_ok nmX6 hown hK hP hD hS 0 rfl rfl 7 (by decide) q1 (fun _ h9 => h9) rfl (by decide +kernel) rfl rfl (Nat.le_of_ble_eq_true rfl) dX6_isSound_2 (fun H locs hP hD hS => ?_)
  have hP : va_P D vwCl [(h0, .inr (5, [.ref h1, .ref h2, .ref h3, .int u.2.2.2.1, .ref h4, .ref h5, .int u.2.2.2.2.2.2.1, .int 0])), (h1, .inl (cJ, 8, .inr (.inl u.1))), (h2, .inl (cI, 8, .inl u.2.1)), (h3, .inl (cJ, 8, .inr (.inl u.2.2.1))), (h4, .inl (cC, 40, .inl u.2.2.2.2.1)), (h5, .inl (cI, 40, .inl u.2.2.2.2.2.1))] H := hP
  have hD : va_D A [(h0, .inr (5, [.ref h1, .ref h2, .ref h3, .int u.2.2.2.1, .ref h4, .ref h5, .int u.2.2.2.2.2.2.1, .int 0])), (h1, .inl (cJ, 8, .inr (.inl u.1))), (h2, .inl (cI, 8, .inl u.2.1)), (h3, .inl (cJ, 8, .inr (.inl u.2.2.1))), (h4, .inl (cC, 40, .inl u.2.2.2.2.1)), (h5, .inl (cI, 40, .inl u.2.2.2.2.2.1))] := hD
  refine lv_iconst (v := 1) hx hb dX6_isSound_5 (by decide) ?_
  have hP9 : va_P D vwCl (wM cC cI cJ h0 h1 h2 h3 h4 h5 (u.1, (u.2.1, (u.2.2.1, (u.2.2.2.1, (u.2.2.2.2.1, (u.2.2.2.2.2.1, (u.2.2.2.2.2.2.1, 0)))))))) _ := hP
  have hD9 : va_D A (wM cC cI cJ h0 h1 h2 h3 h4 h5 (u.1, (u.2.1, (u.2.2.1, (u.2.2.2.1, (u.2.2.2.2.1, (u.2.2.2.2.2.1, (u.2.2.2.2.2.2.1, 0)))))))) := hD
  have hf := Option.some.inj hf
  have hf1 := congrArg (fun z => b2i z.1) hf
  have hf2 := congrArg Prod.snd hf
  exact W.zret (v := b2i true) (ty := .boolean) hx hb hr (b2i_nar _) (fun t ht hW => ⟨⟨b2i true, (u.1, (u.2.1, (u.2.2.1, (u.2.2.2.1, (u.2.2.2.2.1, (u.2.2.2.2.2.1, (u.2.2.2.2.2.2.1, 0))))))), rfl, ⟨hf1, hf2⟩, by rw [ht]; exact hP9, va_K.moved hW.alike hK, hD9⟩, hS.F ht⟩) hS.2.2 dX6_isSound_6
