set_option maxHeartbeats 4000000 in
set_option maxRecDepth 100000 in
theorem m_L_set (l : Launch) (hl0 : l.stackTraces = false) (D : va_G) (cC cI cJ : ClassId) (h0 h1 h2 h3 h4 h5 h6 h7 h8 : Nat) (u : SH) (sz : Nat) (a1 : Int32) (a2 : Int32) (a3 : Int32) (res : Int32 × SH) (hf : f_L_set u a1 a2 a3 = some res) : Met l yL_set wsL_set rmL_set (my_PcTM D vwCl (KT cC cI cJ) sz (wH cC cI cJ h0 h1 h2 h3 h4 h5 h6 h7 h8 u) [.ref h0, .int a1, .int a2, .int a3, .ref h8]) (va_Qi (fun r v => r = res.1 ∧ v = res.2) (my_B D vwCl (KT cC cI cJ) (va_A (wH cC cI cJ h0 h1 h2 h3 h4 h5 h6 h7 h8 u) sz) (fun v : SH => (wH cC cI cJ h0 h1 h2 h3 h4 h5 h6 h7 h8 v))) (va_A (wH cC cI cJ h0 h1 h2 h3 h4 h5 h6 h7 h8 u) sz)) 3 18 (va_A (wH cC cI cJ h0 h1 h2 h3 h4 h5 h6 h7 h8 u) sz) := by
  refine va_MetW (cc := cL_set) (maxL := 6) (ret := (some .int)) (by decide) rfl ?_
  intro p e s m args below meth c s₁ B hml hv
  obtain ⟨rfl, hsz, hP, hK, hD0, hXK⟩ := hv
  have hx := B.exec
  have hb := B.bytes
  have hr := B.returns
  have hts : ∀ w ∈ wsL_set, w.before ([.ref h0, .int a1, .int a2, .int a3, .ref h8] : List Value).toArray s = true := atoms_spec (ws := wsL_set) B.pre
  have hown : s.vm.findClass RL = some m.cls := findClass_of_methodNamed B.named
  have hlk : meth.locks = false := B.notSynchronized
  subst hsz
  have hD := hD0.self (sz := s.heap.size)
  generalize hAe : va_A (wH cC cI cJ h0 h1 h2 h3 h4 h5 h6 h7 h8 u) s.heap.size = A at hD ⊢
  have hA : ∀ q : Nat, s.heap.size ≤ q → A q := fun q h => by rw [← hAe]; exact Or.inr h
  have hS : va_S A s.heap s.heap [] := va_S.rf
  have hP : va_P D vwCl [(h0, .inr (4, [.ref h1, .ref h2, .ref h5])), (h1, .inl (cJ, 8, .inr (.inl u.1.1))), (h2, .inr (3, [.ref h3, .ref h4, .int u.1.2.1.2.2])), (h3, .inl (cC, 40, .inl u.1.2.1.1)), (h4, .inl (cI, 40, .inl u.1.2.1.2.1)), (h5, .inr (2, [.ref h6, .ref h7, .int u.1.2.2.2.2.1, .int u.1.2.2.2.2.2])), (h6, .inl (cI, 8, .inl u.1.2.2.1)), (h7, .inl (cJ, 8, .inr (.inl u.1.2.2.2.1))), (h8, .inl (cJ, 1, .inr (.inl u.2)))] s.heap := hP
  have hD : va_D A [(h0, .inr (4, [.ref h1, .ref h2, .ref h5])), (h1, .inl (cJ, 8, .inr (.inl u.1.1))), (h2, .inr (3, [.ref h3, .ref h4, .int u.1.2.1.2.2])), (h3, .inl (cC, 40, .inl u.1.2.1.1)), (h4, .inl (cI, 40, .inl u.1.2.1.2.1)), (h5, .inr (2, [.ref h6, .ref h7, .int u.1.2.2.2.2.1, .int u.1.2.2.2.2.2])), (h6, .inl (cI, 8, .inl u.1.2.2.1)), (h7, .inl (cJ, 8, .inr (.inl u.1.2.2.2.1))), (h8, .inl (cJ, 1, .inr (.inl u.2)))] := hD
  have q1 := hts (.classLink RL 13 "java/lang/IndexOutOfBoundsException") (by decide +kernel)
  have q2 := hts (.classLink RL 15 "java/lang/IllegalArgumentException") (by decide +kernel)
  have htab : c.exceptionTable.toList = tableOf [(0, 11, 14, 13), (0, 11, 18, 15)] := vx_table (x := yL_set) B (hts _ List.mem_cons_self)
  have hl := lv_entry ([.ref h0, .int a1, .int a2, .int a3, .ref h8]) (n := 6) (Nat.le_of_ble_eq_true rfl)
  rw [lg_entry_eq]
  generalize (lg_sl ([.ref h0, .int a1, .int a2, .int a3, .ref h8]) ++ List.replicate (6 - (lg_sl ([.ref h0, .int a1, .int a2, .int a3, .ref h8])).length) Slot.unset).toArray = ls at hl ⊢
  have hl : lv_has ls 6 [(0, .ref h0), (1, .int a1), (2, .int a2), (3, .int a3), (4, .ref h8)] := hl
  unfold f_L_set at hf
  refine lv_aload hx hb dL_set_0 (lv_at hl 4 rfl) ?_
  refine lv_iconst (v := 0) hx hb dL_set_2 (by decide) ?_
  refine lv_aload_n hx hb dL_set_3 rfl (lv_at hl 0 rfl) ?_
  refine lv_iload_n hx hb dL_set_4 rfl (lv_at hl 1 rfl) ?_
  refine lv_iload_n hx hb dL_set_5 rfl (lv_at hl 2 rfl) ?_
  refine lv_iload_n hx hb dL_set_6 rfl (lv_at hl 3 rfl) ?_
  obtain ⟨z1, ez1, hx9, hf⟩ := xh_e hf
  refine my_callXMl (As := [.int a1, .int a2, .int a3]) (n := 3) (rest := [.int 0, .ref h8]) (wr := [(h8, .inl (cJ, 1, .inr (.inl u.2)))]) ⟨hx, hb, hml, hown, hts⟩ hK hP hD hS hA hXK [0, 1, 2, 3, 4, 5, 6, 7] [8] rfl rfl (by decide) (by decide) (by decide) (m_X5_set l hl0 D cC cI cJ h0 h1 h2 h3 h4 h5 h6 h7 u.1 s.heap.size a1 a2 a3 _ ez1) gL_set_X5_set rfl ⟨rfl, rfl⟩ (ci := 4) rfl rfl (by decide +kernel) ⟨Nat.le_of_ble_eq_true rfl, Nat.le_of_ble_eq_true rfl⟩ ⟨Nat.le_of_ble_eq_true rfl, Nat.le_of_ble_eq_true rfl⟩ hl.1 rfl rfl (Nat.le_of_ble_eq_true rfl) dL_set_7 (fun E ce q9 H locs hE hk1 hS hce hcv hcl => ?_) (fun r9 u9 H locs hw hP hD hS => ?_)
  · have hf := hx9 E hE
    have hP := my_keep hP hk1
    by_cases c2 : E = "java/lang/IndexOutOfBoundsException"
    · rw [if_pos c2] at hf
      subst c2
      refine my_catch (hp := []) (z := (0, 11, 14, 13)) (hq0 := [(0, 11, 18, 15)]) (name := "java/lang/IndexOutOfBoundsException") hown htab (fun w hw => absurd hw List.not_mem_nil) (by decide) (by decide) q1 (hXK.2.2.1 _ (by decide +kernel)) hce hcv hcl ?_
      refine lv_astore (lv' := [(5, .ref q9), (0, .ref h0), (1, .int a1), (2, .int a2), (3, .int a3), (4, .ref h8)]) hx hb dL_set_14 hl (by decide) rfl (fun ls hl => ?_)
      refine lv_iconst (v := 1) hx hb dL_set_16 (by decide) ?_
      have hP9 : va_P D vwCl (wH cC cI cJ h0 h1 h2 h3 h4 h5 h6 h7 h8 u) _ := hP
      have hD9 : va_D A (wH cC cI cJ h0 h1 h2 h3 h4 h5 h6 h7 h8 u) := hD
      have hf := Option.some.inj hf
      have hf1 := congrArg Prod.fst hf
      have hf2 := congrArg Prod.snd hf
      exact W.iret (v := 1) hx hb hr (fun t ht hW => ⟨⟨1, u, rfl, ⟨hf1, hf2⟩, by rw [ht]; exact hP9, va_K.moved hW.alike hK, hD9⟩, hS.F ht⟩) hS.2.2 dL_set_17
    · rw [if_neg c2] at hf
      by_cases c3 : E = "java/lang/IllegalArgumentException"
      · rw [if_pos c3] at hf
        subst c3
        refine my_catch (hp := [(0, 11, 14, 13)]) (z := (0, 11, 18, 15)) (hq0 := []) (name := "java/lang/IllegalArgumentException") hown htab (fun w hw => by
          simp only [List.mem_cons, List.not_mem_nil, or_false] at hw
          rcases hw with rfl
          · exact ⟨by decide, "java/lang/IndexOutOfBoundsException", q1, hXK.2.2.2.2 ("java/lang/IllegalArgumentException", "java/lang/IndexOutOfBoundsException") (by decide +kernel)⟩) (by decide) (by decide) q2 (hXK.2.2.1 _ (by decide +kernel)) hce hcv hcl ?_
        refine lv_astore (lv' := [(5, .ref q9), (0, .ref h0), (1, .int a1), (2, .int a2), (3, .int a3), (4, .ref h8)]) hx hb dL_set_18 hl (by decide) rfl (fun ls hl => ?_)
        refine lv_iconst (v := 2) hx hb dL_set_20 (by decide) ?_
        have hP9 : va_P D vwCl (wH cC cI cJ h0 h1 h2 h3 h4 h5 h6 h7 h8 u) _ := hP
        have hD9 : va_D A (wH cC cI cJ h0 h1 h2 h3 h4 h5 h6 h7 h8 u) := hD
        have hf := Option.some.inj hf
        have hf1 := congrArg Prod.fst hf
        have hf2 := congrArg Prod.snd hf
        exact W.iret (v := 2) hx hb hr (fun t ht hW => ⟨⟨2, u, rfl, ⟨hf1, hf2⟩, by rw [ht]; exact hP9, va_K.moved hW.alike hK, hD9⟩, hS.F ht⟩) hS.2.2 dL_set_21
      · rw [if_neg c3] at hf
        cases hf
  · obtain ⟨z1, rfl, rfl, hz⟩ := hw
    have hf := hf _ hz
    have hP : va_P D vwCl [(h0, .inr (4, [.ref h1, .ref h2, .ref h5])), (h1, .inl (cJ, 8, .inr (.inl z1.2.1))), (h2, .inr (3, [.ref h3, .ref h4, .int z1.2.2.1.2.2])), (h3, .inl (cC, 40, .inl z1.2.2.1.1)), (h4, .inl (cI, 40, .inl z1.2.2.1.2.1)), (h5, .inr (2, [.ref h6, .ref h7, .int z1.2.2.2.2.2.1, .int z1.2.2.2.2.2.2])), (h6, .inl (cI, 8, .inl z1.2.2.2.1)), (h7, .inl (cJ, 8, .inr (.inl z1.2.2.2.2.1))), (h8, .inl (cJ, 1, .inr (.inl u.2)))] H := hP.sub [1, 2, 3, 4, 5, 6, 7, 8, 0] rfl
    have hD : va_D A [(h0, .inr (4, [.ref h1, .ref h2, .ref h5])), (h1, .inl (cJ, 8, .inr (.inl z1.2.1))), (h2, .inr (3, [.ref h3, .ref h4, .int z1.2.2.1.2.2])), (h3, .inl (cC, 40, .inl z1.2.2.1.1)), (h4, .inl (cI, 40, .inl z1.2.2.1.2.1)), (h5, .inr (2, [.ref h6, .ref h7, .int z1.2.2.2.2.2.1, .int z1.2.2.2.2.2.2])), (h6, .inl (cI, 8, .inl z1.2.2.2.1)), (h7, .inl (cJ, 8, .inr (.inl z1.2.2.2.2.1))), (h8, .inl (cJ, 1, .inr (.inl u.2)))] := hD.sub [1, 2, 3, 4, 5, 6, 7, 8, 0] (by decide) rfl
    refine va_last hx hb hK hP hD hS 8 2 rfl rfl (show ¬ ((0 : Int32) < 0 ∨ 1 ≤ (0 : Int32).toNatClampNeg) by decide) dL_set_10 (fun H locs hP hD hS => ?_)
    have hP : va_P D vwCl [(h0, .inr (4, [.ref h1, .ref h2, .ref h5])), (h1, .inl (cJ, 8, .inr (.inl z1.2.1))), (h2, .inr (3, [.ref h3, .ref h4, .int z1.2.2.1.2.2])), (h3, .inl (cC, 40, .inl z1.2.2.1.1)), (h4, .inl (cI, 40, .inl z1.2.2.1.2.1)), (h5, .inr (2, [.ref h6, .ref h7, .int z1.2.2.2.2.2.1, .int z1.2.2.2.2.2.2])), (h6, .inl (cI, 8, .inl z1.2.2.2.1)), (h7, .inl (cJ, 8, .inr (.inl z1.2.2.2.2.1))), (h8, .inl (cJ, 1, .inr (.inl (vp_updL u.2 (0 : Int32).toNatClampNeg z1.1))))] H := hP
    have hD : va_D A [(h0, .inr (4, [.ref h1, .ref h2, .ref h5])), (h1, .inl (cJ, 8, .inr (.inl z1.2.1))), (h2, .inr (3, [.ref h3, .ref h4, .int z1.2.2.1.2.2])), (h3, .inl (cC, 40, .inl z1.2.2.1.1)), (h4, .inl (cI, 40, .inl z1.2.2.1.2.1)), (h5, .inr (2, [.ref h6, .ref h7, .int z1.2.2.2.2.2.1, .int z1.2.2.2.2.2.2])), (h6, .inl (cI, 8, .inl z1.2.2.2.1)), (h7, .inl (cJ, 8, .inr (.inl z1.2.2.2.2.1))), (h8, .inl (cJ, 1, .inr (.inl (vp_updL u.2 (0 : Int32).toNatClampNeg z1.1))))] := hD
    refine lv_goto (tgt := 22) hx hb dL_set_11 (by decide) ?_
    refine lv_iconst (v := 0) hx hb dL_set_22 (by decide) ?_
    have hP9 : va_P D vwCl (wH cC cI cJ h0 h1 h2 h3 h4 h5 h6 h7 h8 (z1.2, (vp_updL u.2 (0 : Int32).toNatClampNeg z1.1))) _ := hP
    have hD9 : va_D A (wH cC cI cJ h0 h1 h2 h3 h4 h5 h6 h7 h8 (z1.2, (vp_updL u.2 (0 : Int32).toNatClampNeg z1.1))) := hD
    have hf := Option.some.inj hf
    have hf1 := congrArg Prod.fst hf
    have hf2 := congrArg Prod.snd hf
    exact W.iret (v := 0) hx hb hr (fun t ht hW => ⟨⟨0, (z1.2, (vp_updL u.2 (0 : Int32).toNatClampNeg z1.1)), rfl, ⟨hf1, hf2⟩, by rw [ht]; exact hP9, va_K.moved hW.alike hK, hD9⟩, hS.F ht⟩) hS.2.2 dL_set_23

set_option maxHeartbeats 4000000 in
set_option maxRecDepth 100000 in
theorem m_L_end (l : Launch) (hl0 : l.stackTraces = false) (D : va_G) (cC cI cJ : ClassId) (h0 h1 h2 h3 h4 h5 h6 h7 h8 : Nat) (u : SH) (sz : Nat) (a1 : Int32) (a2 : Bool) (res : Int32 × SH) (hf : f_L_end u a1 a2 = some res) : Met l yL_end wsL_end rmL_end (my_PcTM D vwCl (KT cC cI cJ) sz (wH cC cI cJ h0 h1 h2 h3 h4 h5 h6 h7 h8 u) [.ref h0, .int a1, .int (b2i a2), .ref h8]) (va_Qi (fun r v => r = res.1 ∧ v = res.2) (my_B D vwCl (KT cC cI cJ) (va_A (wH cC cI cJ h0 h1 h2 h3 h4 h5 h6 h7 h8 u) sz) (fun v : SH => (wH cC cI cJ h0 h1 h2 h3 h4 h5 h6 h7 h8 v))) (va_A (wH cC cI cJ h0 h1 h2 h3 h4 h5 h6 h7 h8 u) sz)) 1 6 (va_A (wH cC cI cJ h0 h1 h2 h3 h4 h5 h6 h7 h8 u) sz) := by
  refine va_MetW (cc := cL_end) (maxL := 5) (ret := (some .int)) (by decide) rfl ?_
  intro p e s m args below meth c s₁ B hml hv
  obtain ⟨rfl, hsz, hP, hK, hD0, hXK⟩ := hv
  have hx := B.exec
  have hb := B.bytes
  have hr := B.returns
  have hts : ∀ w ∈ wsL_end, w.before ([.ref h0, .int a1, .int (b2i a2), .ref h8] : List Value).toArray s = true := atoms_spec (ws := wsL_end) B.pre
  have hown : s.vm.findClass RL = some m.cls := findClass_of_methodNamed B.named
  have hlk : meth.locks = false := B.notSynchronized
  subst hsz
  have hD := hD0.self (sz := s.heap.size)
  generalize hAe : va_A (wH cC cI cJ h0 h1 h2 h3 h4 h5 h6 h7 h8 u) s.heap.size = A at hD ⊢
  have hA : ∀ q : Nat, s.heap.size ≤ q → A q := fun q h => by rw [← hAe]; exact Or.inr h
  have hS : va_S A s.heap s.heap [] := va_S.rf
  have hP : va_P D vwCl [(h0, .inr (4, [.ref h1, .ref h2, .ref h5])), (h1, .inl (cJ, 8, .inr (.inl u.1.1))), (h2, .inr (3, [.ref h3, .ref h4, .int u.1.2.1.2.2])), (h3, .inl (cC, 40, .inl u.1.2.1.1)), (h4, .inl (cI, 40, .inl u.1.2.1.2.1)), (h5, .inr (2, [.ref h6, .ref h7, .int u.1.2.2.2.2.1, .int u.1.2.2.2.2.2])), (h6, .inl (cI, 8, .inl u.1.2.2.1)), (h7, .inl (cJ, 8, .inr (.inl u.1.2.2.2.1))), (h8, .inl (cJ, 1, .inr (.inl u.2)))] s.heap := hP
  have hD : va_D A [(h0, .inr (4, [.ref h1, .ref h2, .ref h5])), (h1, .inl (cJ, 8, .inr (.inl u.1.1))), (h2, .inr (3, [.ref h3, .ref h4, .int u.1.2.1.2.2])), (h3, .inl (cC, 40, .inl u.1.2.1.1)), (h4, .inl (cI, 40, .inl u.1.2.1.2.1)), (h5, .inr (2, [.ref h6, .ref h7, .int u.1.2.2.2.2.1, .int u.1.2.2.2.2.2])), (h6, .inl (cI, 8, .inl u.1.2.2.1)), (h7, .inl (cJ, 8, .inr (.inl u.1.2.2.2.1))), (h8, .inl (cJ, 1, .inr (.inl u.2)))] := hD
  have q1 := hts (.classLink RL 13 "java/lang/IndexOutOfBoundsException") (by decide +kernel)
  have htab : c.exceptionTable.toList = tableOf [(0, 9, 12, 13)] := vx_table (x := yL_end) B (hts _ List.mem_cons_self)
  have hl := lv_entry ([.ref h0, .int a1, .int (b2i a2), .ref h8]) (n := 5) (Nat.le_of_ble_eq_true rfl)
  rw [lg_entry_eq]
  generalize (lg_sl ([.ref h0, .int a1, .int (b2i a2), .ref h8]) ++ List.replicate (5 - (lg_sl ([.ref h0, .int a1, .int (b2i a2), .ref h8])).length) Slot.unset).toArray = ls at hl ⊢
  have hl : lv_has ls 5 [(0, .ref h0), (1, .int a1), (2, .int (b2i a2)), (3, .ref h8)] := hl
  unfold f_L_end at hf
  refine lv_aload_n hx hb dL_end_0 rfl (lv_at hl 3 rfl) ?_
  refine lv_iconst (v := 0) hx hb dL_end_1 (by decide) ?_
  refine lv_aload_n hx hb dL_end_2 rfl (lv_at hl 0 rfl) ?_
  refine lv_iload_n hx hb dL_end_3 rfl (lv_at hl 1 rfl) ?_
  refine lv_iload_n hx hb dL_end_4 rfl (lv_at hl 2 rfl) ?_
  obtain ⟨z1, ez1, hx9, hf⟩ := xh_e hf
  refine my_callXMl (As := [.int a1, .int (b2i a2)]) (n := 2) (rest := [.int 0, .ref h8]) (wr := [(h8, .inl (cJ, 1, .inr (.inl u.2)))]) ⟨hx, hb, hml, hown, hts⟩ hK hP hD hS hA hXK [0, 1, 2, 3, 4, 5, 6, 7] [8] rfl rfl (by decide) (by decide) (by decide) (m_X5_end l hl0 D cC cI cJ h0 h1 h2 h3 h4 h5 h6 h7 u.1 s.heap.size a1 a2 _ ez1) gL_end_X5_end rfl ⟨rfl, rfl⟩ (ci := 4) rfl rfl (by decide +kernel) ⟨Nat.le_of_ble_eq_true rfl, Nat.le_of_ble_eq_true rfl⟩ ⟨Nat.le_of_ble_eq_true rfl, Nat.le_of_ble_eq_true rfl⟩ hl.1 rfl rfl (Nat.le_of_ble_eq_true rfl) dL_end_5 (fun E ce q9 H locs hE hk1 hS hce hcv hcl => ?_) (fun r9 u9 H locs hw hP hD hS => ?_)
  · have hf := hx9 E hE
    have hP := my_keep hP hk1
    by_cases c2 : E = "java/lang/IndexOutOfBoundsException"
    · rw [if_pos c2] at hf
      subst c2
      refine my_catch (hp := []) (z := (0, 9, 12, 13)) (hq0 := []) (name := "java/lang/IndexOutOfBoundsException") hown htab (fun w hw => absurd hw List.not_mem_nil) (by decide) (by decide) q1 (hXK.2.2.1 _ (by decide +kernel)) hce hcv hcl ?_
      refine lv_astore (lv' := [(4, .ref q9), (0, .ref h0), (1, .int a1), (2, .int (b2i a2)), (3, .ref h8)]) hx hb dL_end_12 hl (by decide) rfl (fun ls hl => ?_)
      refine lv_iconst (v := 1) hx hb dL_end_14 (by decide) ?_
      have hP9 : va_P D vwCl (wH cC cI cJ h0 h1 h2 h3 h4 h5 h6 h7 h8 u) _ := hP
      have hD9 : va_D A (wH cC cI cJ h0 h1 h2 h3 h4 h5 h6 h7 h8 u) := hD
      have hf := Option.some.inj hf
      have hf1 := congrArg Prod.fst hf
      have hf2 := congrArg Prod.snd hf
      exact W.iret (v := 1) hx hb hr (fun t ht hW => ⟨⟨1, u, rfl, ⟨hf1, hf2⟩, by rw [ht]; exact hP9, va_K.moved hW.alike hK, hD9⟩, hS.F ht⟩) hS.2.2 dL_end_15
    · rw [if_neg c2] at hf
      cases hf
  · obtain ⟨z1, rfl, rfl, hz⟩ := hw
    have hf := hf _ hz
    have hP : va_P D vwCl [(h0, .inr (4, [.ref h1, .ref h2, .ref h5])), (h1, .inl (cJ, 8, .inr (.inl z1.2.1))), (h2, .inr (3, [.ref h3, .ref h4, .int z1.2.2.1.2.2])), (h3, .inl (cC, 40, .inl z1.2.2.1.1)), (h4, .inl (cI, 40, .inl z1.2.2.1.2.1)), (h5, .inr (2, [.ref h6, .ref h7, .int z1.2.2.2.2.2.1, .int z1.2.2.2.2.2.2])), (h6, .inl (cI, 8, .inl z1.2.2.2.1)), (h7, .inl (cJ, 8, .inr (.inl z1.2.2.2.2.1))), (h8, .inl (cJ, 1, .inr (.inl u.2)))] H := hP.sub [1, 2, 3, 4, 5, 6, 7, 8, 0] rfl
    have hD : va_D A [(h0, .inr (4, [.ref h1, .ref h2, .ref h5])), (h1, .inl (cJ, 8, .inr (.inl z1.2.1))), (h2, .inr (3, [.ref h3, .ref h4, .int z1.2.2.1.2.2])), (h3, .inl (cC, 40, .inl z1.2.2.1.1)), (h4, .inl (cI, 40, .inl z1.2.2.1.2.1)), (h5, .inr (2, [.ref h6, .ref h7, .int z1.2.2.2.2.2.1, .int z1.2.2.2.2.2.2])), (h6, .inl (cI, 8, .inl z1.2.2.2.1)), (h7, .inl (cJ, 8, .inr (.inl z1.2.2.2.2.1))), (h8, .inl (cJ, 1, .inr (.inl u.2)))] := hD.sub [1, 2, 3, 4, 5, 6, 7, 8, 0] (by decide) rfl
    refine va_last hx hb hK hP hD hS 8 2 rfl rfl (show ¬ ((0 : Int32) < 0 ∨ 1 ≤ (0 : Int32).toNatClampNeg) by decide) dL_end_8 (fun H locs hP hD hS => ?_)
    have hP : va_P D vwCl [(h0, .inr (4, [.ref h1, .ref h2, .ref h5])), (h1, .inl (cJ, 8, .inr (.inl z1.2.1))), (h2, .inr (3, [.ref h3, .ref h4, .int z1.2.2.1.2.2])), (h3, .inl (cC, 40, .inl z1.2.2.1.1)), (h4, .inl (cI, 40, .inl z1.2.2.1.2.1)), (h5, .inr (2, [.ref h6, .ref h7, .int z1.2.2.2.2.2.1, .int z1.2.2.2.2.2.2])), (h6, .inl (cI, 8, .inl z1.2.2.2.1)), (h7, .inl (cJ, 8, .inr (.inl z1.2.2.2.2.1))), (h8, .inl (cJ, 1, .inr (.inl (vp_updL u.2 (0 : Int32).toNatClampNeg z1.1))))] H := hP
    have hD : va_D A [(h0, .inr (4, [.ref h1, .ref h2, .ref h5])), (h1, .inl (cJ, 8, .inr (.inl z1.2.1))), (h2, .inr (3, [.ref h3, .ref h4, .int z1.2.2.1.2.2])), (h3, .inl (cC, 40, .inl z1.2.2.1.1)), (h4, .inl (cI, 40, .inl z1.2.2.1.2.1)), (h5, .inr (2, [.ref h6, .ref h7, .int z1.2.2.2.2.2.1, .int z1.2.2.2.2.2.2])), (h6, .inl (cI, 8, .inl z1.2.2.2.1)), (h7, .inl (cJ, 8, .inr (.inl z1.2.2.2.2.1))), (h8, .inl (cJ, 1, .inr (.inl (vp_updL u.2 (0 : Int32).toNatClampNeg z1.1))))] := hD
    refine lv_goto (tgt := 16) hx hb dL_end_9 (by decide) ?_
    refine lv_iconst (v := 0) hx hb dL_end_16 (by decide) ?_
    have hP9 : va_P D vwCl (wH cC cI cJ h0 h1 h2 h3 h4 h5 h6 h7 h8 (z1.2, (vp_updL u.2 (0 : Int32).toNatClampNeg z1.1))) _ := hP
    have hD9 : va_D A (wH cC cI cJ h0 h1 h2 h3 h4 h5 h6 h7 h8 (z1.2, (vp_updL u.2 (0 : Int32).toNatClampNeg z1.1))) := hD
    have hf := Option.some.inj hf
    have hf1 := congrArg Prod.fst hf
    have hf2 := congrArg Prod.snd hf
    exact W.iret (v := 0) hx hb hr (fun t ht hW => ⟨⟨0, (z1.2, (vp_updL u.2 (0 : Int32).toNatClampNeg z1.1)), rfl, ⟨hf1, hf2⟩, by rw [ht]; exact hP9, va_K.moved hW.alike hK, hD9⟩, hS.F ht⟩) hS.2.2 dL_end_17

set_option maxHeartbeats 4000000 in
set_option maxRecDepth 100000 in
theorem m_L_copy (l : Launch) (hl0 : l.stackTraces = false) (D : va_G) (cC cI cJ : ClassId) (h0 h1 h2 h3 h4 h5 h6 h7 h8 : Nat) (u : SH) (sz : Nat) (a1 : Int32) (a2 : Int32) (res : Int32 × SH) (hf : f_L_copy u a1 a2 = some res) : Met l yL_copy wsL_copy rmL_copy (my_PcTM D vwCl (KT cC cI cJ) sz (wH cC cI cJ h0 h1 h2 h3 h4 h5 h6 h7 h8 u) [.ref h0, .int a1, .int a2, .ref h8]) (va_Qi (fun r v => r = res.1 ∧ v = res.2) (my_B D vwCl (KT cC cI cJ) (va_A (wH cC cI cJ h0 h1 h2 h3 h4 h5 h6 h7 h8 u) sz) (fun v : SH => (wH cC cI cJ h0 h1 h2 h3 h4 h5 h6 h7 h8 v))) (va_A (wH cC cI cJ h0 h1 h2 h3 h4 h5 h6 h7 h8 u) sz)) 2 12 (va_A (wH cC cI cJ h0 h1 h2 h3 h4 h5 h6 h7 h8 u) sz) := by
  refine va_MetW (cc := cL_copy) (maxL := 5) (ret := (some .int)) (by decide) rfl ?_
  intro p e s m args below meth c s₁ B hml hv
  obtain ⟨rfl, hsz, hP, hK, hD0, hXK⟩ := hv
  have hx := B.exec
  have hb := B.bytes
  have hr := B.returns
  have hts : ∀ w ∈ wsL_copy, w.before ([.ref h0, .int a1, .int a2, .ref h8] : List Value).toArray s = true := atoms_spec (ws := wsL_copy) B.pre
  have hown : s.vm.findClass RL = some m.cls := findClass_of_methodNamed B.named
  have hlk : meth.locks = false := B.notSynchronized
  subst hsz
  have hD := hD0.self (sz := s.heap.size)
  generalize hAe : va_A (wH cC cI cJ h0 h1 h2 h3 h4 h5 h6 h7 h8 u) s.heap.size = A at hD ⊢
  have hA : ∀ q : Nat, s.heap.size ≤ q → A q := fun q h => by rw [← hAe]; exact Or.inr h
  have hS : va_S A s.heap s.heap [] := va_S.rf
  have hP : va_P D vwCl [(h0, .inr (4, [.ref h1, .ref h2, .ref h5])), (h1, .inl (cJ, 8, .inr (.inl u.1.1))), (h2, .inr (3, [.ref h3, .ref h4, .int u.1.2.1.2.2])), (h3, .inl (cC, 40, .inl u.1.2.1.1)), (h4, .inl (cI, 40, .inl u.1.2.1.2.1)), (h5, .inr (2, [.ref h6, .ref h7, .int u.1.2.2.2.2.1, .int u.1.2.2.2.2.2])), (h6, .inl (cI, 8, .inl u.1.2.2.1)), (h7, .inl (cJ, 8, .inr (.inl u.1.2.2.2.1))), (h8, .inl (cJ, 1, .inr (.inl u.2)))] s.heap := hP
  have hD : va_D A [(h0, .inr (4, [.ref h1, .ref h2, .ref h5])), (h1, .inl (cJ, 8, .inr (.inl u.1.1))), (h2, .inr (3, [.ref h3, .ref h4, .int u.1.2.1.2.2])), (h3, .inl (cC, 40, .inl u.1.2.1.1)), (h4, .inl (cI, 40, .inl u.1.2.1.2.1)), (h5, .inr (2, [.ref h6, .ref h7, .int u.1.2.2.2.2.1, .int u.1.2.2.2.2.2])), (h6, .inl (cI, 8, .inl u.1.2.2.1)), (h7, .inl (cJ, 8, .inr (.inl u.1.2.2.2.1))), (h8, .inl (cJ, 1, .inr (.inl u.2)))] := hD
  have q1 := hts (.classLink RL 13 "java/lang/IndexOutOfBoundsException") (by decide +kernel)
  have htab : c.exceptionTable.toList = tableOf [(0, 9, 12, 13)] := vx_table (x := yL_copy) B (hts _ List.mem_cons_self)
  have hl := lv_entry ([.ref h0, .int a1, .int a2, .ref h8]) (n := 5) (Nat.le_of_ble_eq_true rfl)
  rw [lg_entry_eq]
  generalize (lg_sl ([.ref h0, .int a1, .int a2, .ref h8]) ++ List.replicate (5 - (lg_sl ([.ref h0, .int a1, .int a2, .ref h8])).length) Slot.unset).toArray = ls at hl ⊢
  have hl : lv_has ls 5 [(0, .ref h0), (1, .int a1), (2, .int a2), (3, .ref h8)] := hl
  unfold f_L_copy at hf
  refine lv_aload_n hx hb dL_copy_0 rfl (lv_at hl 3 rfl) ?_
  refine lv_iconst (v := 0) hx hb dL_copy_1 (by decide) ?_
  refine lv_aload_n hx hb dL_copy_2 rfl (lv_at hl 0 rfl) ?_
  refine lv_iload_n hx hb dL_copy_3 rfl (lv_at hl 1 rfl) ?_
  refine lv_iload_n hx hb dL_copy_4 rfl (lv_at hl 2 rfl) ?_
  obtain ⟨z1, ez1, hx9, hf⟩ := xh_e hf
  refine my_callXMl (As := [.int a1, .int a2]) (n := 2) (rest := [.int 0, .ref h8]) (wr := [(h8, .inl (cJ, 1, .inr (.inl u.2)))]) ⟨hx, hb, hml, hown, hts⟩ hK hP hD hS hA hXK [0, 1, 2, 3, 4, 5, 6, 7] [8] rfl rfl (by decide) (by decide) (by decide) (m_X5_copy l hl0 D cC cI cJ h0 h1 h2 h3 h4 h5 h6 h7 u.1 s.heap.size a1 a2 _ ez1) gL_copy_X5_copy rfl ⟨rfl, rfl⟩ (ci := 4) rfl rfl (by decide +kernel) ⟨Nat.le_of_ble_eq_true rfl, Nat.le_of_ble_eq_true rfl⟩ ⟨Nat.le_of_ble_eq_true rfl, Nat.le_of_ble_eq_true rfl⟩ hl.1 rfl rfl (Nat.le_of_ble_eq_true rfl) dL_copy_5 (fun E ce q9 H locs hE hk1 hS hce hcv hcl => ?_) (fun r9 u9 H locs hw hP hD hS => ?_)
  · have hf := hx9 E hE
    have hP := my_keep hP hk1
    by_cases c2 : E = "java/lang/IndexOutOfBoundsException"
    · rw [if_pos c2] at hf
      subst c2
      refine my_catch (hp := []) (z := (0, 9, 12, 13)) (hq0 := []) (name := "java/lang/IndexOutOfBoundsException") hown htab (fun w hw => absurd hw List.not_mem_nil) (by decide) (by decide) q1 (hXK.2.2.1 _ (by decide +kernel)) hce hcv hcl ?_
      refine lv_astore (lv' := [(4, .ref q9), (0, .ref h0), (1, .int a1), (2, .int a2), (3, .ref h8)]) hx hb dL_copy_12 hl (by decide) rfl (fun ls hl => ?_)
      refine lv_iconst (v := 1) hx hb dL_copy_14 (by decide) ?_
      have hP9 : va_P D vwCl (wH cC cI cJ h0 h1 h2 h3 h4 h5 h6 h7 h8 u) _ := hP
      have hD9 : va_D A (wH cC cI cJ h0 h1 h2 h3 h4 h5 h6 h7 h8 u) := hD
      have hf := Option.some.inj hf
      have hf1 := congrArg Prod.fst hf
      have hf2 := congrArg Prod.snd hf
      exact W.iret (v := 1) hx hb hr (fun t ht hW => ⟨⟨1, u, rfl, ⟨hf1, hf2⟩, by rw [ht]; exact hP9, va_K.moved hW.alike hK, hD9⟩, hS.F ht⟩) hS.2.2 dL_copy_15
    · rw [if_neg c2] at hf
      cases hf
  · obtain ⟨z1, rfl, rfl, hz⟩ := hw
    have hf := hf _ hz
    have hP : va_P D vwCl [(h0, .inr (4, [.ref h1, .ref h2, .ref h5])), (h1, .inl (cJ, 8, .inr (.inl z1.2.1))), (h2, .inr (3, [.ref h3, .ref h4, .int z1.2.2.1.2.2])), (h3, .inl (cC, 40, .inl z1.2.2.1.1)), (h4, .inl (cI, 40, .inl z1.2.2.1.2.1)), (h5, .inr (2, [.ref h6, .ref h7, .int z1.2.2.2.2.2.1, .int z1.2.2.2.2.2.2])), (h6, .inl (cI, 8, .inl z1.2.2.2.1)), (h7, .inl (cJ, 8, .inr (.inl z1.2.2.2.2.1))), (h8, .inl (cJ, 1, .inr (.inl u.2)))] H := hP.sub [1, 2, 3, 4, 5, 6, 7, 8, 0] rfl
    have hD : va_D A [(h0, .inr (4, [.ref h1, .ref h2, .ref h5])), (h1, .inl (cJ, 8, .inr (.inl z1.2.1))), (h2, .inr (3, [.ref h3, .ref h4, .int z1.2.2.1.2.2])), (h3, .inl (cC, 40, .inl z1.2.2.1.1)), (h4, .inl (cI, 40, .inl z1.2.2.1.2.1)), (h5, .inr (2, [.ref h6, .ref h7, .int z1.2.2.2.2.2.1, .int z1.2.2.2.2.2.2])), (h6, .inl (cI, 8, .inl z1.2.2.2.1)), (h7, .inl (cJ, 8, .inr (.inl z1.2.2.2.2.1))), (h8, .inl (cJ, 1, .inr (.inl u.2)))] := hD.sub [1, 2, 3, 4, 5, 6, 7, 8, 0] (by decide) rfl
    refine va_last hx hb hK hP hD hS 8 2 rfl rfl (show ¬ ((0 : Int32) < 0 ∨ 1 ≤ (0 : Int32).toNatClampNeg) by decide) dL_copy_8 (fun H locs hP hD hS => ?_)
    have hP : va_P D vwCl [(h0, .inr (4, [.ref h1, .ref h2, .ref h5])), (h1, .inl (cJ, 8, .inr (.inl z1.2.1))), (h2, .inr (3, [.ref h3, .ref h4, .int z1.2.2.1.2.2])), (h3, .inl (cC, 40, .inl z1.2.2.1.1)), (h4, .inl (cI, 40, .inl z1.2.2.1.2.1)), (h5, .inr (2, [.ref h6, .ref h7, .int z1.2.2.2.2.2.1, .int z1.2.2.2.2.2.2])), (h6, .inl (cI, 8, .inl z1.2.2.2.1)), (h7, .inl (cJ, 8, .inr (.inl z1.2.2.2.2.1))), (h8, .inl (cJ, 1, .inr (.inl (vp_updL u.2 (0 : Int32).toNatClampNeg z1.1))))] H := hP
    have hD : va_D A [(h0, .inr (4, [.ref h1, .ref h2, .ref h5])), (h1, .inl (cJ, 8, .inr (.inl z1.2.1))), (h2, .inr (3, [.ref h3, .ref h4, .int z1.2.2.1.2.2])), (h3, .inl (cC, 40, .inl z1.2.2.1.1)), (h4, .inl (cI, 40, .inl z1.2.2.1.2.1)), (h5, .inr (2, [.ref h6, .ref h7, .int z1.2.2.2.2.2.1, .int z1.2.2.2.2.2.2])), (h6, .inl (cI, 8, .inl z1.2.2.2.1)), (h7, .inl (cJ, 8, .inr (.inl z1.2.2.2.2.1))), (h8, .inl (cJ, 1, .inr (.inl (vp_updL u.2 (0 : Int32).toNatClampNeg z1.1))))] := hD
    refine lv_goto (tgt := 16) hx hb dL_copy_9 (by decide) ?_
    refine lv_iconst (v := 0) hx hb dL_copy_16 (by decide) ?_
    have hP9 : va_P D vwCl (wH cC cI cJ h0 h1 h2 h3 h4 h5 h6 h7 h8 (z1.2, (vp_updL u.2 (0 : Int32).toNatClampNeg z1.1))) _ := hP
    have hD9 : va_D A (wH cC cI cJ h0 h1 h2 h3 h4 h5 h6 h7 h8 (z1.2, (vp_updL u.2 (0 : Int32).toNatClampNeg z1.1))) := hD
    have hf := Option.some.inj hf
    have hf1 := congrArg Prod.fst hf
    have hf2 := congrArg Prod.snd hf
    exact W.iret (v := 0) hx hb hr (fun t ht hW => ⟨⟨0, (z1.2, (vp_updL u.2 (0 : Int32).toNatClampNeg z1.1)), rfl, ⟨hf1, hf2⟩, by rw [ht]; exact hP9, va_K.moved hW.alike hK, hD9⟩, hS.F ht⟩) hS.2.2 dL_copy_17

set_option maxHeartbeats 4000000 in
set_option maxRecDepth 100000 in
theorem m_L_negate (l : Launch) (hl0 : l.stackTraces = false) (D : va_G) (cC cI cJ : ClassId) (h0 h1 h2 h3 h4 h5 h6 h7 h8 : Nat) (u : SH) (sz : Nat) (a1 : Int32) (a2 : Int32) (res : Int32 × SH) (hf : f_L_negate u a1 a2 = some res) : Met l yL_negate wsL_negate rmL_negate (my_PcTM D vwCl (KT cC cI cJ) sz (wH cC cI cJ h0 h1 h2 h3 h4 h5 h6 h7 h8 u) [.ref h0, .int a1, .int a2, .ref h8]) (va_Qi (fun r v => r = res.1 ∧ v = res.2) (my_B D vwCl (KT cC cI cJ) (va_A (wH cC cI cJ h0 h1 h2 h3 h4 h5 h6 h7 h8 u) sz) (fun v : SH => (wH cC cI cJ h0 h1 h2 h3 h4 h5 h6 h7 h8 v))) (va_A (wH cC cI cJ h0 h1 h2 h3 h4 h5 h6 h7 h8 u) sz)) 2 12 (va_A (wH cC cI cJ h0 h1 h2 h3 h4 h5 h6 h7 h8 u) sz) := by
  refine va_MetW (cc := cL_negate) (maxL := 5) (ret := (some .int)) (by decide) rfl ?_
  intro p e s m args below meth c s₁ B hml hv
  obtain ⟨rfl, hsz, hP, hK, hD0, hXK⟩ := hv
  have hx := B.exec
  have hb := B.bytes
  have hr := B.returns
  have hts : ∀ w ∈ wsL_negate, w.before ([.ref h0, .int a1, .int a2, .ref h8] : List Value).toArray s = true := atoms_spec (ws := wsL_negate) B.pre
  have hown : s.vm.findClass RL = some m.cls := findClass_of_methodNamed B.named
  have hlk : meth.locks = false := B.notSynchronized
  subst hsz
  have hD := hD0.self (sz := s.heap.size)
  generalize hAe : va_A (wH cC cI cJ h0 h1 h2 h3 h4 h5 h6 h7 h8 u) s.heap.size = A at hD ⊢
  have hA : ∀ q : Nat, s.heap.size ≤ q → A q := fun q h => by rw [← hAe]; exact Or.inr h
  have hS : va_S A s.heap s.heap [] := va_S.rf
  have hP : va_P D vwCl [(h0, .inr (4, [.ref h1, .ref h2, .ref h5])), (h1, .inl (cJ, 8, .inr (.inl u.1.1))), (h2, .inr (3, [.ref h3, .ref h4, .int u.1.2.1.2.2])), (h3, .inl (cC, 40, .inl u.1.2.1.1)), (h4, .inl (cI, 40, .inl u.1.2.1.2.1)), (h5, .inr (2, [.ref h6, .ref h7, .int u.1.2.2.2.2.1, .int u.1.2.2.2.2.2])), (h6, .inl (cI, 8, .inl u.1.2.2.1)), (h7, .inl (cJ, 8, .inr (.inl u.1.2.2.2.1))), (h8, .inl (cJ, 1, .inr (.inl u.2)))] s.heap := hP
  have hD : va_D A [(h0, .inr (4, [.ref h1, .ref h2, .ref h5])), (h1, .inl (cJ, 8, .inr (.inl u.1.1))), (h2, .inr (3, [.ref h3, .ref h4, .int u.1.2.1.2.2])), (h3, .inl (cC, 40, .inl u.1.2.1.1)), (h4, .inl (cI, 40, .inl u.1.2.1.2.1)), (h5, .inr (2, [.ref h6, .ref h7, .int u.1.2.2.2.2.1, .int u.1.2.2.2.2.2])), (h6, .inl (cI, 8, .inl u.1.2.2.1)), (h7, .inl (cJ, 8, .inr (.inl u.1.2.2.2.1))), (h8, .inl (cJ, 1, .inr (.inl u.2)))] := hD
  have q1 := hts (.classLink RL 13 "java/lang/IndexOutOfBoundsException") (by decide +kernel)
  have htab : c.exceptionTable.toList = tableOf [(0, 9, 12, 13)] := vx_table (x := yL_negate) B (hts _ List.mem_cons_self)
  have hl := lv_entry ([.ref h0, .int a1, .int a2, .ref h8]) (n := 5) (Nat.le_of_ble_eq_true rfl)
  rw [lg_entry_eq]
  generalize (lg_sl ([.ref h0, .int a1, .int a2, .ref h8]) ++ List.replicate (5 - (lg_sl ([.ref h0, .int a1, .int a2, .ref h8])).length) Slot.unset).toArray = ls at hl ⊢
  have hl : lv_has ls 5 [(0, .ref h0), (1, .int a1), (2, .int a2), (3, .ref h8)] := hl
  unfold f_L_negate at hf
  refine lv_aload_n hx hb dL_negate_0 rfl (lv_at hl 3 rfl) ?_
  refine lv_iconst (v := 0) hx hb dL_negate_1 (by decide) ?_
  refine lv_aload_n hx hb dL_negate_2 rfl (lv_at hl 0 rfl) ?_
  refine lv_iload_n hx hb dL_negate_3 rfl (lv_at hl 1 rfl) ?_
  refine lv_iload_n hx hb dL_negate_4 rfl (lv_at hl 2 rfl) ?_
  obtain ⟨z1, ez1, hx9, hf⟩ := xh_e hf
  refine my_callXMl (As := [.int a1, .int a2]) (n := 2) (rest := [.int 0, .ref h8]) (wr := [(h8, .inl (cJ, 1, .inr (.inl u.2)))]) ⟨hx, hb, hml, hown, hts⟩ hK hP hD hS hA hXK [0, 1, 2, 3, 4, 5, 6, 7] [8] rfl rfl (by decide) (by decide) (by decide) (m_X5_negate l hl0 D cC cI cJ h0 h1 h2 h3 h4 h5 h6 h7 u.1 s.heap.size a1 a2 _ ez1) gL_negate_X5_negate rfl ⟨rfl, rfl⟩ (ci := 4) rfl rfl (by decide +kernel) ⟨Nat.le_of_ble_eq_true rfl, Nat.le_of_ble_eq_true rfl⟩ ⟨Nat.le_of_ble_eq_true rfl, Nat.le_of_ble_eq_true rfl⟩ hl.1 rfl rfl (Nat.le_of_ble_eq_true rfl) dL_negate_5 (fun E ce q9 H locs hE hk1 hS hce hcv hcl => ?_) (fun r9 u9 H locs hw hP hD hS => ?_)
  · have hf := hx9 E hE
    have hP := my_keep hP hk1
    by_cases c2 : E = "java/lang/IndexOutOfBoundsException"
    · rw [if_pos c2] at hf
      subst c2
      refine my_catch (hp := []) (z := (0, 9, 12, 13)) (hq0 := []) (name := "java/lang/IndexOutOfBoundsException") hown htab (fun w hw => absurd hw List.not_mem_nil) (by decide) (by decide) q1 (hXK.2.2.1 _ (by decide +kernel)) hce hcv hcl ?_
      refine lv_astore (lv' := [(4, .ref q9), (0, .ref h0), (1, .int a1), (2, .int a2), (3, .ref h8)]) hx hb dL_negate_12 hl (by decide) rfl (fun ls hl => ?_)
      refine lv_iconst (v := 1) hx hb dL_negate_14 (by decide) ?_
      have hP9 : va_P D vwCl (wH cC cI cJ h0 h1 h2 h3 h4 h5 h6 h7 h8 u) _ := hP
      have hD9 : va_D A (wH cC cI cJ h0 h1 h2 h3 h4 h5 h6 h7 h8 u) := hD
      have hf := Option.some.inj hf
      have hf1 := congrArg Prod.fst hf
      have hf2 := congrArg Prod.snd hf
      exact W.iret (v := 1) hx hb hr (fun t ht hW => ⟨⟨1, u, rfl, ⟨hf1, hf2⟩, by rw [ht]; exact hP9, va_K.moved hW.alike hK, hD9⟩, hS.F ht⟩) hS.2.2 dL_negate_15
    · rw [if_neg c2] at hf
      cases hf
  · obtain ⟨z1, rfl, rfl, hz⟩ := hw
    have hf := hf _ hz
    have hP : va_P D vwCl [(h0, .inr (4, [.ref h1, .ref h2, .ref h5])), (h1, .inl (cJ, 8, .inr (.inl z1.2.1))), (h2, .inr (3, [.ref h3, .ref h4, .int z1.2.2.1.2.2])), (h3, .inl (cC, 40, .inl z1.2.2.1.1)), (h4, .inl (cI, 40, .inl z1.2.2.1.2.1)), (h5, .inr (2, [.ref h6, .ref h7, .int z1.2.2.2.2.2.1, .int z1.2.2.2.2.2.2])), (h6, .inl (cI, 8, .inl z1.2.2.2.1)), (h7, .inl (cJ, 8, .inr (.inl z1.2.2.2.2.1))), (h8, .inl (cJ, 1, .inr (.inl u.2)))] H := hP.sub [1, 2, 3, 4, 5, 6, 7, 8, 0] rfl
    have hD : va_D A [(h0, .inr (4, [.ref h1, .ref h2, .ref h5])), (h1, .inl (cJ, 8, .inr (.inl z1.2.1))), (h2, .inr (3, [.ref h3, .ref h4, .int z1.2.2.1.2.2])), (h3, .inl (cC, 40, .inl z1.2.2.1.1)), (h4, .inl (cI, 40, .inl z1.2.2.1.2.1)), (h5, .inr (2, [.ref h6, .ref h7, .int z1.2.2.2.2.2.1, .int z1.2.2.2.2.2.2])), (h6, .inl (cI, 8, .inl z1.2.2.2.1)), (h7, .inl (cJ, 8, .inr (.inl z1.2.2.2.2.1))), (h8, .inl (cJ, 1, .inr (.inl u.2)))] := hD.sub [1, 2, 3, 4, 5, 6, 7, 8, 0] (by decide) rfl
    refine va_last hx hb hK hP hD hS 8 2 rfl rfl (show ¬ ((0 : Int32) < 0 ∨ 1 ≤ (0 : Int32).toNatClampNeg) by decide) dL_negate_8 (fun H locs hP hD hS => ?_)
    have hP : va_P D vwCl [(h0, .inr (4, [.ref h1, .ref h2, .ref h5])), (h1, .inl (cJ, 8, .inr (.inl z1.2.1))), (h2, .inr (3, [.ref h3, .ref h4, .int z1.2.2.1.2.2])), (h3, .inl (cC, 40, .inl z1.2.2.1.1)), (h4, .inl (cI, 40, .inl z1.2.2.1.2.1)), (h5, .inr (2, [.ref h6, .ref h7, .int z1.2.2.2.2.2.1, .int z1.2.2.2.2.2.2])), (h6, .inl (cI, 8, .inl z1.2.2.2.1)), (h7, .inl (cJ, 8, .inr (.inl z1.2.2.2.2.1))), (h8, .inl (cJ, 1, .inr (.inl (vp_updL u.2 (0 : Int32).toNatClampNeg z1.1))))] H := hP
    have hD : va_D A [(h0, .inr (4, [.ref h1, .ref h2, .ref h5])), (h1, .inl (cJ, 8, .inr (.inl z1.2.1))), (h2, .inr (3, [.ref h3, .ref h4, .int z1.2.2.1.2.2])), (h3, .inl (cC, 40, .inl z1.2.2.1.1)), (h4, .inl (cI, 40, .inl z1.2.2.1.2.1)), (h5, .inr (2, [.ref h6, .ref h7, .int z1.2.2.2.2.2.1, .int z1.2.2.2.2.2.2])), (h6, .inl (cI, 8, .inl z1.2.2.2.1)), (h7, .inl (cJ, 8, .inr (.inl z1.2.2.2.2.1))), (h8, .inl (cJ, 1, .inr (.inl (vp_updL u.2 (0 : Int32).toNatClampNeg z1.1))))] := hD
    refine lv_goto (tgt := 16) hx hb dL_negate_9 (by decide) ?_
    refine lv_iconst (v := 0) hx hb dL_negate_16 (by decide) ?_
    have hP9 : va_P D vwCl (wH cC cI cJ h0 h1 h2 h3 h4 h5 h6 h7 h8 (z1.2, (vp_updL u.2 (0 : Int32).toNatClampNeg z1.1))) _ := hP
    have hD9 : va_D A (wH cC cI cJ h0 h1 h2 h3 h4 h5 h6 h7 h8 (z1.2, (vp_updL u.2 (0 : Int32).toNatClampNeg z1.1))) := hD
    have hf := Option.some.inj hf
    have hf1 := congrArg Prod.fst hf
    have hf2 := congrArg Prod.snd hf
    exact W.iret (v := 0) hx hb hr (fun t ht hW => ⟨⟨0, (z1.2, (vp_updL u.2 (0 : Int32).toNatClampNeg z1.1)), rfl, ⟨hf1, hf2⟩, by rw [ht]; exact hP9, va_K.moved hW.alike hK, hD9⟩, hS.F ht⟩) hS.2.2 dL_negate_17

set_option maxHeartbeats 4000000 in
set_option maxRecDepth 100000 in
theorem m_L_place (l : Launch) (hl0 : l.stackTraces = false) (D : va_G) (cC cI cJ : ClassId) (h0 h1 h2 h3 h4 h5 h6 h7 h8 : Nat) (u : SH) (sz : Nat) (a1 : Int32) (res : Int32 × SH) (hf : f_L_place u a1 = some res) : Met l yL_place wsL_place rmL_place (my_PcTM D vwCl (KT cC cI cJ) sz (wH cC cI cJ h0 h1 h2 h3 h4 h5 h6 h7 h8 u) [.ref h0, .int a1, .ref h8]) (va_Qi (fun r v => r = res.1 ∧ v = res.2) (my_B D vwCl (KT cC cI cJ) (va_A (wH cC cI cJ h0 h1 h2 h3 h4 h5 h6 h7 h8 u) sz) (fun v : SH => (wH cC cI cJ h0 h1 h2 h3 h4 h5 h6 h7 h8 v))) (va_A (wH cC cI cJ h0 h1 h2 h3 h4 h5 h6 h7 h8 u) sz)) 1 6 (va_A (wH cC cI cJ h0 h1 h2 h3 h4 h5 h6 h7 h8 u) sz) := by
  refine va_MetW (cc := cL_place) (maxL := 4) (ret := (some .int)) (by decide) rfl ?_
  intro p e s m args below meth c s₁ B hml hv
  obtain ⟨rfl, hsz, hP, hK, hD0, hXK⟩ := hv
  have hx := B.exec
  have hb := B.bytes
  have hr := B.returns
  have hts : ∀ w ∈ wsL_place, w.before ([.ref h0, .int a1, .ref h8] : List Value).toArray s = true := atoms_spec (ws := wsL_place) B.pre
  have hown : s.vm.findClass RL = some m.cls := findClass_of_methodNamed B.named
  have hlk : meth.locks = false := B.notSynchronized
  subst hsz
  have hD := hD0.self (sz := s.heap.size)
  generalize hAe : va_A (wH cC cI cJ h0 h1 h2 h3 h4 h5 h6 h7 h8 u) s.heap.size = A at hD ⊢
  have hA : ∀ q : Nat, s.heap.size ≤ q → A q := fun q h => by rw [← hAe]; exact Or.inr h
  have hS : va_S A s.heap s.heap [] := va_S.rf
  have hP : va_P D vwCl [(h0, .inr (4, [.ref h1, .ref h2, .ref h5])), (h1, .inl (cJ, 8, .inr (.inl u.1.1))), (h2, .inr (3, [.ref h3, .ref h4, .int u.1.2.1.2.2])), (h3, .inl (cC, 40, .inl u.1.2.1.1)), (h4, .inl (cI, 40, .inl u.1.2.1.2.1)), (h5, .inr (2, [.ref h6, .ref h7, .int u.1.2.2.2.2.1, .int u.1.2.2.2.2.2])), (h6, .inl (cI, 8, .inl u.1.2.2.1)), (h7, .inl (cJ, 8, .inr (.inl u.1.2.2.2.1))), (h8, .inl (cJ, 1, .inr (.inl u.2)))] s.heap := hP
  have hD : va_D A [(h0, .inr (4, [.ref h1, .ref h2, .ref h5])), (h1, .inl (cJ, 8, .inr (.inl u.1.1))), (h2, .inr (3, [.ref h3, .ref h4, .int u.1.2.1.2.2])), (h3, .inl (cC, 40, .inl u.1.2.1.1)), (h4, .inl (cI, 40, .inl u.1.2.1.2.1)), (h5, .inr (2, [.ref h6, .ref h7, .int u.1.2.2.2.2.1, .int u.1.2.2.2.2.2])), (h6, .inl (cI, 8, .inl u.1.2.2.1)), (h7, .inl (cJ, 8, .inr (.inl u.1.2.2.2.1))), (h8, .inl (cJ, 1, .inr (.inl u.2)))] := hD
  have q1 := hts (.classLink RL 13 "java/lang/IndexOutOfBoundsException") (by decide +kernel)
  have htab : c.exceptionTable.toList = tableOf [(0, 8, 11, 13)] := vx_table (x := yL_place) B (hts _ List.mem_cons_self)
  have hl := lv_entry ([.ref h0, .int a1, .ref h8]) (n := 4) (Nat.le_of_ble_eq_true rfl)
  rw [lg_entry_eq]
  generalize (lg_sl ([.ref h0, .int a1, .ref h8]) ++ List.replicate (4 - (lg_sl ([.ref h0, .int a1, .ref h8])).length) Slot.unset).toArray = ls at hl ⊢
  have hl : lv_has ls 4 [(0, .ref h0), (1, .int a1), (2, .ref h8)] := hl
  unfold f_L_place at hf
  refine lv_aload_n hx hb dL_place_0 rfl (lv_at hl 2 rfl) ?_
  refine lv_iconst (v := 0) hx hb dL_place_1 (by decide) ?_
  refine lv_aload_n hx hb dL_place_2 rfl (lv_at hl 0 rfl) ?_
  refine lv_iload_n hx hb dL_place_3 rfl (lv_at hl 1 rfl) ?_
  obtain ⟨z1, ez1, hx9, hf⟩ := xh_e hf
  refine my_callXRl (As := [.int a1]) (n := 1) (rest := [.int 0, .ref h8]) (wc := (wX cC cI cJ h0 h1 h2 h3 h4 h5 h6 h7 u.1)) ⟨hx, hb, hml, hown, hts⟩ hK hP hS hA hXK [0, 1, 2, 3, 4, 5, 6, 7] rfl (m_X5_place l hl0 D cC cI cJ h0 h1 h2 h3 h4 h5 h6 h7 u.1 s.heap.size a1 _ ez1) gL_place_X5_place rfl ⟨rfl, rfl⟩ (ci := 4) rfl rfl (by decide +kernel) ⟨Nat.le_of_ble_eq_true rfl, Nat.le_of_ble_eq_true rfl⟩ ⟨Nat.le_of_ble_eq_true rfl, Nat.le_of_ble_eq_true rfl⟩ hl.1 rfl rfl (Nat.le_of_ble_eq_true rfl) dL_place_4 (fun E ce q9 H locs hE hk1 hS hce hcv hcl => ?_) (fun r9 H locs hw hk1 hS => ?_)
  · have hf := hx9 E hE
    have hP := my_keep hP hk1
    by_cases c2 : E = "java/lang/IndexOutOfBoundsException"
    · rw [if_pos c2] at hf
      subst c2
      refine my_catch (hp := []) (z := (0, 8, 11, 13)) (hq0 := []) (name := "java/lang/IndexOutOfBoundsException") hown htab (fun w hw => absurd hw List.not_mem_nil) (by decide) (by decide) q1 (hXK.2.2.1 _ (by decide +kernel)) hce hcv hcl ?_
      refine lv_astore_n (lv' := [(3, .ref q9), (0, .ref h0), (1, .int a1), (2, .ref h8)]) hx hb dL_place_11 rfl hl (by decide) rfl (fun ls hl => ?_)
      refine lv_iconst (v := 1) hx hb dL_place_12 (by decide) ?_
      have hP9 : va_P D vwCl (wH cC cI cJ h0 h1 h2 h3 h4 h5 h6 h7 h8 u) _ := hP
      have hD9 : va_D A (wH cC cI cJ h0 h1 h2 h3 h4 h5 h6 h7 h8 u) := hD
      have hf := Option.some.inj hf
      have hf1 := congrArg Prod.fst hf
      have hf2 := congrArg Prod.snd hf
      exact W.iret (v := 1) hx hb hr (fun t ht hW => ⟨⟨1, u, rfl, ⟨hf1, hf2⟩, by rw [ht]; exact hP9, va_K.moved hW.alike hK, hD9⟩, hS.F ht⟩) hS.2.2 dL_place_13
    · rw [if_neg c2] at hf
      cases hf
  · obtain ⟨z1, hr9, hz⟩ := hw
    obtain rfl := hr9.symm
    have hf := hf _ hz
    have hP := my_keep hP hk1
    refine va_last hx hb hK hP hD hS 8 2 rfl rfl (show ¬ ((0 : Int32) < 0 ∨ 1 ≤ (0 : Int32).toNatClampNeg) by decide) dL_place_7 (fun H locs hP hD hS => ?_)
    have hP : va_P D vwCl [(h0, .inr (4, [.ref h1, .ref h2, .ref h5])), (h1, .inl (cJ, 8, .inr (.inl u.1.1))), (h2, .inr (3, [.ref h3, .ref h4, .int u.1.2.1.2.2])), (h3, .inl (cC, 40, .inl u.1.2.1.1)), (h4, .inl (cI, 40, .inl u.1.2.1.2.1)), (h5, .inr (2, [.ref h6, .ref h7, .int u.1.2.2.2.2.1, .int u.1.2.2.2.2.2])), (h6, .inl (cI, 8, .inl u.1.2.2.1)), (h7, .inl (cJ, 8, .inr (.inl u.1.2.2.2.1))), (h8, .inl (cJ, 1, .inr (.inl (vp_updL u.2 (0 : Int32).toNatClampNeg z1))))] H := hP
    have hD : va_D A [(h0, .inr (4, [.ref h1, .ref h2, .ref h5])), (h1, .inl (cJ, 8, .inr (.inl u.1.1))), (h2, .inr (3, [.ref h3, .ref h4, .int u.1.2.1.2.2])), (h3, .inl (cC, 40, .inl u.1.2.1.1)), (h4, .inl (cI, 40, .inl u.1.2.1.2.1)), (h5, .inr (2, [.ref h6, .ref h7, .int u.1.2.2.2.2.1, .int u.1.2.2.2.2.2])), (h6, .inl (cI, 8, .inl u.1.2.2.1)), (h7, .inl (cJ, 8, .inr (.inl u.1.2.2.2.1))), (h8, .inl (cJ, 1, .inr (.inl (vp_updL u.2 (0 : Int32).toNatClampNeg z1))))] := hD
    refine lv_goto (tgt := 14) hx hb dL_place_8 (by decide) ?_
    refine lv_iconst (v := 0) hx hb dL_place_14 (by decide) ?_
    have hP9 : va_P D vwCl (wH cC cI cJ h0 h1 h2 h3 h4 h5 h6 h7 h8 (u.1, (vp_updL u.2 (0 : Int32).toNatClampNeg z1))) _ := hP
    have hD9 : va_D A (wH cC cI cJ h0 h1 h2 h3 h4 h5 h6 h7 h8 (u.1, (vp_updL u.2 (0 : Int32).toNatClampNeg z1))) := hD
    have hf := Option.some.inj hf
    have hf1 := congrArg Prod.fst hf
    have hf2 := congrArg Prod.snd hf
    exact W.iret (v := 0) hx hb hr (fun t ht hW => ⟨⟨0, (u.1, (vp_updL u.2 (0 : Int32).toNatClampNeg z1)), rfl, ⟨hf1, hf2⟩, by rw [ht]; exact hP9, va_K.moved hW.alike hK, hD9⟩, hS.F ht⟩) hS.2.2 dL_place_15

set_option maxHeartbeats 4000000 in
set_option maxRecDepth 100000 in
theorem m_L_bits (l : Launch) (hl0 : l.stackTraces = false) (D : va_G) (cC cI cJ : ClassId) (h0 h1 h2 h3 h4 h5 h6 h7 h8 : Nat) (u : SH) (sz : Nat) (a1 : Int32) (res : Int32 × SH) (hf : f_L_bits u a1 = some res) : Met l yL_bits wsL_bits rmL_bits (my_PcTM D vwCl (KT cC cI cJ) sz (wH cC cI cJ h0 h1 h2 h3 h4 h5 h6 h7 h8 u) [.ref h0, .int a1, .ref h8]) (va_Qi (fun r v => r = res.1 ∧ v = res.2) (my_B D vwCl (KT cC cI cJ) (va_A (wH cC cI cJ h0 h1 h2 h3 h4 h5 h6 h7 h8 u) sz) (fun v : SH => (wH cC cI cJ h0 h1 h2 h3 h4 h5 h6 h7 h8 v))) (va_A (wH cC cI cJ h0 h1 h2 h3 h4 h5 h6 h7 h8 u) sz)) 1 6 (va_A (wH cC cI cJ h0 h1 h2 h3 h4 h5 h6 h7 h8 u) sz) := by
  refine va_MetW (cc := cL_bits) (maxL := 4) (ret := (some .int)) (by decide) rfl ?_
  intro p e s m args below meth c s₁ B hml hv
  obtain ⟨rfl, hsz, hP, hK, hD0, hXK⟩ := hv
  have hx := B.exec
  have hb := B.bytes
  have hr := B.returns
  have hts : ∀ w ∈ wsL_bits, w.before ([.ref h0, .int a1, .ref h8] : List Value).toArray s = true := atoms_spec (ws := wsL_bits) B.pre
  have hown : s.vm.findClass RL = some m.cls := findClass_of_methodNamed B.named
  have hlk : meth.locks = false := B.notSynchronized
  subst hsz
  have hD := hD0.self (sz := s.heap.size)
  generalize hAe : va_A (wH cC cI cJ h0 h1 h2 h3 h4 h5 h6 h7 h8 u) s.heap.size = A at hD ⊢
  have hA : ∀ q : Nat, s.heap.size ≤ q → A q := fun q h => by rw [← hAe]; exact Or.inr h
  have hS : va_S A s.heap s.heap [] := va_S.rf
  have hP : va_P D vwCl [(h0, .inr (4, [.ref h1, .ref h2, .ref h5])), (h1, .inl (cJ, 8, .inr (.inl u.1.1))), (h2, .inr (3, [.ref h3, .ref h4, .int u.1.2.1.2.2])), (h3, .inl (cC, 40, .inl u.1.2.1.1)), (h4, .inl (cI, 40, .inl u.1.2.1.2.1)), (h5, .inr (2, [.ref h6, .ref h7, .int u.1.2.2.2.2.1, .int u.1.2.2.2.2.2])), (h6, .inl (cI, 8, .inl u.1.2.2.1)), (h7, .inl (cJ, 8, .inr (.inl u.1.2.2.2.1))), (h8, .inl (cJ, 1, .inr (.inl u.2)))] s.heap := hP
  have hD : va_D A [(h0, .inr (4, [.ref h1, .ref h2, .ref h5])), (h1, .inl (cJ, 8, .inr (.inl u.1.1))), (h2, .inr (3, [.ref h3, .ref h4, .int u.1.2.1.2.2])), (h3, .inl (cC, 40, .inl u.1.2.1.1)), (h4, .inl (cI, 40, .inl u.1.2.1.2.1)), (h5, .inr (2, [.ref h6, .ref h7, .int u.1.2.2.2.2.1, .int u.1.2.2.2.2.2])), (h6, .inl (cI, 8, .inl u.1.2.2.1)), (h7, .inl (cJ, 8, .inr (.inl u.1.2.2.2.1))), (h8, .inl (cJ, 1, .inr (.inl u.2)))] := hD
  have q1 := hts (.classLink RL 13 "java/lang/IndexOutOfBoundsException") (by decide +kernel)
  have htab : c.exceptionTable.toList = tableOf [(0, 8, 11, 13)] := vx_table (x := yL_bits) B (hts _ List.mem_cons_self)
  have hl := lv_entry ([.ref h0, .int a1, .ref h8]) (n := 4) (Nat.le_of_ble_eq_true rfl)
  rw [lg_entry_eq]
  generalize (lg_sl ([.ref h0, .int a1, .ref h8]) ++ List.replicate (4 - (lg_sl ([.ref h0, .int a1, .ref h8])).length) Slot.unset).toArray = ls at hl ⊢
  have hl : lv_has ls 4 [(0, .ref h0), (1, .int a1), (2, .ref h8)] := hl
  unfold f_L_bits at hf
  refine lv_aload_n hx hb dL_bits_0 rfl (lv_at hl 2 rfl) ?_
  refine lv_iconst (v := 0) hx hb dL_bits_1 (by decide) ?_
  refine lv_aload_n hx hb dL_bits_2 rfl (lv_at hl 0 rfl) ?_
  refine lv_iload_n hx hb dL_bits_3 rfl (lv_at hl 1 rfl) ?_
  obtain ⟨z1, ez1, hx9, hf⟩ := xh_e hf
  refine my_callXRl (As := [.int a1]) (n := 1) (rest := [.int 0, .ref h8]) (wc := (wX cC cI cJ h0 h1 h2 h3 h4 h5 h6 h7 u.1)) ⟨hx, hb, hml, hown, hts⟩ hK hP hS hA hXK [0, 1, 2, 3, 4, 5, 6, 7] rfl (m_X5_bits l hl0 D cC cI cJ h0 h1 h2 h3 h4 h5 h6 h7 u.1 s.heap.size a1 _ ez1) gL_bits_X5_bits rfl ⟨rfl, rfl⟩ (ci := 4) rfl rfl (by decide +kernel) ⟨Nat.le_of_ble_eq_true rfl, Nat.le_of_ble_eq_true rfl⟩ ⟨Nat.le_of_ble_eq_true rfl, Nat.le_of_ble_eq_true rfl⟩ hl.1 rfl rfl (Nat.le_of_ble_eq_true rfl) dL_bits_4 (fun E ce q9 H locs hE hk1 hS hce hcv hcl => ?_) (fun r9 H locs hw hk1 hS => ?_)
  · have hf := hx9 E hE
    have hP := my_keep hP hk1
    by_cases c2 : E = "java/lang/IndexOutOfBoundsException"
    · rw [if_pos c2] at hf
      subst c2
      refine my_catch (hp := []) (z := (0, 8, 11, 13)) (hq0 := []) (name := "java/lang/IndexOutOfBoundsException") hown htab (fun w hw => absurd hw List.not_mem_nil) (by decide) (by decide) q1 (hXK.2.2.1 _ (by decide +kernel)) hce hcv hcl ?_
      refine lv_astore_n (lv' := [(3, .ref q9), (0, .ref h0), (1, .int a1), (2, .ref h8)]) hx hb dL_bits_11 rfl hl (by decide) rfl (fun ls hl => ?_)
      refine lv_iconst (v := 1) hx hb dL_bits_12 (by decide) ?_
      have hP9 : va_P D vwCl (wH cC cI cJ h0 h1 h2 h3 h4 h5 h6 h7 h8 u) _ := hP
      have hD9 : va_D A (wH cC cI cJ h0 h1 h2 h3 h4 h5 h6 h7 h8 u) := hD
      have hf := Option.some.inj hf
      have hf1 := congrArg Prod.fst hf
      have hf2 := congrArg Prod.snd hf
      exact W.iret (v := 1) hx hb hr (fun t ht hW => ⟨⟨1, u, rfl, ⟨hf1, hf2⟩, by rw [ht]; exact hP9, va_K.moved hW.alike hK, hD9⟩, hS.F ht⟩) hS.2.2 dL_bits_13
    · rw [if_neg c2] at hf
      cases hf
  · obtain ⟨z1, hr9, hz⟩ := hw
    obtain rfl := hr9.symm
    have hf := hf _ hz
    have hP := my_keep hP hk1
    refine va_last hx hb hK hP hD hS 8 2 rfl rfl (show ¬ ((0 : Int32) < 0 ∨ 1 ≤ (0 : Int32).toNatClampNeg) by decide) dL_bits_7 (fun H locs hP hD hS => ?_)
    have hP : va_P D vwCl [(h0, .inr (4, [.ref h1, .ref h2, .ref h5])), (h1, .inl (cJ, 8, .inr (.inl u.1.1))), (h2, .inr (3, [.ref h3, .ref h4, .int u.1.2.1.2.2])), (h3, .inl (cC, 40, .inl u.1.2.1.1)), (h4, .inl (cI, 40, .inl u.1.2.1.2.1)), (h5, .inr (2, [.ref h6, .ref h7, .int u.1.2.2.2.2.1, .int u.1.2.2.2.2.2])), (h6, .inl (cI, 8, .inl u.1.2.2.1)), (h7, .inl (cJ, 8, .inr (.inl u.1.2.2.2.1))), (h8, .inl (cJ, 1, .inr (.inl (vp_updL u.2 (0 : Int32).toNatClampNeg z1))))] H := hP
    have hD : va_D A [(h0, .inr (4, [.ref h1, .ref h2, .ref h5])), (h1, .inl (cJ, 8, .inr (.inl u.1.1))), (h2, .inr (3, [.ref h3, .ref h4, .int u.1.2.1.2.2])), (h3, .inl (cC, 40, .inl u.1.2.1.1)), (h4, .inl (cI, 40, .inl u.1.2.1.2.1)), (h5, .inr (2, [.ref h6, .ref h7, .int u.1.2.2.2.2.1, .int u.1.2.2.2.2.2])), (h6, .inl (cI, 8, .inl u.1.2.2.1)), (h7, .inl (cJ, 8, .inr (.inl u.1.2.2.2.1))), (h8, .inl (cJ, 1, .inr (.inl (vp_updL u.2 (0 : Int32).toNatClampNeg z1))))] := hD
    refine lv_goto (tgt := 14) hx hb dL_bits_8 (by decide) ?_
    refine lv_iconst (v := 0) hx hb dL_bits_14 (by decide) ?_
    have hP9 : va_P D vwCl (wH cC cI cJ h0 h1 h2 h3 h4 h5 h6 h7 h8 (u.1, (vp_updL u.2 (0 : Int32).toNatClampNeg z1))) _ := hP
    have hD9 : va_D A (wH cC cI cJ h0 h1 h2 h3 h4 h5 h6 h7 h8 (u.1, (vp_updL u.2 (0 : Int32).toNatClampNeg z1))) := hD
    have hf := Option.some.inj hf
    have hf1 := congrArg Prod.fst hf
    have hf2 := congrArg Prod.snd hf
    exact W.iret (v := 0) hx hb hr (fun t ht hW => ⟨⟨0, (u.1, (vp_updL u.2 (0 : Int32).toNatClampNeg z1)), rfl, ⟨hf1, hf2⟩, by rw [ht]; exact hP9, va_K.moved hW.alike hK, hD9⟩, hS.F ht⟩) hS.2.2 dL_bits_15

set_option maxHeartbeats 4000000 in
set_option maxRecDepth 100000 in
theorem m_L_isEndless (l : Launch) (hl0 : l.stackTraces = false) (D : va_G) (cC cI cJ : ClassId) (h0 h1 h2 h3 h4 h5 h6 h7 h8 : Nat) (u : SH) (sz : Nat) (a1 : Int32) (res : Int32 × SH) (hf : f_L_isEndless u a1 = some res) : Met l yL_isEndless wsL_isEndless rmL_isEndless (my_PcTM D vwCl (KT cC cI cJ) sz (wH cC cI cJ h0 h1 h2 h3 h4 h5 h6 h7 h8 u) [.ref h0, .int a1, .ref h8]) (va_Qi (fun r v => r = res.1 ∧ v = res.2) (my_B D vwCl (KT cC cI cJ) (va_A (wH cC cI cJ h0 h1 h2 h3 h4 h5 h6 h7 h8 u) sz) (fun v : SH => (wH cC cI cJ h0 h1 h2 h3 h4 h5 h6 h7 h8 v))) (va_A (wH cC cI cJ h0 h1 h2 h3 h4 h5 h6 h7 h8 u) sz)) 1 6 (va_A (wH cC cI cJ h0 h1 h2 h3 h4 h5 h6 h7 h8 u) sz) := by
  refine va_MetW (cc := cL_isEndless) (maxL := 4) (ret := (some .int)) (by decide) rfl ?_
  intro p e s m args below meth c s₁ B hml hv
  obtain ⟨rfl, hsz, hP, hK, hD0, hXK⟩ := hv
  have hx := B.exec
  have hb := B.bytes
  have hr := B.returns
  have hts : ∀ w ∈ wsL_isEndless, w.before ([.ref h0, .int a1, .ref h8] : List Value).toArray s = true := atoms_spec (ws := wsL_isEndless) B.pre
  have hown : s.vm.findClass RL = some m.cls := findClass_of_methodNamed B.named
  have hlk : meth.locks = false := B.notSynchronized
  subst hsz
  have hD := hD0.self (sz := s.heap.size)
  generalize hAe : va_A (wH cC cI cJ h0 h1 h2 h3 h4 h5 h6 h7 h8 u) s.heap.size = A at hD ⊢
  have hA : ∀ q : Nat, s.heap.size ≤ q → A q := fun q h => by rw [← hAe]; exact Or.inr h
  have hS : va_S A s.heap s.heap [] := va_S.rf
  have hP : va_P D vwCl [(h0, .inr (4, [.ref h1, .ref h2, .ref h5])), (h1, .inl (cJ, 8, .inr (.inl u.1.1))), (h2, .inr (3, [.ref h3, .ref h4, .int u.1.2.1.2.2])), (h3, .inl (cC, 40, .inl u.1.2.1.1)), (h4, .inl (cI, 40, .inl u.1.2.1.2.1)), (h5, .inr (2, [.ref h6, .ref h7, .int u.1.2.2.2.2.1, .int u.1.2.2.2.2.2])), (h6, .inl (cI, 8, .inl u.1.2.2.1)), (h7, .inl (cJ, 8, .inr (.inl u.1.2.2.2.1))), (h8, .inl (cJ, 1, .inr (.inl u.2)))] s.heap := hP
  have hD : va_D A [(h0, .inr (4, [.ref h1, .ref h2, .ref h5])), (h1, .inl (cJ, 8, .inr (.inl u.1.1))), (h2, .inr (3, [.ref h3, .ref h4, .int u.1.2.1.2.2])), (h3, .inl (cC, 40, .inl u.1.2.1.1)), (h4, .inl (cI, 40, .inl u.1.2.1.2.1)), (h5, .inr (2, [.ref h6, .ref h7, .int u.1.2.2.2.2.1, .int u.1.2.2.2.2.2])), (h6, .inl (cI, 8, .inl u.1.2.2.1)), (h7, .inl (cJ, 8, .inr (.inl u.1.2.2.2.1))), (h8, .inl (cJ, 1, .inr (.inl u.2)))] := hD
  have q1 := hts (.classLink RL 13 "java/lang/IndexOutOfBoundsException") (by decide +kernel)
  have htab : c.exceptionTable.toList = tableOf [(0, 16, 19, 13)] := vx_table (x := yL_isEndless) B (hts _ List.mem_cons_self)
  have hl := lv_entry ([.ref h0, .int a1, .ref h8]) (n := 4) (Nat.le_of_ble_eq_true rfl)
  rw [lg_entry_eq]
  generalize (lg_sl ([.ref h0, .int a1, .ref h8]) ++ List.replicate (4 - (lg_sl ([.ref h0, .int a1, .ref h8])).length) Slot.unset).toArray = ls at hl ⊢
  have hl : lv_has ls 4 [(0, .ref h0), (1, .int a1), (2, .ref h8)] := hl
  unfold f_L_isEndless at hf
  refine lv_aload_n hx hb dL_isEndless_0 rfl (lv_at hl 2 rfl) ?_
  refine lv_iconst (v := 0) hx hb dL_isEndless_1 (by decide) ?_
  refine lv_aload_n hx hb dL_isEndless_2 rfl (lv_at hl 0 rfl) ?_
  refine lv_iload_n hx hb dL_isEndless_3 rfl (lv_at hl 1 rfl) ?_
  obtain ⟨z1, ez1, hx9, hf⟩ := xh_e hf
  refine my_callXRi (As := [.int a1]) (n := 1) (rest := [.int 0, .ref h8]) (wc := (wX cC cI cJ h0 h1 h2 h3 h4 h5 h6 h7 u.1)) ⟨hx, hb, hml, hown, hts⟩ hK hP hS hA hXK [0, 1, 2, 3, 4, 5, 6, 7] rfl (m_X5_isEndless l hl0 D cC cI cJ h0 h1 h2 h3 h4 h5 h6 h7 u.1 s.heap.size a1 _ ez1) gL_isEndless_X5_isEndless rfl ⟨rfl, rfl⟩ (ci := 4) rfl rfl (by decide +kernel) ⟨Nat.le_of_ble_eq_true rfl, Nat.le_of_ble_eq_true rfl⟩ ⟨Nat.le_of_ble_eq_true rfl, Nat.le_of_ble_eq_true rfl⟩ hl.1 rfl rfl (Nat.le_of_ble_eq_true rfl) dL_isEndless_4 (fun E ce q9 H locs hE hk1 hS hce hcv hcl => ?_) (fun r9 H locs hw hk1 hS => ?_)
  · have hf := hx9 E hE
    have hP := my_keep hP hk1
    by_cases c2 : E = "java/lang/IndexOutOfBoundsException"
    · rw [if_pos c2] at hf
      subst c2
      refine my_catch (hp := []) (z := (0, 16, 19, 13)) (hq0 := []) (name := "java/lang/IndexOutOfBoundsException") hown htab (fun w hw => absurd hw List.not_mem_nil) (by decide) (by decide) q1 (hXK.2.2.1 _ (by decide +kernel)) hce hcv hcl ?_
      refine lv_astore_n (lv' := [(3, .ref q9), (0, .ref h0), (1, .int a1), (2, .ref h8)]) hx hb dL_isEndless_19 rfl hl (by decide) rfl (fun ls hl => ?_)
      refine lv_iconst (v := 1) hx hb dL_isEndless_20 (by decide) ?_
      have hP9 : va_P D vwCl (wH cC cI cJ h0 h1 h2 h3 h4 h5 h6 h7 h8 u) _ := hP
      have hD9 : va_D A (wH cC cI cJ h0 h1 h2 h3 h4 h5 h6 h7 h8 u) := hD
      have hf := Option.some.inj hf
      have hf1 := congrArg Prod.fst hf
      have hf2 := congrArg Prod.snd hf
      exact W.iret (v := 1) hx hb hr (fun t ht hW => ⟨⟨1, u, rfl, ⟨hf1, hf2⟩, by rw [ht]; exact hP9, va_K.moved hW.alike hK, hD9⟩, hS.F ht⟩) hS.2.2 dL_isEndless_21
    · rw [if_neg c2] at hf
      cases hf
  · obtain ⟨z1, hr9, hz⟩ := hw
    obtain rfl := hr9.symm
    have hf := hf _ hz
    have hP := my_keep hP hk1
    refine my_bz_eq (x := z1) (tgt := 14) hx hb dL_isEndless_7 (by decide) (fun c3 => ?_) (fun c3 => ?_)
    · rw [if_pos c3] at hf
      refine lv_lconst (v := 0) hx hb dL_isEndless_14 (by decide) ?_
      refine va_last hx hb hK hP hD hS 8 2 rfl rfl (show ¬ ((0 : Int32) < 0 ∨ 1 ≤ (0 : Int32).toNatClampNeg) by decide) dL_isEndless_15 (fun H locs hP hD hS => ?_)
      have hP : va_P D vwCl [(h0, .inr (4, [.ref h1, .ref h2, .ref h5])), (h1, .inl (cJ, 8, .inr (.inl u.1.1))), (h2, .inr (3, [.ref h3, .ref h4, .int u.1.2.1.2.2])), (h3, .inl (cC, 40, .inl u.1.2.1.1)), (h4, .inl (cI, 40, .inl u.1.2.1.2.1)), (h5, .inr (2, [.ref h6, .ref h7, .int u.1.2.2.2.2.1, .int u.1.2.2.2.2.2])), (h6, .inl (cI, 8, .inl u.1.2.2.1)), (h7, .inl (cJ, 8, .inr (.inl u.1.2.2.2.1))), (h8, .inl (cJ, 1, .inr (.inl (vp_updL u.2 (0 : Int32).toNatClampNeg 0))))] H := hP
      have hD : va_D A [(h0, .inr (4, [.ref h1, .ref h2, .ref h5])), (h1, .inl (cJ, 8, .inr (.inl u.1.1))), (h2, .inr (3, [.ref h3, .ref h4, .int u.1.2.1.2.2])), (h3, .inl (cC, 40, .inl u.1.2.1.1)), (h4, .inl (cI, 40, .inl u.1.2.1.2.1)), (h5, .inr (2, [.ref h6, .ref h7, .int u.1.2.2.2.2.1, .int u.1.2.2.2.2.2])), (h6, .inl (cI, 8, .inl u.1.2.2.1)), (h7, .inl (cJ, 8, .inr (.inl u.1.2.2.2.1))), (h8, .inl (cJ, 1, .inr (.inl (vp_updL u.2 (0 : Int32).toNatClampNeg 0))))] := hD
      refine lv_goto (tgt := 22) hx hb dL_isEndless_16 (by decide) ?_
      refine lv_iconst (v := 0) hx hb dL_isEndless_22 (by decide) ?_
      have hP9 : va_P D vwCl (wH cC cI cJ h0 h1 h2 h3 h4 h5 h6 h7 h8 (u.1, (vp_updL u.2 (0 : Int32).toNatClampNeg 0))) _ := hP
      have hD9 : va_D A (wH cC cI cJ h0 h1 h2 h3 h4 h5 h6 h7 h8 (u.1, (vp_updL u.2 (0 : Int32).toNatClampNeg 0))) := hD
      have hf := Option.some.inj hf
      have hf1 := congrArg Prod.fst hf
      have hf2 := congrArg Prod.snd hf
      exact W.iret (v := 0) hx hb hr (fun t ht hW => ⟨⟨0, (u.1, (vp_updL u.2 (0 : Int32).toNatClampNeg 0)), rfl, ⟨hf1, hf2⟩, by rw [ht]; exact hP9, va_K.moved hW.alike hK, hD9⟩, hS.F ht⟩) hS.2.2 dL_isEndless_23
    · rw [if_neg c3] at hf
      refine lv_lconst (v := 1) hx hb dL_isEndless_10 (by decide) ?_
      refine lv_goto (tgt := 15) hx hb dL_isEndless_11 (by decide) ?_
      refine va_last hx hb hK hP hD hS 8 2 rfl rfl (show ¬ ((0 : Int32) < 0 ∨ 1 ≤ (0 : Int32).toNatClampNeg) by decide) dL_isEndless_15 (fun H locs hP hD hS => ?_)
      have hP : va_P D vwCl [(h0, .inr (4, [.ref h1, .ref h2, .ref h5])), (h1, .inl (cJ, 8, .inr (.inl u.1.1))), (h2, .inr (3, [.ref h3, .ref h4, .int u.1.2.1.2.2])), (h3, .inl (cC, 40, .inl u.1.2.1.1)), (h4, .inl (cI, 40, .inl u.1.2.1.2.1)), (h5, .inr (2, [.ref h6, .ref h7, .int u.1.2.2.2.2.1, .int u.1.2.2.2.2.2])), (h6, .inl (cI, 8, .inl u.1.2.2.1)), (h7, .inl (cJ, 8, .inr (.inl u.1.2.2.2.1))), (h8, .inl (cJ, 1, .inr (.inl (vp_updL u.2 (0 : Int32).toNatClampNeg 1))))] H := hP
      have hD : va_D A [(h0, .inr (4, [.ref h1, .ref h2, .ref h5])), (h1, .inl (cJ, 8, .inr (.inl u.1.1))), (h2, .inr (3, [.ref h3, .ref h4, .int u.1.2.1.2.2])), (h3, .inl (cC, 40, .inl u.1.2.1.1)), (h4, .inl (cI, 40, .inl u.1.2.1.2.1)), (h5, .inr (2, [.ref h6, .ref h7, .int u.1.2.2.2.2.1, .int u.1.2.2.2.2.2])), (h6, .inl (cI, 8, .inl u.1.2.2.1)), (h7, .inl (cJ, 8, .inr (.inl u.1.2.2.2.1))), (h8, .inl (cJ, 1, .inr (.inl (vp_updL u.2 (0 : Int32).toNatClampNeg 1))))] := hD
      refine lv_goto (tgt := 22) hx hb dL_isEndless_16 (by decide) ?_
      refine lv_iconst (v := 0) hx hb dL_isEndless_22 (by decide) ?_
      have hP9 : va_P D vwCl (wH cC cI cJ h0 h1 h2 h3 h4 h5 h6 h7 h8 (u.1, (vp_updL u.2 (0 : Int32).toNatClampNeg 1))) _ := hP
      have hD9 : va_D A (wH cC cI cJ h0 h1 h2 h3 h4 h5 h6 h7 h8 (u.1, (vp_updL u.2 (0 : Int32).toNatClampNeg 1))) := hD
      have hf := Option.some.inj hf
      have hf1 := congrArg Prod.fst hf
      have hf2 := congrArg Prod.snd hf
      exact W.iret (v := 0) hx hb hr (fun t ht hW => ⟨⟨0, (u.1, (vp_updL u.2 (0 : Int32).toNatClampNeg 1)), rfl, ⟨hf1, hf2⟩, by rw [ht]; exact hP9, va_K.moved hW.alike hK, hD9⟩, hS.F ht⟩) hS.2.2 dL_isEndless_23

set_option maxHeartbeats 4000000 in
set_option maxRecDepth 100000 in
theorem m_L_isWhole (l : Launch) (hl0 : l.stackTraces = false) (D : va_G) (cC cI cJ : ClassId) (h0 h1 h2 h3 h4 h5 h6 h7 h8 : Nat) (u : SH) (sz : Nat) (a1 : Int32) (res : Int32 × SH) (hf : f_L_isWhole u a1 = some res) : Met l yL_isWhole wsL_isWhole rmL_isWhole (my_PcTM D vwCl (KT cC cI cJ) sz (wH cC cI cJ h0 h1 h2 h3 h4 h5 h6 h7 h8 u) [.ref h0, .int a1, .ref h8]) (va_Qi (fun r v => r = res.1 ∧ v = res.2) (my_B D vwCl (KT cC cI cJ) (va_A (wH cC cI cJ h0 h1 h2 h3 h4 h5 h6 h7 h8 u) sz) (fun v : SH => (wH cC cI cJ h0 h1 h2 h3 h4 h5 h6 h7 h8 v))) (va_A (wH cC cI cJ h0 h1 h2 h3 h4 h5 h6 h7 h8 u) sz)) 1 6 (va_A (wH cC cI cJ h0 h1 h2 h3 h4 h5 h6 h7 h8 u) sz) := by
  refine va_MetW (cc := cL_isWhole) (maxL := 4) (ret := (some .int)) (by decide) rfl ?_
  intro p e s m args below meth c s₁ B hml hv
  obtain ⟨rfl, hsz, hP, hK, hD0, hXK⟩ := hv
  have hx := B.exec
  have hb := B.bytes
  have hr := B.returns
  have hts : ∀ w ∈ wsL_isWhole, w.before ([.ref h0, .int a1, .ref h8] : List Value).toArray s = true := atoms_spec (ws := wsL_isWhole) B.pre
  have hown : s.vm.findClass RL = some m.cls := findClass_of_methodNamed B.named
  have hlk : meth.locks = false := B.notSynchronized
  subst hsz
  have hD := hD0.self (sz := s.heap.size)
  generalize hAe : va_A (wH cC cI cJ h0 h1 h2 h3 h4 h5 h6 h7 h8 u) s.heap.size = A at hD ⊢
  have hA : ∀ q : Nat, s.heap.size ≤ q → A q := fun q h => by rw [← hAe]; exact Or.inr h
  have hS : va_S A s.heap s.heap [] := va_S.rf
  have hP : va_P D vwCl [(h0, .inr (4, [.ref h1, .ref h2, .ref h5])), (h1, .inl (cJ, 8, .inr (.inl u.1.1))), (h2, .inr (3, [.ref h3, .ref h4, .int u.1.2.1.2.2])), (h3, .inl (cC, 40, .inl u.1.2.1.1)), (h4, .inl (cI, 40, .inl u.1.2.1.2.1)), (h5, .inr (2, [.ref h6, .ref h7, .int u.1.2.2.2.2.1, .int u.1.2.2.2.2.2])), (h6, .inl (cI, 8, .inl u.1.2.2.1)), (h7, .inl (cJ, 8, .inr (.inl u.1.2.2.2.1))), (h8, .inl (cJ, 1, .inr (.inl u.2)))] s.heap := hP
  have hD : va_D A [(h0, .inr (4, [.ref h1, .ref h2, .ref h5])), (h1, .inl (cJ, 8, .inr (.inl u.1.1))), (h2, .inr (3, [.ref h3, .ref h4, .int u.1.2.1.2.2])), (h3, .inl (cC, 40, .inl u.1.2.1.1)), (h4, .inl (cI, 40, .inl u.1.2.1.2.1)), (h5, .inr (2, [.ref h6, .ref h7, .int u.1.2.2.2.2.1, .int u.1.2.2.2.2.2])), (h6, .inl (cI, 8, .inl u.1.2.2.1)), (h7, .inl (cJ, 8, .inr (.inl u.1.2.2.2.1))), (h8, .inl (cJ, 1, .inr (.inl u.2)))] := hD
  have q1 := hts (.classLink RL 13 "java/lang/IndexOutOfBoundsException") (by decide +kernel)
  have htab : c.exceptionTable.toList = tableOf [(0, 16, 19, 13)] := vx_table (x := yL_isWhole) B (hts _ List.mem_cons_self)
  have hl := lv_entry ([.ref h0, .int a1, .ref h8]) (n := 4) (Nat.le_of_ble_eq_true rfl)
  rw [lg_entry_eq]
  generalize (lg_sl ([.ref h0, .int a1, .ref h8]) ++ List.replicate (4 - (lg_sl ([.ref h0, .int a1, .ref h8])).length) Slot.unset).toArray = ls at hl ⊢
  have hl : lv_has ls 4 [(0, .ref h0), (1, .int a1), (2, .ref h8)] := hl
  unfold f_L_isWhole at hf
  refine lv_aload_n hx hb dL_isWhole_0 rfl (lv_at hl 2 rfl) ?_
  refine lv_iconst (v := 0) hx hb dL_isWhole_1 (by decide) ?_
  refine lv_aload_n hx hb dL_isWhole_2 rfl (lv_at hl 0 rfl) ?_
  refine lv_iload_n hx hb dL_isWhole_3 rfl (lv_at hl 1 rfl) ?_
  obtain ⟨z1, ez1, hx9, hf⟩ := xh_e hf
  refine my_callXRi (As := [.int a1]) (n := 1) (rest := [.int 0, .ref h8]) (wc := (wX cC cI cJ h0 h1 h2 h3 h4 h5 h6 h7 u.1)) ⟨hx, hb, hml, hown, hts⟩ hK hP hS hA hXK [0, 1, 2, 3, 4, 5, 6, 7] rfl (m_X5_isWhole l hl0 D cC cI cJ h0 h1 h2 h3 h4 h5 h6 h7 u.1 s.heap.size a1 _ ez1) gL_isWhole_X5_isWhole rfl ⟨rfl, rfl⟩ (ci := 4) rfl rfl (by decide +kernel) ⟨Nat.le_of_ble_eq_true rfl, Nat.le_of_ble_eq_true rfl⟩ ⟨Nat.le_of_ble_eq_true rfl, Nat.le_of_ble_eq_true rfl⟩ hl.1 rfl rfl (Nat.le_of_ble_eq_true rfl) dL_isWhole_4 (fun E ce q9 H locs hE hk1 hS hce hcv hcl => ?_) (fun r9 H locs hw hk1 hS => ?_)
  · have hf := hx9 E hE
    have hP := my_keep hP hk1
    by_cases c2 : E = "java/lang/IndexOutOfBoundsException"
    · rw [if_pos c2] at hf
      subst c2
      refine my_catch (hp := []) (z := (0, 16, 19, 13)) (hq0 := []) (name := "java/lang/IndexOutOfBoundsException") hown htab (fun w hw => absurd hw List.not_mem_nil) (by decide) (by decide) q1 (hXK.2.2.1 _ (by decide +kernel)) hce hcv hcl ?_
      refine lv_astore_n (lv' := [(3, .ref q9), (0, .ref h0), (1, .int a1), (2, .ref h8)]) hx hb dL_isWhole_19 rfl hl (by decide) rfl (fun ls hl => ?_)
      refine lv_iconst (v := 1) hx hb dL_isWhole_20 (by decide) ?_
      have hP9 : va_P D vwCl (wH cC cI cJ h0 h1 h2 h3 h4 h5 h6 h7 h8 u) _ := hP
      have hD9 : va_D A (wH cC cI cJ h0 h1 h2 h3 h4 h5 h6 h7 h8 u) := hD
      have hf := Option.some.inj hf
      have hf1 := congrArg Prod.fst hf
      have hf2 := congrArg Prod.snd hf
      exact W.iret (v := 1) hx hb hr (fun t ht hW => ⟨⟨1, u, rfl, ⟨hf1, hf2⟩, by rw [ht]; exact hP9, va_K.moved hW.alike hK, hD9⟩, hS.F ht⟩) hS.2.2 dL_isWhole_21
    · rw [if_neg c2] at hf
      cases hf
  · obtain ⟨z1, hr9, hz⟩ := hw
    obtain rfl := hr9.symm
    have hf := hf _ hz
    have hP := my_keep hP hk1
    refine my_bz_eq (x := z1) (tgt := 14) hx hb dL_isWhole_7 (by decide) (fun c3 => ?_) (fun c3 => ?_)
    · rw [if_pos c3] at hf
      refine lv_lconst (v := 0) hx hb dL_isWhole_14 (by decide) ?_
      refine va_last hx hb hK hP hD hS 8 2 rfl rfl (show ¬ ((0 : Int32) < 0 ∨ 1 ≤ (0 : Int32).toNatClampNeg) by decide) dL_isWhole_15 (fun H locs hP hD hS => ?_)
      have hP : va_P D vwCl [(h0, .inr (4, [.ref h1, .ref h2, .ref h5])), (h1, .inl (cJ, 8, .inr (.inl u.1.1))), (h2, .inr (3, [.ref h3, .ref h4, .int u.1.2.1.2.2])), (h3, .inl (cC, 40, .inl u.1.2.1.1)), (h4, .inl (cI, 40, .inl u.1.2.1.2.1)), (h5, .inr (2, [.ref h6, .ref h7, .int u.1.2.2.2.2.1, .int u.1.2.2.2.2.2])), (h6, .inl (cI, 8, .inl u.1.2.2.1)), (h7, .inl (cJ, 8, .inr (.inl u.1.2.2.2.1))), (h8, .inl (cJ, 1, .inr (.inl (vp_updL u.2 (0 : Int32).toNatClampNeg 0))))] H := hP
      have hD : va_D A [(h0, .inr (4, [.ref h1, .ref h2, .ref h5])), (h1, .inl (cJ, 8, .inr (.inl u.1.1))), (h2, .inr (3, [.ref h3, .ref h4, .int u.1.2.1.2.2])), (h3, .inl (cC, 40, .inl u.1.2.1.1)), (h4, .inl (cI, 40, .inl u.1.2.1.2.1)), (h5, .inr (2, [.ref h6, .ref h7, .int u.1.2.2.2.2.1, .int u.1.2.2.2.2.2])), (h6, .inl (cI, 8, .inl u.1.2.2.1)), (h7, .inl (cJ, 8, .inr (.inl u.1.2.2.2.1))), (h8, .inl (cJ, 1, .inr (.inl (vp_updL u.2 (0 : Int32).toNatClampNeg 0))))] := hD
      refine lv_goto (tgt := 22) hx hb dL_isWhole_16 (by decide) ?_
      refine lv_iconst (v := 0) hx hb dL_isWhole_22 (by decide) ?_
      have hP9 : va_P D vwCl (wH cC cI cJ h0 h1 h2 h3 h4 h5 h6 h7 h8 (u.1, (vp_updL u.2 (0 : Int32).toNatClampNeg 0))) _ := hP
      have hD9 : va_D A (wH cC cI cJ h0 h1 h2 h3 h4 h5 h6 h7 h8 (u.1, (vp_updL u.2 (0 : Int32).toNatClampNeg 0))) := hD
      have hf := Option.some.inj hf
      have hf1 := congrArg Prod.fst hf
      have hf2 := congrArg Prod.snd hf
      exact W.iret (v := 0) hx hb hr (fun t ht hW => ⟨⟨0, (u.1, (vp_updL u.2 (0 : Int32).toNatClampNeg 0)), rfl, ⟨hf1, hf2⟩, by rw [ht]; exact hP9, va_K.moved hW.alike hK, hD9⟩, hS.F ht⟩) hS.2.2 dL_isWhole_23
    · rw [if_neg c3] at hf
      refine lv_lconst (v := 1) hx hb dL_isWhole_10 (by decide) ?_
      refine lv_goto (tgt := 15) hx hb dL_isWhole_11 (by decide) ?_
      refine va_last hx hb hK hP hD hS 8 2 rfl rfl (show ¬ ((0 : Int32) < 0 ∨ 1 ≤ (0 : Int32).toNatClampNeg) by decide) dL_isWhole_15 (fun H locs hP hD hS => ?_)
      have hP : va_P D vwCl [(h0, .inr (4, [.ref h1, .ref h2, .ref h5])), (h1, .inl (cJ, 8, .inr (.inl u.1.1))), (h2, .inr (3, [.ref h3, .ref h4, .int u.1.2.1.2.2])), (h3, .inl (cC, 40, .inl u.1.2.1.1)), (h4, .inl (cI, 40, .inl u.1.2.1.2.1)), (h5, .inr (2, [.ref h6, .ref h7, .int u.1.2.2.2.2.1, .int u.1.2.2.2.2.2])), (h6, .inl (cI, 8, .inl u.1.2.2.1)), (h7, .inl (cJ, 8, .inr (.inl u.1.2.2.2.1))), (h8, .inl (cJ, 1, .inr (.inl (vp_updL u.2 (0 : Int32).toNatClampNeg 1))))] H := hP
      have hD : va_D A [(h0, .inr (4, [.ref h1, .ref h2, .ref h5])), (h1, .inl (cJ, 8, .inr (.inl u.1.1))), (h2, .inr (3, [.ref h3, .ref h4, .int u.1.2.1.2.2])), (h3, .inl (cC, 40, .inl u.1.2.1.1)), (h4, .inl (cI, 40, .inl u.1.2.1.2.1)), (h5, .inr (2, [.ref h6, .ref h7, .int u.1.2.2.2.2.1, .int u.1.2.2.2.2.2])), (h6, .inl (cI, 8, .inl u.1.2.2.1)), (h7, .inl (cJ, 8, .inr (.inl u.1.2.2.2.1))), (h8, .inl (cJ, 1, .inr (.inl (vp_updL u.2 (0 : Int32).toNatClampNeg 1))))] := hD
      refine lv_goto (tgt := 22) hx hb dL_isWhole_16 (by decide) ?_
      refine lv_iconst (v := 0) hx hb dL_isWhole_22 (by decide) ?_
      have hP9 : va_P D vwCl (wH cC cI cJ h0 h1 h2 h3 h4 h5 h6 h7 h8 (u.1, (vp_updL u.2 (0 : Int32).toNatClampNeg 1))) _ := hP
      have hD9 : va_D A (wH cC cI cJ h0 h1 h2 h3 h4 h5 h6 h7 h8 (u.1, (vp_updL u.2 (0 : Int32).toNatClampNeg 1))) := hD
      have hf := Option.some.inj hf
      have hf1 := congrArg Prod.fst hf
      have hf2 := congrArg Prod.snd hf
      exact W.iret (v := 0) hx hb hr (fun t ht hW => ⟨⟨0, (u.1, (vp_updL u.2 (0 : Int32).toNatClampNeg 1)), rfl, ⟨hf1, hf2⟩, by rw [ht]; exact hP9, va_K.moved hW.alike hK, hD9⟩, hS.F ht⟩) hS.2.2 dL_isWhole_23

set_option maxHeartbeats 4000000 in
set_option maxRecDepth 100000 in
theorem m_L_isSmall (l : Launch) (hl0 : l.stackTraces = false) (D : va_G) (cC cI cJ : ClassId) (h0 h1 h2 h3 h4 h5 h6 h7 h8 : Nat) (u : SH) (sz : Nat) (a1 : Int32) (res : Int32 × SH) (hf : f_L_isSmall u a1 = some res) : Met l yL_isSmall wsL_isSmall rmL_isSmall (my_PcTM D vwCl (KT cC cI cJ) sz (wH cC cI cJ h0 h1 h2 h3 h4 h5 h6 h7 h8 u) [.ref h0, .int a1, .ref h8]) (va_Qi (fun r v => r = res.1 ∧ v = res.2) (my_B D vwCl (KT cC cI cJ) (va_A (wH cC cI cJ h0 h1 h2 h3 h4 h5 h6 h7 h8 u) sz) (fun v : SH => (wH cC cI cJ h0 h1 h2 h3 h4 h5 h6 h7 h8 v))) (va_A (wH cC cI cJ h0 h1 h2 h3 h4 h5 h6 h7 h8 u) sz)) 1 6 (va_A (wH cC cI cJ h0 h1 h2 h3 h4 h5 h6 h7 h8 u) sz) := by
  refine va_MetW (cc := cL_isSmall) (maxL := 4) (ret := (some .int)) (by decide) rfl ?_
  intro p e s m args below meth c s₁ B hml hv
  obtain ⟨rfl, hsz, hP, hK, hD0, hXK⟩ := hv
  have hx := B.exec
  have hb := B.bytes
  have hr := B.returns
  have hts : ∀ w ∈ wsL_isSmall, w.before ([.ref h0, .int a1, .ref h8] : List Value).toArray s = true := atoms_spec (ws := wsL_isSmall) B.pre
  have hown : s.vm.findClass RL = some m.cls := findClass_of_methodNamed B.named
  have hlk : meth.locks = false := B.notSynchronized
  subst hsz
  have hD := hD0.self (sz := s.heap.size)
  generalize hAe : va_A (wH cC cI cJ h0 h1 h2 h3 h4 h5 h6 h7 h8 u) s.heap.size = A at hD ⊢
  have hA : ∀ q : Nat, s.heap.size ≤ q → A q := fun q h => by rw [← hAe]; exact Or.inr h
  have hS : va_S A s.heap s.heap [] := va_S.rf
  have hP : va_P D vwCl [(h0, .inr (4, [.ref h1, .ref h2, .ref h5])), (h1, .inl (cJ, 8, .inr (.inl u.1.1))), (h2, .inr (3, [.ref h3, .ref h4, .int u.1.2.1.2.2])), (h3, .inl (cC, 40, .inl u.1.2.1.1)), (h4, .inl (cI, 40, .inl u.1.2.1.2.1)), (h5, .inr (2, [.ref h6, .ref h7, .int u.1.2.2.2.2.1, .int u.1.2.2.2.2.2])), (h6, .inl (cI, 8, .inl u.1.2.2.1)), (h7, .inl (cJ, 8, .inr (.inl u.1.2.2.2.1))), (h8, .inl (cJ, 1, .inr (.inl u.2)))] s.heap := hP
  have hD : va_D A [(h0, .inr (4, [.ref h1, .ref h2, .ref h5])), (h1, .inl (cJ, 8, .inr (.inl u.1.1))), (h2, .inr (3, [.ref h3, .ref h4, .int u.1.2.1.2.2])), (h3, .inl (cC, 40, .inl u.1.2.1.1)), (h4, .inl (cI, 40, .inl u.1.2.1.2.1)), (h5, .inr (2, [.ref h6, .ref h7, .int u.1.2.2.2.2.1, .int u.1.2.2.2.2.2])), (h6, .inl (cI, 8, .inl u.1.2.2.1)), (h7, .inl (cJ, 8, .inr (.inl u.1.2.2.2.1))), (h8, .inl (cJ, 1, .inr (.inl u.2)))] := hD
  have q1 := hts (.classLink RL 13 "java/lang/IndexOutOfBoundsException") (by decide +kernel)
  have htab : c.exceptionTable.toList = tableOf [(0, 16, 19, 13)] := vx_table (x := yL_isSmall) B (hts _ List.mem_cons_self)
  have hl := lv_entry ([.ref h0, .int a1, .ref h8]) (n := 4) (Nat.le_of_ble_eq_true rfl)
  rw [lg_entry_eq]
  generalize (lg_sl ([.ref h0, .int a1, .ref h8]) ++ List.replicate (4 - (lg_sl ([.ref h0, .int a1, .ref h8])).length) Slot.unset).toArray = ls at hl ⊢
  have hl : lv_has ls 4 [(0, .ref h0), (1, .int a1), (2, .ref h8)] := hl
  unfold f_L_isSmall at hf
  refine lv_aload_n hx hb dL_isSmall_0 rfl (lv_at hl 2 rfl) ?_
  refine lv_iconst (v := 0) hx hb dL_isSmall_1 (by decide) ?_
  refine lv_aload_n hx hb dL_isSmall_2 rfl (lv_at hl 0 rfl) ?_
  refine lv_iload_n hx hb dL_isSmall_3 rfl (lv_at hl 1 rfl) ?_
  obtain ⟨z1, ez1, hx9, hf⟩ := xh_e hf
  refine my_callXRi (As := [.int a1]) (n := 1) (rest := [.int 0, .ref h8]) (wc := (wX cC cI cJ h0 h1 h2 h3 h4 h5 h6 h7 u.1)) ⟨hx, hb, hml, hown, hts⟩ hK hP hS hA hXK [0, 1, 2, 3, 4, 5, 6, 7] rfl (m_X5_isSmall l hl0 D cC cI cJ h0 h1 h2 h3 h4 h5 h6 h7 u.1 s.heap.size a1 _ ez1) gL_isSmall_X5_isSmall rfl ⟨rfl, rfl⟩ (ci := 4) rfl rfl (by decide +kernel) ⟨Nat.le_of_ble_eq_true rfl, Nat.le_of_ble_eq_true rfl⟩ ⟨Nat.le_of_ble_eq_true rfl, Nat.le_of_ble_eq_true rfl⟩ hl.1 rfl rfl (Nat.le_of_ble_eq_true rfl) dL_isSmall_4 (fun E ce q9 H locs hE hk1 hS hce hcv hcl => ?_) (fun r9 H locs hw hk1 hS => ?_)
  · have hf := hx9 E hE
    have hP := my_keep hP hk1
    by_cases c2 : E = "java/lang/IndexOutOfBoundsException"
    · rw [if_pos c2] at hf
      subst c2
      refine my_catch (hp := []) (z := (0, 16, 19, 13)) (hq0 := []) (name := "java/lang/IndexOutOfBoundsException") hown htab (fun w hw => absurd hw List.not_mem_nil) (by decide) (by decide) q1 (hXK.2.2.1 _ (by decide +kernel)) hce hcv hcl ?_
      refine lv_astore_n (lv' := [(3, .ref q9), (0, .ref h0), (1, .int a1), (2, .ref h8)]) hx hb dL_isSmall_19 rfl hl (by decide) rfl (fun ls hl => ?_)
      refine lv_iconst (v := 1) hx hb dL_isSmall_20 (by decide) ?_
      have hP9 : va_P D vwCl (wH cC cI cJ h0 h1 h2 h3 h4 h5 h6 h7 h8 u) _ := hP
      have hD9 : va_D A (wH cC cI cJ h0 h1 h2 h3 h4 h5 h6 h7 h8 u) := hD
      have hf := Option.some.inj hf
      have hf1 := congrArg Prod.fst hf
      have hf2 := congrArg Prod.snd hf
      exact W.iret (v := 1) hx hb hr (fun t ht hW => ⟨⟨1, u, rfl, ⟨hf1, hf2⟩, by rw [ht]; exact hP9, va_K.moved hW.alike hK, hD9⟩, hS.F ht⟩) hS.2.2 dL_isSmall_21
    · rw [if_neg c2] at hf
      cases hf
  · obtain ⟨z1, hr9, hz⟩ := hw
    obtain rfl := hr9.symm
    have hf := hf _ hz
    have hP := my_keep hP hk1
    refine my_bz_eq (x := z1) (tgt := 14) hx hb dL_isSmall_7 (by decide) (fun c3 => ?_) (fun c3 => ?_)
    · rw [if_pos c3] at hf
      refine lv_lconst (v := 0) hx hb dL_isSmall_14 (by decide) ?_
      refine va_last hx hb hK hP hD hS 8 2 rfl rfl (show ¬ ((0 : Int32) < 0 ∨ 1 ≤ (0 : Int32).toNatClampNeg) by decide) dL_isSmall_15 (fun H locs hP hD hS => ?_)
      have hP : va_P D vwCl [(h0, .inr (4, [.ref h1, .ref h2, .ref h5])), (h1, .inl (cJ, 8, .inr (.inl u.1.1))), (h2, .inr (3, [.ref h3, .ref h4, .int u.1.2.1.2.2])), (h3, .inl (cC, 40, .inl u.1.2.1.1)), (h4, .inl (cI, 40, .inl u.1.2.1.2.1)), (h5, .inr (2, [.ref h6, .ref h7, .int u.1.2.2.2.2.1, .int u.1.2.2.2.2.2])), (h6, .inl (cI, 8, .inl u.1.2.2.1)), (h7, .inl (cJ, 8, .inr (.inl u.1.2.2.2.1))), (h8, .inl (cJ, 1, .inr (.inl (vp_updL u.2 (0 : Int32).toNatClampNeg 0))))] H := hP
      have hD : va_D A [(h0, .inr (4, [.ref h1, .ref h2, .ref h5])), (h1, .inl (cJ, 8, .inr (.inl u.1.1))), (h2, .inr (3, [.ref h3, .ref h4, .int u.1.2.1.2.2])), (h3, .inl (cC, 40, .inl u.1.2.1.1)), (h4, .inl (cI, 40, .inl u.1.2.1.2.1)), (h5, .inr (2, [.ref h6, .ref h7, .int u.1.2.2.2.2.1, .int u.1.2.2.2.2.2])), (h6, .inl (cI, 8, .inl u.1.2.2.1)), (h7, .inl (cJ, 8, .inr (.inl u.1.2.2.2.1))), (h8, .inl (cJ, 1, .inr (.inl (vp_updL u.2 (0 : Int32).toNatClampNeg 0))))] := hD
      refine lv_goto (tgt := 22) hx hb dL_isSmall_16 (by decide) ?_
      refine lv_iconst (v := 0) hx hb dL_isSmall_22 (by decide) ?_
      have hP9 : va_P D vwCl (wH cC cI cJ h0 h1 h2 h3 h4 h5 h6 h7 h8 (u.1, (vp_updL u.2 (0 : Int32).toNatClampNeg 0))) _ := hP
      have hD9 : va_D A (wH cC cI cJ h0 h1 h2 h3 h4 h5 h6 h7 h8 (u.1, (vp_updL u.2 (0 : Int32).toNatClampNeg 0))) := hD
      have hf := Option.some.inj hf
      have hf1 := congrArg Prod.fst hf
      have hf2 := congrArg Prod.snd hf
      exact W.iret (v := 0) hx hb hr (fun t ht hW => ⟨⟨0, (u.1, (vp_updL u.2 (0 : Int32).toNatClampNeg 0)), rfl, ⟨hf1, hf2⟩, by rw [ht]; exact hP9, va_K.moved hW.alike hK, hD9⟩, hS.F ht⟩) hS.2.2 dL_isSmall_23
    · rw [if_neg c3] at hf
      refine lv_lconst (v := 1) hx hb dL_isSmall_10 (by decide) ?_
      refine lv_goto (tgt := 15) hx hb dL_isSmall_11 (by decide) ?_
      refine va_last hx hb hK hP hD hS 8 2 rfl rfl (show ¬ ((0 : Int32) < 0 ∨ 1 ≤ (0 : Int32).toNatClampNeg) by decide) dL_isSmall_15 (fun H locs hP hD hS => ?_)
      have hP : va_P D vwCl [(h0, .inr (4, [.ref h1, .ref h2, .ref h5])), (h1, .inl (cJ, 8, .inr (.inl u.1.1))), (h2, .inr (3, [.ref h3, .ref h4, .int u.1.2.1.2.2])), (h3, .inl (cC, 40, .inl u.1.2.1.1)), (h4, .inl (cI, 40, .inl u.1.2.1.2.1)), (h5, .inr (2, [.ref h6, .ref h7, .int u.1.2.2.2.2.1, .int u.1.2.2.2.2.2])), (h6, .inl (cI, 8, .inl u.1.2.2.1)), (h7, .inl (cJ, 8, .inr (.inl u.1.2.2.2.1))), (h8, .inl (cJ, 1, .inr (.inl (vp_updL u.2 (0 : Int32).toNatClampNeg 1))))] H := hP
      have hD : va_D A [(h0, .inr (4, [.ref h1, .ref h2, .ref h5])), (h1, .inl (cJ, 8, .inr (.inl u.1.1))), (h2, .inr (3, [.ref h3, .ref h4, .int u.1.2.1.2.2])), (h3, .inl (cC, 40, .inl u.1.2.1.1)), (h4, .inl (cI, 40, .inl u.1.2.1.2.1)), (h5, .inr (2, [.ref h6, .ref h7, .int u.1.2.2.2.2.1, .int u.1.2.2.2.2.2])), (h6, .inl (cI, 8, .inl u.1.2.2.1)), (h7, .inl (cJ, 8, .inr (.inl u.1.2.2.2.1))), (h8, .inl (cJ, 1, .inr (.inl (vp_updL u.2 (0 : Int32).toNatClampNeg 1))))] := hD
      refine lv_goto (tgt := 22) hx hb dL_isSmall_16 (by decide) ?_
      refine lv_iconst (v := 0) hx hb dL_isSmall_22 (by decide) ?_
      have hP9 : va_P D vwCl (wH cC cI cJ h0 h1 h2 h3 h4 h5 h6 h7 h8 (u.1, (vp_updL u.2 (0 : Int32).toNatClampNeg 1))) _ := hP
      have hD9 : va_D A (wH cC cI cJ h0 h1 h2 h3 h4 h5 h6 h7 h8 (u.1, (vp_updL u.2 (0 : Int32).toNatClampNeg 1))) := hD
      have hf := Option.some.inj hf
      have hf1 := congrArg Prod.fst hf
      have hf2 := congrArg Prod.snd hf
      exact W.iret (v := 0) hx hb hr (fun t ht hW => ⟨⟨0, (u.1, (vp_updL u.2 (0 : Int32).toNatClampNeg 1)), rfl, ⟨hf1, hf2⟩, by rw [ht]; exact hP9, va_K.moved hW.alike hK, hD9⟩, hS.F ht⟩) hS.2.2 dL_isSmall_23

set_option maxHeartbeats 4000000 in
set_option maxRecDepth 100000 in
theorem m_L_up (l : Launch) (hl0 : l.stackTraces = false) (D : va_G) (cC cI cJ : ClassId) (h0 h1 h2 h3 h4 h5 h6 h7 h8 : Nat) (u : SH) (sz : Nat) (a1 : Int32) (a2 : Int32) (res : Int32 × SH) (hf : f_L_up u a1 a2 = some res) : Met l yL_up wsL_up rmL_up (my_PcTM D vwCl (KT cC cI cJ) sz (wH cC cI cJ h0 h1 h2 h3 h4 h5 h6 h7 h8 u) [.ref h0, .int a1, .int a2, .ref h8]) (va_Qi (fun r v => r = res.1 ∧ v = res.2) (my_B D vwCl (KT cC cI cJ) (va_A (wH cC cI cJ h0 h1 h2 h3 h4 h5 h6 h7 h8 u) sz) (fun v : SH => (wH cC cI cJ h0 h1 h2 h3 h4 h5 h6 h7 h8 v))) (va_A (wH cC cI cJ h0 h1 h2 h3 h4 h5 h6 h7 h8 u) sz)) 2 12 (va_A (wH cC cI cJ h0 h1 h2 h3 h4 h5 h6 h7 h8 u) sz) := by
  refine va_MetW (cc := cL_up) (maxL := 5) (ret := (some .int)) (by decide) rfl ?_
  intro p e s m args below meth c s₁ B hml hv
  obtain ⟨rfl, hsz, hP, hK, hD0, hXK⟩ := hv
  have hx := B.exec
  have hb := B.bytes
  have hr := B.returns
  have hts : ∀ w ∈ wsL_up, w.before ([.ref h0, .int a1, .int a2, .ref h8] : List Value).toArray s = true := atoms_spec (ws := wsL_up) B.pre
  have hown : s.vm.findClass RL = some m.cls := findClass_of_methodNamed B.named
  have hlk : meth.locks = false := B.notSynchronized
  subst hsz
  have hD := hD0.self (sz := s.heap.size)
  generalize hAe : va_A (wH cC cI cJ h0 h1 h2 h3 h4 h5 h6 h7 h8 u) s.heap.size = A at hD ⊢
  have hA : ∀ q : Nat, s.heap.size ≤ q → A q := fun q h => by rw [← hAe]; exact Or.inr h
  have hS : va_S A s.heap s.heap [] := va_S.rf
  have hP : va_P D vwCl [(h0, .inr (4, [.ref h1, .ref h2, .ref h5])), (h1, .inl (cJ, 8, .inr (.inl u.1.1))), (h2, .inr (3, [.ref h3, .ref h4, .int u.1.2.1.2.2])), (h3, .inl (cC, 40, .inl u.1.2.1.1)), (h4, .inl (cI, 40, .inl u.1.2.1.2.1)), (h5, .inr (2, [.ref h6, .ref h7, .int u.1.2.2.2.2.1, .int u.1.2.2.2.2.2])), (h6, .inl (cI, 8, .inl u.1.2.2.1)), (h7, .inl (cJ, 8, .inr (.inl u.1.2.2.2.1))), (h8, .inl (cJ, 1, .inr (.inl u.2)))] s.heap := hP
  have hD : va_D A [(h0, .inr (4, [.ref h1, .ref h2, .ref h5])), (h1, .inl (cJ, 8, .inr (.inl u.1.1))), (h2, .inr (3, [.ref h3, .ref h4, .int u.1.2.1.2.2])), (h3, .inl (cC, 40, .inl u.1.2.1.1)), (h4, .inl (cI, 40, .inl u.1.2.1.2.1)), (h5, .inr (2, [.ref h6, .ref h7, .int u.1.2.2.2.2.1, .int u.1.2.2.2.2.2])), (h6, .inl (cI, 8, .inl u.1.2.2.1)), (h7, .inl (cJ, 8, .inr (.inl u.1.2.2.2.1))), (h8, .inl (cJ, 1, .inr (.inl u.2)))] := hD
  have q1 := hts (.classLink RL 13 "java/lang/IndexOutOfBoundsException") (by decide +kernel)
  have q2 := hts (.classLink RL 15 "java/lang/IllegalArgumentException") (by decide +kernel)
  have htab : c.exceptionTable.toList = tableOf [(0, 10, 13, 13), (0, 10, 17, 15)] := vx_table (x := yL_up) B (hts _ List.mem_cons_self)
  have hl := lv_entry ([.ref h0, .int a1, .int a2, .ref h8]) (n := 5) (Nat.le_of_ble_eq_true rfl)
  rw [lg_entry_eq]
  generalize (lg_sl ([.ref h0, .int a1, .int a2, .ref h8]) ++ List.replicate (5 - (lg_sl ([.ref h0, .int a1, .int a2, .ref h8])).length) Slot.unset).toArray = ls at hl ⊢
  have hl : lv_has ls 5 [(0, .ref h0), (1, .int a1), (2, .int a2), (3, .ref h8)] := hl
  unfold f_L_up at hf
  refine lv_aload_n hx hb dL_up_0 rfl (lv_at hl 3 rfl) ?_
  refine lv_iconst (v := 0) hx hb dL_up_1 (by decide) ?_
  refine lv_aload_n hx hb dL_up_2 rfl (lv_at hl 0 rfl) ?_
  refine lv_iload_n hx hb dL_up_3 rfl (lv_at hl 1 rfl) ?_
  refine lv_iload_n hx hb dL_up_4 rfl (lv_at hl 2 rfl) ?_
  obtain ⟨z1, ez1, hx9, hf⟩ := xh_e hf
  refine my_callXMi (As := [.int a1, .int a2]) (n := 2) (rest := [.int 0, .ref h8]) (wr := [(h8, .inl (cJ, 1, .inr (.inl u.2)))]) ⟨hx, hb, hml, hown, hts⟩ hK hP hD hS hA hXK [0, 1, 2, 3, 4, 5, 6, 7] [8] rfl rfl (by decide) (by decide) (by decide) (m_X5_up l hl0 D cC cI cJ h0 h1 h2 h3 h4 h5 h6 h7 u.1 s.heap.size a1 a2 _ ez1) gL_up_X5_up rfl ⟨rfl, rfl⟩ (ci := 4) rfl rfl (by decide +kernel) ⟨Nat.le_of_ble_eq_true rfl, Nat.le_of_ble_eq_true rfl⟩ ⟨Nat.le_of_ble_eq_true rfl, Nat.le_of_ble_eq_true rfl⟩ hl.1 rfl rfl (Nat.le_of_ble_eq_true rfl) dL_up_5 (fun E ce q9 H locs hE hk1 hS hce hcv hcl => ?_) (fun r9 u9 H locs hw hP hD hS => ?_)
  · have hf := hx9 E hE
    have hP := my_keep hP hk1
    by_cases c2 : E = "java/lang/IndexOutOfBoundsException"
    · rw [if_pos c2] at hf
      subst c2
      refine my_catch (hp := []) (z := (0, 10, 13, 13)) (hq0 := [(0, 10, 17, 15)]) (name := "java/lang/IndexOutOfBoundsException") hown htab (fun w hw => absurd hw List.not_mem_nil) (by decide) (by decide) q1 (hXK.2.2.1 _ (by decide +kernel)) hce hcv hcl ?_
      refine lv_astore (lv' := [(4, .ref q9), (0, .ref h0), (1, .int a1), (2, .int a2), (3, .ref h8)]) hx hb dL_up_13 hl (by decide) rfl (fun ls hl => ?_)
      refine lv_iconst (v := 1) hx hb dL_up_15 (by decide) ?_
      have hP9 : va_P D vwCl (wH cC cI cJ h0 h1 h2 h3 h4 h5 h6 h7 h8 u) _ := hP
      have hD9 : va_D A (wH cC cI cJ h0 h1 h2 h3 h4 h5 h6 h7 h8 u) := hD
      have hf := Option.some.inj hf
      have hf1 := congrArg Prod.fst hf
      have hf2 := congrArg Prod.snd hf
      exact W.iret (v := 1) hx hb hr (fun t ht hW => ⟨⟨1, u, rfl, ⟨hf1, hf2⟩, by rw [ht]; exact hP9, va_K.moved hW.alike hK, hD9⟩, hS.F ht⟩) hS.2.2 dL_up_16
    · rw [if_neg c2] at hf
      by_cases c3 : E = "java/lang/IllegalArgumentException"
      · rw [if_pos c3] at hf
        subst c3
        refine my_catch (hp := [(0, 10, 13, 13)]) (z := (0, 10, 17, 15)) (hq0 := []) (name := "java/lang/IllegalArgumentException") hown htab (fun w hw => by
          simp only [List.mem_cons, List.not_mem_nil, or_false] at hw
          rcases hw with rfl
          · exact ⟨by decide, "java/lang/IndexOutOfBoundsException", q1, hXK.2.2.2.2 ("java/lang/IllegalArgumentException", "java/lang/IndexOutOfBoundsException") (by decide +kernel)⟩) (by decide) (by decide) q2 (hXK.2.2.1 _ (by decide +kernel)) hce hcv hcl ?_
        refine lv_astore (lv' := [(4, .ref q9), (0, .ref h0), (1, .int a1), (2, .int a2), (3, .ref h8)]) hx hb dL_up_17 hl (by decide) rfl (fun ls hl => ?_)
        refine lv_iconst (v := 2) hx hb dL_up_19 (by decide) ?_
        have hP9 : va_P D vwCl (wH cC cI cJ h0 h1 h2 h3 h4 h5 h6 h7 h8 u) _ := hP
        have hD9 : va_D A (wH cC cI cJ h0 h1 h2 h3 h4 h5 h6 h7 h8 u) := hD
        have hf := Option.some.inj hf
        have hf1 := congrArg Prod.fst hf
        have hf2 := congrArg Prod.snd hf
        exact W.iret (v := 2) hx hb hr (fun t ht hW => ⟨⟨2, u, rfl, ⟨hf1, hf2⟩, by rw [ht]; exact hP9, va_K.moved hW.alike hK, hD9⟩, hS.F ht⟩) hS.2.2 dL_up_20
      · rw [if_neg c3] at hf
        cases hf
  · obtain ⟨z1, rfl, rfl, hz⟩ := hw
    have hf := hf _ hz
    have hP : va_P D vwCl [(h0, .inr (4, [.ref h1, .ref h2, .ref h5])), (h1, .inl (cJ, 8, .inr (.inl z1.2.1))), (h2, .inr (3, [.ref h3, .ref h4, .int z1.2.2.1.2.2])), (h3, .inl (cC, 40, .inl z1.2.2.1.1)), (h4, .inl (cI, 40, .inl z1.2.2.1.2.1)), (h5, .inr (2, [.ref h6, .ref h7, .int z1.2.2.2.2.2.1, .int z1.2.2.2.2.2.2])), (h6, .inl (cI, 8, .inl z1.2.2.2.1)), (h7, .inl (cJ, 8, .inr (.inl z1.2.2.2.2.1))), (h8, .inl (cJ, 1, .inr (.inl u.2)))] H := hP.sub [1, 2, 3, 4, 5, 6, 7, 8, 0] rfl
    have hD : va_D A [(h0, .inr (4, [.ref h1, .ref h2, .ref h5])), (h1, .inl (cJ, 8, .inr (.inl z1.2.1))), (h2, .inr (3, [.ref h3, .ref h4, .int z1.2.2.1.2.2])), (h3, .inl (cC, 40, .inl z1.2.2.1.1)), (h4, .inl (cI, 40, .inl z1.2.2.1.2.1)), (h5, .inr (2, [.ref h6, .ref h7, .int z1.2.2.2.2.2.1, .int z1.2.2.2.2.2.2])), (h6, .inl (cI, 8, .inl z1.2.2.2.1)), (h7, .inl (cJ, 8, .inr (.inl z1.2.2.2.2.1))), (h8, .inl (cJ, 1, .inr (.inl u.2)))] := hD.sub [1, 2, 3, 4, 5, 6, 7, 8, 0] (by decide) rfl
    refine lv_i2l (v := (z1.1.toInt64)) hx hb dL_up_8 rfl ?_
    refine va_last hx hb hK hP hD hS 8 2 rfl rfl (show ¬ ((0 : Int32) < 0 ∨ 1 ≤ (0 : Int32).toNatClampNeg) by decide) dL_up_9 (fun H locs hP hD hS => ?_)
    have hP : va_P D vwCl [(h0, .inr (4, [.ref h1, .ref h2, .ref h5])), (h1, .inl (cJ, 8, .inr (.inl z1.2.1))), (h2, .inr (3, [.ref h3, .ref h4, .int z1.2.2.1.2.2])), (h3, .inl (cC, 40, .inl z1.2.2.1.1)), (h4, .inl (cI, 40, .inl z1.2.2.1.2.1)), (h5, .inr (2, [.ref h6, .ref h7, .int z1.2.2.2.2.2.1, .int z1.2.2.2.2.2.2])), (h6, .inl (cI, 8, .inl z1.2.2.2.1)), (h7, .inl (cJ, 8, .inr (.inl z1.2.2.2.2.1))), (h8, .inl (cJ, 1, .inr (.inl (vp_updL u.2 (0 : Int32).toNatClampNeg (z1.1.toInt64)))))] H := hP
    have hD : va_D A [(h0, .inr (4, [.ref h1, .ref h2, .ref h5])), (h1, .inl (cJ, 8, .inr (.inl z1.2.1))), (h2, .inr (3, [.ref h3, .ref h4, .int z1.2.2.1.2.2])), (h3, .inl (cC, 40, .inl z1.2.2.1.1)), (h4, .inl (cI, 40, .inl z1.2.2.1.2.1)), (h5, .inr (2, [.ref h6, .ref h7, .int z1.2.2.2.2.2.1, .int z1.2.2.2.2.2.2])), (h6, .inl (cI, 8, .inl z1.2.2.2.1)), (h7, .inl (cJ, 8, .inr (.inl z1.2.2.2.2.1))), (h8, .inl (cJ, 1, .inr (.inl (vp_updL u.2 (0 : Int32).toNatClampNeg (z1.1.toInt64)))))] := hD
    refine lv_goto (tgt := 21) hx hb dL_up_10 (by decide) ?_
    refine lv_iconst (v := 0) hx hb dL_up_21 (by decide) ?_
    have hP9 : va_P D vwCl (wH cC cI cJ h0 h1 h2 h3 h4 h5 h6 h7 h8 (z1.2, (vp_updL u.2 (0 : Int32).toNatClampNeg (z1.1.toInt64)))) _ := hP
    have hD9 : va_D A (wH cC cI cJ h0 h1 h2 h3 h4 h5 h6 h7 h8 (z1.2, (vp_updL u.2 (0 : Int32).toNatClampNeg (z1.1.toInt64)))) := hD
    have hf := Option.some.inj hf
    have hf1 := congrArg Prod.fst hf
    have hf2 := congrArg Prod.snd hf
    exact W.iret (v := 0) hx hb hr (fun t ht hW => ⟨⟨0, (z1.2, (vp_updL u.2 (0 : Int32).toNatClampNeg (z1.1.toInt64))), rfl, ⟨hf1, hf2⟩, by rw [ht]; exact hP9, va_K.moved hW.alike hK, hD9⟩, hS.F ht⟩) hS.2.2 dL_up_22

set_option maxHeartbeats 4000000 in
set_option maxRecDepth 100000 in
theorem m_L_down (l : Launch) (hl0 : l.stackTraces = false) (D : va_G) (cC cI cJ : ClassId) (h0 h1 h2 h3 h4 h5 h6 h7 h8 : Nat) (u : SH) (sz : Nat) (a1 : Int32) (a2 : Int32) (res : Int32 × SH) (hf : f_L_down u a1 a2 = some res) : Met l yL_down wsL_down rmL_down (my_PcTM D vwCl (KT cC cI cJ) sz (wH cC cI cJ h0 h1 h2 h3 h4 h5 h6 h7 h8 u) [.ref h0, .int a1, .int a2, .ref h8]) (va_Qi (fun r v => r = res.1 ∧ v = res.2) (my_B D vwCl (KT cC cI cJ) (va_A (wH cC cI cJ h0 h1 h2 h3 h4 h5 h6 h7 h8 u) sz) (fun v : SH => (wH cC cI cJ h0 h1 h2 h3 h4 h5 h6 h7 h8 v))) (va_A (wH cC cI cJ h0 h1 h2 h3 h4 h5 h6 h7 h8 u) sz)) 2 12 (va_A (wH cC cI cJ h0 h1 h2 h3 h4 h5 h6 h7 h8 u) sz) := by
  refine va_MetW (cc := cL_down) (maxL := 5) (ret := (some .int)) (by decide) rfl ?_
  intro p e s m args below meth c s₁ B hml hv
  obtain ⟨rfl, hsz, hP, hK, hD0, hXK⟩ := hv
  have hx := B.exec
  have hb := B.bytes
  have hr := B.returns
  have hts : ∀ w ∈ wsL_down, w.before ([.ref h0, .int a1, .int a2, .ref h8] : List Value).toArray s = true := atoms_spec (ws := wsL_down) B.pre
  have hown : s.vm.findClass RL = some m.cls := findClass_of_methodNamed B.named
  have hlk : meth.locks = false := B.notSynchronized
  subst hsz
  have hD := hD0.self (sz := s.heap.size)
  generalize hAe : va_A (wH cC cI cJ h0 h1 h2 h3 h4 h5 h6 h7 h8 u) s.heap.size = A at hD ⊢
  have hA : ∀ q : Nat, s.heap.size ≤ q → A q := fun q h => by rw [← hAe]; exact Or.inr h
  have hS : va_S A s.heap s.heap [] := va_S.rf
  have hP : va_P D vwCl [(h0, .inr (4, [.ref h1, .ref h2, .ref h5])), (h1, .inl (cJ, 8, .inr (.inl u.1.1))), (h2, .inr (3, [.ref h3, .ref h4, .int u.1.2.1.2.2])), (h3, .inl (cC, 40, .inl u.1.2.1.1)), (h4, .inl (cI, 40, .inl u.1.2.1.2.1)), (h5, .inr (2, [.ref h6, .ref h7, .int u.1.2.2.2.2.1, .int u.1.2.2.2.2.2])), (h6, .inl (cI, 8, .inl u.1.2.2.1)), (h7, .inl (cJ, 8, .inr (.inl u.1.2.2.2.1))), (h8, .inl (cJ, 1, .inr (.inl u.2)))] s.heap := hP
  have hD : va_D A [(h0, .inr (4, [.ref h1, .ref h2, .ref h5])), (h1, .inl (cJ, 8, .inr (.inl u.1.1))), (h2, .inr (3, [.ref h3, .ref h4, .int u.1.2.1.2.2])), (h3, .inl (cC, 40, .inl u.1.2.1.1)), (h4, .inl (cI, 40, .inl u.1.2.1.2.1)), (h5, .inr (2, [.ref h6, .ref h7, .int u.1.2.2.2.2.1, .int u.1.2.2.2.2.2])), (h6, .inl (cI, 8, .inl u.1.2.2.1)), (h7, .inl (cJ, 8, .inr (.inl u.1.2.2.2.1))), (h8, .inl (cJ, 1, .inr (.inl u.2)))] := hD
  have q1 := hts (.classLink RL 13 "java/lang/IndexOutOfBoundsException") (by decide +kernel)
  have q2 := hts (.classLink RL 15 "java/lang/IllegalArgumentException") (by decide +kernel)
  have htab : c.exceptionTable.toList = tableOf [(0, 10, 13, 13), (0, 10, 17, 15)] := vx_table (x := yL_down) B (hts _ List.mem_cons_self)
  have hl := lv_entry ([.ref h0, .int a1, .int a2, .ref h8]) (n := 5) (Nat.le_of_ble_eq_true rfl)
  rw [lg_entry_eq]
  generalize (lg_sl ([.ref h0, .int a1, .int a2, .ref h8]) ++ List.replicate (5 - (lg_sl ([.ref h0, .int a1, .int a2, .ref h8])).length) Slot.unset).toArray = ls at hl ⊢
  have hl : lv_has ls 5 [(0, .ref h0), (1, .int a1), (2, .int a2), (3, .ref h8)] := hl
  unfold f_L_down at hf
  refine lv_aload_n hx hb dL_down_0 rfl (lv_at hl 3 rfl) ?_
  refine lv_iconst (v := 0) hx hb dL_down_1 (by decide) ?_
  refine lv_aload_n hx hb dL_down_2 rfl (lv_at hl 0 rfl) ?_
  refine lv_iload_n hx hb dL_down_3 rfl (lv_at hl 1 rfl) ?_
  refine lv_iload_n hx hb dL_down_4 rfl (lv_at hl 2 rfl) ?_
  obtain ⟨z1, ez1, hx9, hf⟩ := xh_e hf
  refine my_callXMi (As := [.int a1, .int a2]) (n := 2) (rest := [.int 0, .ref h8]) (wr := [(h8, .inl (cJ, 1, .inr (.inl u.2)))]) ⟨hx, hb, hml, hown, hts⟩ hK hP hD hS hA hXK [0, 1, 2, 3, 4, 5, 6, 7] [8] rfl rfl (by decide) (by decide) (by decide) (m_X5_down l hl0 D cC cI cJ h0 h1 h2 h3 h4 h5 h6 h7 u.1 s.heap.size a1 a2 _ ez1) gL_down_X5_down rfl ⟨rfl, rfl⟩ (ci := 4) rfl rfl (by decide +kernel) ⟨Nat.le_of_ble_eq_true rfl, Nat.le_of_ble_eq_true rfl⟩ ⟨Nat.le_of_ble_eq_true rfl, Nat.le_of_ble_eq_true rfl⟩ hl.1 rfl rfl (Nat.le_of_ble_eq_true rfl) dL_down_5 (fun E ce q9 H locs hE hk1 hS hce hcv hcl => ?_) (fun r9 u9 H locs hw hP hD hS => ?_)
  · have hf := hx9 E hE
    have hP := my_keep hP hk1
    by_cases c2 : E = "java/lang/IndexOutOfBoundsException"
    · rw [if_pos c2] at hf
      subst c2
      refine my_catch (hp := []) (z := (0, 10, 13, 13)) (hq0 := [(0, 10, 17, 15)]) (name := "java/lang/IndexOutOfBoundsException") hown htab (fun w hw => absurd hw List.not_mem_nil) (by decide) (by decide) q1 (hXK.2.2.1 _ (by decide +kernel)) hce hcv hcl ?_
      refine lv_astore (lv' := [(4, .ref q9), (0, .ref h0), (1, .int a1), (2, .int a2), (3, .ref h8)]) hx hb dL_down_13 hl (by decide) rfl (fun ls hl => ?_)
      refine lv_iconst (v := 1) hx hb dL_down_15 (by decide) ?_
      have hP9 : va_P D vwCl (wH cC cI cJ h0 h1 h2 h3 h4 h5 h6 h7 h8 u) _ := hP
      have hD9 : va_D A (wH cC cI cJ h0 h1 h2 h3 h4 h5 h6 h7 h8 u) := hD
      have hf := Option.some.inj hf
      have hf1 := congrArg Prod.fst hf
      have hf2 := congrArg Prod.snd hf
      exact W.iret (v := 1) hx hb hr (fun t ht hW => ⟨⟨1, u, rfl, ⟨hf1, hf2⟩, by rw [ht]; exact hP9, va_K.moved hW.alike hK, hD9⟩, hS.F ht⟩) hS.2.2 dL_down_16
    · rw [if_neg c2] at hf
      by_cases c3 : E = "java/lang/IllegalArgumentException"
      · rw [if_pos c3] at hf
        subst c3
        refine my_catch (hp := [(0, 10, 13, 13)]) (z := (0, 10, 17, 15)) (hq0 := []) (name := "java/lang/IllegalArgumentException") hown htab (fun w hw => by
          simp only [List.mem_cons, List.not_mem_nil, or_false] at hw
          rcases hw with rfl
          · exact ⟨by decide, "java/lang/IndexOutOfBoundsException", q1, hXK.2.2.2.2 ("java/lang/IllegalArgumentException", "java/lang/IndexOutOfBoundsException") (by decide +kernel)⟩) (by decide) (by decide) q2 (hXK.2.2.1 _ (by decide +kernel)) hce hcv hcl ?_
        refine lv_astore (lv' := [(4, .ref q9), (0, .ref h0), (1, .int a1), (2, .int a2), (3, .ref h8)]) hx hb dL_down_17 hl (by decide) rfl (fun ls hl => ?_)
        refine lv_iconst (v := 2) hx hb dL_down_19 (by decide) ?_
        have hP9 : va_P D vwCl (wH cC cI cJ h0 h1 h2 h3 h4 h5 h6 h7 h8 u) _ := hP
        have hD9 : va_D A (wH cC cI cJ h0 h1 h2 h3 h4 h5 h6 h7 h8 u) := hD
        have hf := Option.some.inj hf
        have hf1 := congrArg Prod.fst hf
        have hf2 := congrArg Prod.snd hf
        exact W.iret (v := 2) hx hb hr (fun t ht hW => ⟨⟨2, u, rfl, ⟨hf1, hf2⟩, by rw [ht]; exact hP9, va_K.moved hW.alike hK, hD9⟩, hS.F ht⟩) hS.2.2 dL_down_20
      · rw [if_neg c3] at hf
        cases hf
  · obtain ⟨z1, rfl, rfl, hz⟩ := hw
    have hf := hf _ hz
    have hP : va_P D vwCl [(h0, .inr (4, [.ref h1, .ref h2, .ref h5])), (h1, .inl (cJ, 8, .inr (.inl z1.2.1))), (h2, .inr (3, [.ref h3, .ref h4, .int z1.2.2.1.2.2])), (h3, .inl (cC, 40, .inl z1.2.2.1.1)), (h4, .inl (cI, 40, .inl z1.2.2.1.2.1)), (h5, .inr (2, [.ref h6, .ref h7, .int z1.2.2.2.2.2.1, .int z1.2.2.2.2.2.2])), (h6, .inl (cI, 8, .inl z1.2.2.2.1)), (h7, .inl (cJ, 8, .inr (.inl z1.2.2.2.2.1))), (h8, .inl (cJ, 1, .inr (.inl u.2)))] H := hP.sub [1, 2, 3, 4, 5, 6, 7, 8, 0] rfl
    have hD : va_D A [(h0, .inr (4, [.ref h1, .ref h2, .ref h5])), (h1, .inl (cJ, 8, .inr (.inl z1.2.1))), (h2, .inr (3, [.ref h3, .ref h4, .int z1.2.2.1.2.2])), (h3, .inl (cC, 40, .inl z1.2.2.1.1)), (h4, .inl (cI, 40, .inl z1.2.2.1.2.1)), (h5, .inr (2, [.ref h6, .ref h7, .int z1.2.2.2.2.2.1, .int z1.2.2.2.2.2.2])), (h6, .inl (cI, 8, .inl z1.2.2.2.1)), (h7, .inl (cJ, 8, .inr (.inl z1.2.2.2.2.1))), (h8, .inl (cJ, 1, .inr (.inl u.2)))] := hD.sub [1, 2, 3, 4, 5, 6, 7, 8, 0] (by decide) rfl
    refine lv_i2l (v := (z1.1.toInt64)) hx hb dL_down_8 rfl ?_
    refine va_last hx hb hK hP hD hS 8 2 rfl rfl (show ¬ ((0 : Int32) < 0 ∨ 1 ≤ (0 : Int32).toNatClampNeg) by decide) dL_down_9 (fun H locs hP hD hS => ?_)
    have hP : va_P D vwCl [(h0, .inr (4, [.ref h1, .ref h2, .ref h5])), (h1, .inl (cJ, 8, .inr (.inl z1.2.1))), (h2, .inr (3, [.ref h3, .ref h4, .int z1.2.2.1.2.2])), (h3, .inl (cC, 40, .inl z1.2.2.1.1)), (h4, .inl (cI, 40, .inl z1.2.2.1.2.1)), (h5, .inr (2, [.ref h6, .ref h7, .int z1.2.2.2.2.2.1, .int z1.2.2.2.2.2.2])), (h6, .inl (cI, 8, .inl z1.2.2.2.1)), (h7, .inl (cJ, 8, .inr (.inl z1.2.2.2.2.1))), (h8, .inl (cJ, 1, .inr (.inl (vp_updL u.2 (0 : Int32).toNatClampNeg (z1.1.toInt64)))))] H := hP
    have hD : va_D A [(h0, .inr (4, [.ref h1, .ref h2, .ref h5])), (h1, .inl (cJ, 8, .inr (.inl z1.2.1))), (h2, .inr (3, [.ref h3, .ref h4, .int z1.2.2.1.2.2])), (h3, .inl (cC, 40, .inl z1.2.2.1.1)), (h4, .inl (cI, 40, .inl z1.2.2.1.2.1)), (h5, .inr (2, [.ref h6, .ref h7, .int z1.2.2.2.2.2.1, .int z1.2.2.2.2.2.2])), (h6, .inl (cI, 8, .inl z1.2.2.2.1)), (h7, .inl (cJ, 8, .inr (.inl z1.2.2.2.2.1))), (h8, .inl (cJ, 1, .inr (.inl (vp_updL u.2 (0 : Int32).toNatClampNeg (z1.1.toInt64)))))] := hD
    refine lv_goto (tgt := 21) hx hb dL_down_10 (by decide) ?_
    refine lv_iconst (v := 0) hx hb dL_down_21 (by decide) ?_
    have hP9 : va_P D vwCl (wH cC cI cJ h0 h1 h2 h3 h4 h5 h6 h7 h8 (z1.2, (vp_updL u.2 (0 : Int32).toNatClampNeg (z1.1.toInt64)))) _ := hP
    have hD9 : va_D A (wH cC cI cJ h0 h1 h2 h3 h4 h5 h6 h7 h8 (z1.2, (vp_updL u.2 (0 : Int32).toNatClampNeg (z1.1.toInt64)))) := hD
    have hf := Option.some.inj hf
    have hf1 := congrArg Prod.fst hf
    have hf2 := congrArg Prod.snd hf
    exact W.iret (v := 0) hx hb hr (fun t ht hW => ⟨⟨0, (z1.2, (vp_updL u.2 (0 : Int32).toNatClampNeg (z1.1.toInt64))), rfl, ⟨hf1, hf2⟩, by rw [ht]; exact hP9, va_K.moved hW.alike hK, hD9⟩, hS.F ht⟩) hS.2.2 dL_down_22

set_option maxHeartbeats 4000000 in
set_option maxRecDepth 100000 in
theorem m_L_toward (l : Launch) (hl0 : l.stackTraces = false) (D : va_G) (cC cI cJ : ClassId) (h0 h1 h2 h3 h4 h5 h6 h7 h8 : Nat) (u : SH) (sz : Nat) (a1 : Int32) (a2 : Int32) (a3 : Int32) (res : Int32 × SH) (hf : f_L_toward u a1 a2 a3 = some res) : Met l yL_toward wsL_toward rmL_toward (my_PcTM D vwCl (KT cC cI cJ) sz (wH cC cI cJ h0 h1 h2 h3 h4 h5 h6 h7 h8 u) [.ref h0, .int a1, .int a2, .int a3, .ref h8]) (va_Qi (fun r v => r = res.1 ∧ v = res.2) (my_B D vwCl (KT cC cI cJ) (va_A (wH cC cI cJ h0 h1 h2 h3 h4 h5 h6 h7 h8 u) sz) (fun v : SH => (wH cC cI cJ h0 h1 h2 h3 h4 h5 h6 h7 h8 v))) (va_A (wH cC cI cJ h0 h1 h2 h3 h4 h5 h6 h7 h8 u) sz)) 3 18 (va_A (wH cC cI cJ h0 h1 h2 h3 h4 h5 h6 h7 h8 u) sz) := by
  refine va_MetW (cc := cL_toward) (maxL := 6) (ret := (some .int)) (by decide) rfl ?_
  intro p e s m args below meth c s₁ B hml hv
  obtain ⟨rfl, hsz, hP, hK, hD0, hXK⟩ := hv
  have hx := B.exec
  have hb := B.bytes
  have hr := B.returns
  have hts : ∀ w ∈ wsL_toward, w.before ([.ref h0, .int a1, .int a2, .int a3, .ref h8] : List Value).toArray s = true := atoms_spec (ws := wsL_toward) B.pre
  have hown : s.vm.findClass RL = some m.cls := findClass_of_methodNamed B.named
  have hlk : meth.locks = false := B.notSynchronized
  subst hsz
  have hD := hD0.self (sz := s.heap.size)
  generalize hAe : va_A (wH cC cI cJ h0 h1 h2 h3 h4 h5 h6 h7 h8 u) s.heap.size = A at hD ⊢
  have hA : ∀ q : Nat, s.heap.size ≤ q → A q := fun q h => by rw [← hAe]; exact Or.inr h
  have hS : va_S A s.heap s.heap [] := va_S.rf
  have hP : va_P D vwCl [(h0, .inr (4, [.ref h1, .ref h2, .ref h5])), (h1, .inl (cJ, 8, .inr (.inl u.1.1))), (h2, .inr (3, [.ref h3, .ref h4, .int u.1.2.1.2.2])), (h3, .inl (cC, 40, .inl u.1.2.1.1)), (h4, .inl (cI, 40, .inl u.1.2.1.2.1)), (h5, .inr (2, [.ref h6, .ref h7, .int u.1.2.2.2.2.1, .int u.1.2.2.2.2.2])), (h6, .inl (cI, 8, .inl u.1.2.2.1)), (h7, .inl (cJ, 8, .inr (.inl u.1.2.2.2.1))), (h8, .inl (cJ, 1, .inr (.inl u.2)))] s.heap := hP
  have hD : va_D A [(h0, .inr (4, [.ref h1, .ref h2, .ref h5])), (h1, .inl (cJ, 8, .inr (.inl u.1.1))), (h2, .inr (3, [.ref h3, .ref h4, .int u.1.2.1.2.2])), (h3, .inl (cC, 40, .inl u.1.2.1.1)), (h4, .inl (cI, 40, .inl u.1.2.1.2.1)), (h5, .inr (2, [.ref h6, .ref h7, .int u.1.2.2.2.2.1, .int u.1.2.2.2.2.2])), (h6, .inl (cI, 8, .inl u.1.2.2.1)), (h7, .inl (cJ, 8, .inr (.inl u.1.2.2.2.1))), (h8, .inl (cJ, 1, .inr (.inl u.2)))] := hD
  have q1 := hts (.classLink RL 13 "java/lang/IndexOutOfBoundsException") (by decide +kernel)
  have q2 := hts (.classLink RL 15 "java/lang/IllegalArgumentException") (by decide +kernel)
  have htab : c.exceptionTable.toList = tableOf [(0, 12, 15, 13), (0, 12, 19, 15)] := vx_table (x := yL_toward) B (hts _ List.mem_cons_self)
  have hl := lv_entry ([.ref h0, .int a1, .int a2, .int a3, .ref h8]) (n := 6) (Nat.le_of_ble_eq_true rfl)
  rw [lg_entry_eq]
  generalize (lg_sl ([.ref h0, .int a1, .int a2, .int a3, .ref h8]) ++ List.replicate (6 - (lg_sl ([.ref h0, .int a1, .int a2, .int a3, .ref h8])).length) Slot.unset).toArray = ls at hl ⊢
  have hl : lv_has ls 6 [(0, .ref h0), (1, .int a1), (2, .int a2), (3, .int a3), (4, .ref h8)] := hl
  unfold f_L_toward at hf
  refine lv_aload hx hb dL_toward_0 (lv_at hl 4 rfl) ?_
  refine lv_iconst (v := 0) hx hb dL_toward_2 (by decide) ?_
  refine lv_aload_n hx hb dL_toward_3 rfl (lv_at hl 0 rfl) ?_
  refine lv_iload_n hx hb dL_toward_4 rfl (lv_at hl 1 rfl) ?_
  refine lv_iload_n hx hb dL_toward_5 rfl (lv_at hl 2 rfl) ?_
  refine lv_iload_n hx hb dL_toward_6 rfl (lv_at hl 3 rfl) ?_
  obtain ⟨z1, ez1, hx9, hf⟩ := xh_e hf
  refine my_callXMi (As := [.int a1, .int a2, .int a3]) (n := 3) (rest := [.int 0, .ref h8]) (wr := [(h8, .inl (cJ, 1, .inr (.inl u.2)))]) ⟨hx, hb, hml, hown, hts⟩ hK hP hD hS hA hXK [0, 1, 2, 3, 4, 5, 6, 7] [8] rfl rfl (by decide) (by decide) (by decide) (m_X5_toward l hl0 D cC cI cJ h0 h1 h2 h3 h4 h5 h6 h7 u.1 s.heap.size a1 a2 a3 _ ez1) gL_toward_X5_toward rfl ⟨rfl, rfl⟩ (ci := 4) rfl rfl (by decide +kernel) ⟨Nat.le_of_ble_eq_true rfl, Nat.le_of_ble_eq_true rfl⟩ ⟨Nat.le_of_ble_eq_true rfl, Nat.le_of_ble_eq_true rfl⟩ hl.1 rfl rfl (Nat.le_of_ble_eq_true rfl) dL_toward_7 (fun E ce q9 H locs hE hk1 hS hce hcv hcl => ?_) (fun r9 u9 H locs hw hP hD hS => ?_)
  · have hf := hx9 E hE
    have hP := my_keep hP hk1
    by_cases c2 : E = "java/lang/IndexOutOfBoundsException"
    · rw [if_pos c2] at hf
      subst c2
      refine my_catch (hp := []) (z := (0, 12, 15, 13)) (hq0 := [(0, 12, 19, 15)]) (name := "java/lang/IndexOutOfBoundsException") hown htab (fun w hw => absurd hw List.not_mem_nil) (by decide) (by decide) q1 (hXK.2.2.1 _ (by decide +kernel)) hce hcv hcl ?_
      refine lv_astore (lv' := [(5, .ref q9), (0, .ref h0), (1, .int a1), (2, .int a2), (3, .int a3), (4, .ref h8)]) hx hb dL_toward_15 hl (by decide) rfl (fun ls hl => ?_)
      refine lv_iconst (v := 1) hx hb dL_toward_17 (by decide) ?_
      have hP9 : va_P D vwCl (wH cC cI cJ h0 h1 h2 h3 h4 h5 h6 h7 h8 u) _ := hP
      have hD9 : va_D A (wH cC cI cJ h0 h1 h2 h3 h4 h5 h6 h7 h8 u) := hD
      have hf := Option.some.inj hf
      have hf1 := congrArg Prod.fst hf
      have hf2 := congrArg Prod.snd hf
      exact W.iret (v := 1) hx hb hr (fun t ht hW => ⟨⟨1, u, rfl, ⟨hf1, hf2⟩, by rw [ht]; exact hP9, va_K.moved hW.alike hK, hD9⟩, hS.F ht⟩) hS.2.2 dL_toward_18
    · rw [if_neg c2] at hf
      by_cases c3 : E = "java/lang/IllegalArgumentException"
      · rw [if_pos c3] at hf
        subst c3
        refine my_catch (hp := [(0, 12, 15, 13)]) (z := (0, 12, 19, 15)) (hq0 := []) (name := "java/lang/IllegalArgumentException") hown htab (fun w hw => by
          simp only [List.mem_cons, List.not_mem_nil, or_false] at hw
          rcases hw with rfl
          · exact ⟨by decide, "java/lang/IndexOutOfBoundsException", q1, hXK.2.2.2.2 ("java/lang/IllegalArgumentException", "java/lang/IndexOutOfBoundsException") (by decide +kernel)⟩) (by decide) (by decide) q2 (hXK.2.2.1 _ (by decide +kernel)) hce hcv hcl ?_
        refine lv_astore (lv' := [(5, .ref q9), (0, .ref h0), (1, .int a1), (2, .int a2), (3, .int a3), (4, .ref h8)]) hx hb dL_toward_19 hl (by decide) rfl (fun ls hl => ?_)
        refine lv_iconst (v := 2) hx hb dL_toward_21 (by decide) ?_
        have hP9 : va_P D vwCl (wH cC cI cJ h0 h1 h2 h3 h4 h5 h6 h7 h8 u) _ := hP
        have hD9 : va_D A (wH cC cI cJ h0 h1 h2 h3 h4 h5 h6 h7 h8 u) := hD
        have hf := Option.some.inj hf
        have hf1 := congrArg Prod.fst hf
        have hf2 := congrArg Prod.snd hf
        exact W.iret (v := 2) hx hb hr (fun t ht hW => ⟨⟨2, u, rfl, ⟨hf1, hf2⟩, by rw [ht]; exact hP9, va_K.moved hW.alike hK, hD9⟩, hS.F ht⟩) hS.2.2 dL_toward_22
      · rw [if_neg c3] at hf
        cases hf
  · obtain ⟨z1, rfl, rfl, hz⟩ := hw
    have hf := hf _ hz
    have hP : va_P D vwCl [(h0, .inr (4, [.ref h1, .ref h2, .ref h5])), (h1, .inl (cJ, 8, .inr (.inl z1.2.1))), (h2, .inr (3, [.ref h3, .ref h4, .int z1.2.2.1.2.2])), (h3, .inl (cC, 40, .inl z1.2.2.1.1)), (h4, .inl (cI, 40, .inl z1.2.2.1.2.1)), (h5, .inr (2, [.ref h6, .ref h7, .int z1.2.2.2.2.2.1, .int z1.2.2.2.2.2.2])), (h6, .inl (cI, 8, .inl z1.2.2.2.1)), (h7, .inl (cJ, 8, .inr (.inl z1.2.2.2.2.1))), (h8, .inl (cJ, 1, .inr (.inl u.2)))] H := hP.sub [1, 2, 3, 4, 5, 6, 7, 8, 0] rfl
    have hD : va_D A [(h0, .inr (4, [.ref h1, .ref h2, .ref h5])), (h1, .inl (cJ, 8, .inr (.inl z1.2.1))), (h2, .inr (3, [.ref h3, .ref h4, .int z1.2.2.1.2.2])), (h3, .inl (cC, 40, .inl z1.2.2.1.1)), (h4, .inl (cI, 40, .inl z1.2.2.1.2.1)), (h5, .inr (2, [.ref h6, .ref h7, .int z1.2.2.2.2.2.1, .int z1.2.2.2.2.2.2])), (h6, .inl (cI, 8, .inl z1.2.2.2.1)), (h7, .inl (cJ, 8, .inr (.inl z1.2.2.2.2.1))), (h8, .inl (cJ, 1, .inr (.inl u.2)))] := hD.sub [1, 2, 3, 4, 5, 6, 7, 8, 0] (by decide) rfl
    refine lv_i2l (v := (z1.1.toInt64)) hx hb dL_toward_10 rfl ?_
    refine va_last hx hb hK hP hD hS 8 2 rfl rfl (show ¬ ((0 : Int32) < 0 ∨ 1 ≤ (0 : Int32).toNatClampNeg) by decide) dL_toward_11 (fun H locs hP hD hS => ?_)
    have hP : va_P D vwCl [(h0, .inr (4, [.ref h1, .ref h2, .ref h5])), (h1, .inl (cJ, 8, .inr (.inl z1.2.1))), (h2, .inr (3, [.ref h3, .ref h4, .int z1.2.2.1.2.2])), (h3, .inl (cC, 40, .inl z1.2.2.1.1)), (h4, .inl (cI, 40, .inl z1.2.2.1.2.1)), (h5, .inr (2, [.ref h6, .ref h7, .int z1.2.2.2.2.2.1, .int z1.2.2.2.2.2.2])), (h6, .inl (cI, 8, .inl z1.2.2.2.1)), (h7, .inl (cJ, 8, .inr (.inl z1.2.2.2.2.1))), (h8, .inl (cJ, 1, .inr (.inl (vp_updL u.2 (0 : Int32).toNatClampNeg (z1.1.toInt64)))))] H := hP
    have hD : va_D A [(h0, .inr (4, [.ref h1, .ref h2, .ref h5])), (h1, .inl (cJ, 8, .inr (.inl z1.2.1))), (h2, .inr (3, [.ref h3, .ref h4, .int z1.2.2.1.2.2])), (h3, .inl (cC, 40, .inl z1.2.2.1.1)), (h4, .inl (cI, 40, .inl z1.2.2.1.2.1)), (h5, .inr (2, [.ref h6, .ref h7, .int z1.2.2.2.2.2.1, .int z1.2.2.2.2.2.2])), (h6, .inl (cI, 8, .inl z1.2.2.2.1)), (h7, .inl (cJ, 8, .inr (.inl z1.2.2.2.2.1))), (h8, .inl (cJ, 1, .inr (.inl (vp_updL u.2 (0 : Int32).toNatClampNeg (z1.1.toInt64)))))] := hD
    refine lv_goto (tgt := 23) hx hb dL_toward_12 (by decide) ?_
    refine lv_iconst (v := 0) hx hb dL_toward_23 (by decide) ?_
    have hP9 : va_P D vwCl (wH cC cI cJ h0 h1 h2 h3 h4 h5 h6 h7 h8 (z1.2, (vp_updL u.2 (0 : Int32).toNatClampNeg (z1.1.toInt64)))) _ := hP
    have hD9 : va_D A (wH cC cI cJ h0 h1 h2 h3 h4 h5 h6 h7 h8 (z1.2, (vp_updL u.2 (0 : Int32).toNatClampNeg (z1.1.toInt64)))) := hD
    have hf := Option.some.inj hf
    have hf1 := congrArg Prod.fst hf
    have hf2 := congrArg Prod.snd hf
    exact W.iret (v := 0) hx hb hr (fun t ht hW => ⟨⟨0, (z1.2, (vp_updL u.2 (0 : Int32).toNatClampNeg (z1.1.toInt64))), rfl, ⟨hf1, hf2⟩, by rw [ht]; exact hP9, va_K.moved hW.alike hK, hD9⟩, hS.F ht⟩) hS.2.2 dL_toward_24

set_option maxHeartbeats 4000000 in
set_option maxRecDepth 100000 in
theorem m_L_walk (l : Launch) (hl0 : l.stackTraces = false) (D : va_G) (cC cI cJ : ClassId) (h0 h1 h2 h3 h4 h5 h6 h7 h8 : Nat) (u : SH) (sz : Nat) (a1 : Int32) (a2 : Int32) (res : Int32 × SH) (hf : f_L_walk u a1 a2 = some res) : Met l yL_walk wsL_walk rmL_walk (my_PcTM D vwCl (KT cC cI cJ) sz (wH cC cI cJ h0 h1 h2 h3 h4 h5 h6 h7 h8 u) [.ref h0, .int a1, .int a2, .ref h8]) (va_Qi (fun r v => r = res.1 ∧ v = res.2) (my_B D vwCl (KT cC cI cJ) (va_A (wH cC cI cJ h0 h1 h2 h3 h4 h5 h6 h7 h8 u) sz) (fun v : SH => (wH cC cI cJ h0 h1 h2 h3 h4 h5 h6 h7 h8 v))) (va_A (wH cC cI cJ h0 h1 h2 h3 h4 h5 h6 h7 h8 u) sz)) 2 12 (va_A (wH cC cI cJ h0 h1 h2 h3 h4 h5 h6 h7 h8 u) sz) := by
  refine va_MetW (cc := cL_walk) (maxL := 5) (ret := (some .int)) (by decide) rfl ?_
  intro p e s m args below meth c s₁ B hml hv
  obtain ⟨rfl, hsz, hP, hK, hD0, hXK⟩ := hv
  have hx := B.exec
  have hb := B.bytes
  have hr := B.returns
  have hts : ∀ w ∈ wsL_walk, w.before ([.ref h0, .int a1, .int a2, .ref h8] : List Value).toArray s = true := atoms_spec (ws := wsL_walk) B.pre
  have hown : s.vm.findClass RL = some m.cls := findClass_of_methodNamed B.named
  have hlk : meth.locks = false := B.notSynchronized
  subst hsz
  have hD := hD0.self (sz := s.heap.size)
  generalize hAe : va_A (wH cC cI cJ h0 h1 h2 h3 h4 h5 h6 h7 h8 u) s.heap.size = A at hD ⊢
  have hA : ∀ q : Nat, s.heap.size ≤ q → A q := fun q h => by rw [← hAe]; exact Or.inr h
  have hS : va_S A s.heap s.heap [] := va_S.rf
  have hP : va_P D vwCl [(h0, .inr (4, [.ref h1, .ref h2, .ref h5])), (h1, .inl (cJ, 8, .inr (.inl u.1.1))), (h2, .inr (3, [.ref h3, .ref h4, .int u.1.2.1.2.2])), (h3, .inl (cC, 40, .inl u.1.2.1.1)), (h4, .inl (cI, 40, .inl u.1.2.1.2.1)), (h5, .inr (2, [.ref h6, .ref h7, .int u.1.2.2.2.2.1, .int u.1.2.2.2.2.2])), (h6, .inl (cI, 8, .inl u.1.2.2.1)), (h7, .inl (cJ, 8, .inr (.inl u.1.2.2.2.1))), (h8, .inl (cJ, 1, .inr (.inl u.2)))] s.heap := hP
  have hD : va_D A [(h0, .inr (4, [.ref h1, .ref h2, .ref h5])), (h1, .inl (cJ, 8, .inr (.inl u.1.1))), (h2, .inr (3, [.ref h3, .ref h4, .int u.1.2.1.2.2])), (h3, .inl (cC, 40, .inl u.1.2.1.1)), (h4, .inl (cI, 40, .inl u.1.2.1.2.1)), (h5, .inr (2, [.ref h6, .ref h7, .int u.1.2.2.2.2.1, .int u.1.2.2.2.2.2])), (h6, .inl (cI, 8, .inl u.1.2.2.1)), (h7, .inl (cJ, 8, .inr (.inl u.1.2.2.2.1))), (h8, .inl (cJ, 1, .inr (.inl u.2)))] := hD
  have q1 := hts (.classLink RL 13 "java/lang/IndexOutOfBoundsException") (by decide +kernel)
  have htab : c.exceptionTable.toList = tableOf [(0, 10, 13, 13)] := vx_table (x := yL_walk) B (hts _ List.mem_cons_self)
  have hl := lv_entry ([.ref h0, .int a1, .int a2, .ref h8]) (n := 5) (Nat.le_of_ble_eq_true rfl)
  rw [lg_entry_eq]
  generalize (lg_sl ([.ref h0, .int a1, .int a2, .ref h8]) ++ List.replicate (5 - (lg_sl ([.ref h0, .int a1, .int a2, .ref h8])).length) Slot.unset).toArray = ls at hl ⊢
  have hl : lv_has ls 5 [(0, .ref h0), (1, .int a1), (2, .int a2), (3, .ref h8)] := hl
  unfold f_L_walk at hf
  refine lv_aload_n hx hb dL_walk_0 rfl (lv_at hl 3 rfl) ?_
  refine lv_iconst (v := 0) hx hb dL_walk_1 (by decide) ?_
  refine lv_aload_n hx hb dL_walk_2 rfl (lv_at hl 0 rfl) ?_
  refine lv_iload_n hx hb dL_walk_3 rfl (lv_at hl 1 rfl) ?_
  refine lv_iload_n hx hb dL_walk_4 rfl (lv_at hl 2 rfl) ?_
  obtain ⟨z1, ez1, hx9, hf⟩ := xh_e hf
  refine my_callXRi (As := [.int a1, .int a2]) (n := 2) (rest := [.int 0, .ref h8]) (wc := (wX cC cI cJ h0 h1 h2 h3 h4 h5 h6 h7 u.1)) ⟨hx, hb, hml, hown, hts⟩ hK hP hS hA hXK [0, 1, 2, 3, 4, 5, 6, 7] rfl (m_X5_walk l hl0 D cC cI cJ h0 h1 h2 h3 h4 h5 h6 h7 u.1 s.heap.size a1 a2 _ ez1) gL_walk_X5_walk rfl ⟨rfl, rfl⟩ (ci := 4) rfl rfl (by decide +kernel) ⟨Nat.le_of_ble_eq_true rfl, Nat.le_of_ble_eq_true rfl⟩ ⟨Nat.le_of_ble_eq_true rfl, Nat.le_of_ble_eq_true rfl⟩ hl.1 rfl rfl (Nat.le_of_ble_eq_true rfl) dL_walk_5 (fun E ce q9 H locs hE hk1 hS hce hcv hcl => ?_) (fun r9 H locs hw hk1 hS => ?_)
  · have hf := hx9 E hE
    have hP := my_keep hP hk1
    by_cases c2 : E = "java/lang/IndexOutOfBoundsException"
    · rw [if_pos c2] at hf
      subst c2
      refine my_catch (hp := []) (z := (0, 10, 13, 13)) (hq0 := []) (name := "java/lang/IndexOutOfBoundsException") hown htab (fun w hw => absurd hw List.not_mem_nil) (by decide) (by decide) q1 (hXK.2.2.1 _ (by decide +kernel)) hce hcv hcl ?_
      refine lv_astore (lv' := [(4, .ref q9), (0, .ref h0), (1, .int a1), (2, .int a2), (3, .ref h8)]) hx hb dL_walk_13 hl (by decide) rfl (fun ls hl => ?_)
      refine lv_iconst (v := 1) hx hb dL_walk_15 (by decide) ?_
      have hP9 : va_P D vwCl (wH cC cI cJ h0 h1 h2 h3 h4 h5 h6 h7 h8 u) _ := hP
      have hD9 : va_D A (wH cC cI cJ h0 h1 h2 h3 h4 h5 h6 h7 h8 u) := hD
      have hf := Option.some.inj hf
      have hf1 := congrArg Prod.fst hf
      have hf2 := congrArg Prod.snd hf
      exact W.iret (v := 1) hx hb hr (fun t ht hW => ⟨⟨1, u, rfl, ⟨hf1, hf2⟩, by rw [ht]; exact hP9, va_K.moved hW.alike hK, hD9⟩, hS.F ht⟩) hS.2.2 dL_walk_16
    · rw [if_neg c2] at hf
      cases hf
  · obtain ⟨z1, hr9, hz⟩ := hw
    obtain rfl := hr9.symm
    have hf := hf _ hz
    have hP := my_keep hP hk1
    refine lv_i2l (v := (z1.toInt64)) hx hb dL_walk_8 rfl ?_
    refine va_last hx hb hK hP hD hS 8 2 rfl rfl (show ¬ ((0 : Int32) < 0 ∨ 1 ≤ (0 : Int32).toNatClampNeg) by decide) dL_walk_9 (fun H locs hP hD hS => ?_)
    have hP : va_P D vwCl [(h0, .inr (4, [.ref h1, .ref h2, .ref h5])), (h1, .inl (cJ, 8, .inr (.inl u.1.1))), (h2, .inr (3, [.ref h3, .ref h4, .int u.1.2.1.2.2])), (h3, .inl (cC, 40, .inl u.1.2.1.1)), (h4, .inl (cI, 40, .inl u.1.2.1.2.1)), (h5, .inr (2, [.ref h6, .ref h7, .int u.1.2.2.2.2.1, .int u.1.2.2.2.2.2])), (h6, .inl (cI, 8, .inl u.1.2.2.1)), (h7, .inl (cJ, 8, .inr (.inl u.1.2.2.2.1))), (h8, .inl (cJ, 1, .inr (.inl (vp_updL u.2 (0 : Int32).toNatClampNeg (z1.toInt64)))))] H := hP
    have hD : va_D A [(h0, .inr (4, [.ref h1, .ref h2, .ref h5])), (h1, .inl (cJ, 8, .inr (.inl u.1.1))), (h2, .inr (3, [.ref h3, .ref h4, .int u.1.2.1.2.2])), (h3, .inl (cC, 40, .inl u.1.2.1.1)), (h4, .inl (cI, 40, .inl u.1.2.1.2.1)), (h5, .inr (2, [.ref h6, .ref h7, .int u.1.2.2.2.2.1, .int u.1.2.2.2.2.2])), (h6, .inl (cI, 8, .inl u.1.2.2.1)), (h7, .inl (cJ, 8, .inr (.inl u.1.2.2.2.1))), (h8, .inl (cJ, 1, .inr (.inl (vp_updL u.2 (0 : Int32).toNatClampNeg (z1.toInt64)))))] := hD
    refine lv_goto (tgt := 17) hx hb dL_walk_10 (by decide) ?_
    refine lv_iconst (v := 0) hx hb dL_walk_17 (by decide) ?_
    have hP9 : va_P D vwCl (wH cC cI cJ h0 h1 h2 h3 h4 h5 h6 h7 h8 (u.1, (vp_updL u.2 (0 : Int32).toNatClampNeg (z1.toInt64)))) _ := hP
    have hD9 : va_D A (wH cC cI cJ h0 h1 h2 h3 h4 h5 h6 h7 h8 (u.1, (vp_updL u.2 (0 : Int32).toNatClampNeg (z1.toInt64)))) := hD
    have hf := Option.some.inj hf
    have hf1 := congrArg Prod.fst hf
    have hf2 := congrArg Prod.snd hf
    exact W.iret (v := 0) hx hb hr (fun t ht hW => ⟨⟨0, (u.1, (vp_updL u.2 (0 : Int32).toNatClampNeg (z1.toInt64))), rfl, ⟨hf1, hf2⟩, by rw [ht]; exact hP9, va_K.moved hW.alike hK, hD9⟩, hS.F ht⟩) hS.2.2 dL_walk_18

set_option maxHeartbeats 4000000 in
set_option maxRecDepth 100000 in
theorem m_L_apart (l : Launch) (hl0 : l.stackTraces = false) (D : va_G) (cC cI cJ : ClassId) (h0 h1 h2 h3 h4 h5 h6 h7 h8 : Nat) (u : SH) (sz : Nat) (a1 : Int32) (a2 : Int32) (res : Int32 × SH) (hf : f_L_apart u a1 a2 = some res) : Met l yL_apart wsL_apart rmL_apart (my_PcTM D vwCl (KT cC cI cJ) sz (wH cC cI cJ h0 h1 h2 h3 h4 h5 h6 h7 h8 u) [.ref h0, .int a1, .int a2, .ref h8]) (va_Qi (fun r v => r = res.1 ∧ v = res.2) (my_B D vwCl (KT cC cI cJ) (va_A (wH cC cI cJ h0 h1 h2 h3 h4 h5 h6 h7 h8 u) sz) (fun v : SH => (wH cC cI cJ h0 h1 h2 h3 h4 h5 h6 h7 h8 v))) (va_A (wH cC cI cJ h0 h1 h2 h3 h4 h5 h6 h7 h8 u) sz)) 2 12 (va_A (wH cC cI cJ h0 h1 h2 h3 h4 h5 h6 h7 h8 u) sz) := by
  refine va_MetW (cc := cL_apart) (maxL := 5) (ret := (some .int)) (by decide) rfl ?_
  intro p e s m args below meth c s₁ B hml hv
  obtain ⟨rfl, hsz, hP, hK, hD0, hXK⟩ := hv
  have hx := B.exec
  have hb := B.bytes
  have hr := B.returns
  have hts : ∀ w ∈ wsL_apart, w.before ([.ref h0, .int a1, .int a2, .ref h8] : List Value).toArray s = true := atoms_spec (ws := wsL_apart) B.pre
  have hown : s.vm.findClass RL = some m.cls := findClass_of_methodNamed B.named
  have hlk : meth.locks = false := B.notSynchronized
  subst hsz
  have hD := hD0.self (sz := s.heap.size)
  generalize hAe : va_A (wH cC cI cJ h0 h1 h2 h3 h4 h5 h6 h7 h8 u) s.heap.size = A at hD ⊢
  have hA : ∀ q : Nat, s.heap.size ≤ q → A q := fun q h => by rw [← hAe]; exact Or.inr h
  have hS : va_S A s.heap s.heap [] := va_S.rf
  have hP : va_P D vwCl [(h0, .inr (4, [.ref h1, .ref h2, .ref h5])), (h1, .inl (cJ, 8, .inr (.inl u.1.1))), (h2, .inr (3, [.ref h3, .ref h4, .int u.1.2.1.2.2])), (h3, .inl (cC, 40, .inl u.1.2.1.1)), (h4, .inl (cI, 40, .inl u.1.2.1.2.1)), (h5, .inr (2, [.ref h6, .ref h7, .int u.1.2.2.2.2.1, .int u.1.2.2.2.2.2])), (h6, .inl (cI, 8, .inl u.1.2.2.1)), (h7, .inl (cJ, 8, .inr (.inl u.1.2.2.2.1))), (h8, .inl (cJ, 1, .inr (.inl u.2)))] s.heap := hP
  have hD : va_D A [(h0, .inr (4, [.ref h1, .ref h2, .ref h5])), (h1, .inl (cJ, 8, .inr (.inl u.1.1))), (h2, .inr (3, [.ref h3, .ref h4, .int u.1.2.1.2.2])), (h3, .inl (cC, 40, .inl u.1.2.1.1)), (h4, .inl (cI, 40, .inl u.1.2.1.2.1)), (h5, .inr (2, [.ref h6, .ref h7, .int u.1.2.2.2.2.1, .int u.1.2.2.2.2.2])), (h6, .inl (cI, 8, .inl u.1.2.2.1)), (h7, .inl (cJ, 8, .inr (.inl u.1.2.2.2.1))), (h8, .inl (cJ, 1, .inr (.inl u.2)))] := hD
  have q1 := hts (.classLink RL 13 "java/lang/IndexOutOfBoundsException") (by decide +kernel)
  have htab : c.exceptionTable.toList = tableOf [(0, 9, 12, 13)] := vx_table (x := yL_apart) B (hts _ List.mem_cons_self)
  have hl := lv_entry ([.ref h0, .int a1, .int a2, .ref h8]) (n := 5) (Nat.le_of_ble_eq_true rfl)
  rw [lg_entry_eq]
  generalize (lg_sl ([.ref h0, .int a1, .int a2, .ref h8]) ++ List.replicate (5 - (lg_sl ([.ref h0, .int a1, .int a2, .ref h8])).length) Slot.unset).toArray = ls at hl ⊢
  have hl : lv_has ls 5 [(0, .ref h0), (1, .int a1), (2, .int a2), (3, .ref h8)] := hl
  unfold f_L_apart at hf
  refine lv_aload_n hx hb dL_apart_0 rfl (lv_at hl 3 rfl) ?_
  refine lv_iconst (v := 0) hx hb dL_apart_1 (by decide) ?_
  refine lv_aload_n hx hb dL_apart_2 rfl (lv_at hl 0 rfl) ?_
  refine lv_iload_n hx hb dL_apart_3 rfl (lv_at hl 1 rfl) ?_
  refine lv_iload_n hx hb dL_apart_4 rfl (lv_at hl 2 rfl) ?_
  obtain ⟨z1, ez1, hx9, hf⟩ := xh_e hf
  refine my_callXRl (As := [.int a1, .int a2]) (n := 2) (rest := [.int 0, .ref h8]) (wc := (wX cC cI cJ h0 h1 h2 h3 h4 h5 h6 h7 u.1)) ⟨hx, hb, hml, hown, hts⟩ hK hP hS hA hXK [0, 1, 2, 3, 4, 5, 6, 7] rfl (m_X5_apart l hl0 D cC cI cJ h0 h1 h2 h3 h4 h5 h6 h7 u.1 s.heap.size a1 a2 _ ez1) gL_apart_X5_apart rfl ⟨rfl, rfl⟩ (ci := 4) rfl rfl (by decide +kernel) ⟨Nat.le_of_ble_eq_true rfl, Nat.le_of_ble_eq_true rfl⟩ ⟨Nat.le_of_ble_eq_true rfl, Nat.le_of_ble_eq_true rfl⟩ hl.1 rfl rfl (Nat.le_of_ble_eq_true rfl) dL_apart_5 (fun E ce q9 H locs hE hk1 hS hce hcv hcl => ?_) (fun r9 H locs hw hk1 hS => ?_)
  · have hf := hx9 E hE
    have hP := my_keep hP hk1
    by_cases c2 : E = "java/lang/IndexOutOfBoundsException"
    · rw [if_pos c2] at hf
      subst c2
      refine my_catch (hp := []) (z := (0, 9, 12, 13)) (hq0 := []) (name := "java/lang/IndexOutOfBoundsException") hown htab (fun w hw => absurd hw List.not_mem_nil) (by decide) (by decide) q1 (hXK.2.2.1 _ (by decide +kernel)) hce hcv hcl ?_
      refine lv_astore (lv' := [(4, .ref q9), (0, .ref h0), (1, .int a1), (2, .int a2), (3, .ref h8)]) hx hb dL_apart_12 hl (by decide) rfl (fun ls hl => ?_)
      refine lv_iconst (v := 1) hx hb dL_apart_14 (by decide) ?_
      have hP9 : va_P D vwCl (wH cC cI cJ h0 h1 h2 h3 h4 h5 h6 h7 h8 u) _ := hP
      have hD9 : va_D A (wH cC cI cJ h0 h1 h2 h3 h4 h5 h6 h7 h8 u) := hD
      have hf := Option.some.inj hf
      have hf1 := congrArg Prod.fst hf
      have hf2 := congrArg Prod.snd hf
      exact W.iret (v := 1) hx hb hr (fun t ht hW => ⟨⟨1, u, rfl, ⟨hf1, hf2⟩, by rw [ht]; exact hP9, va_K.moved hW.alike hK, hD9⟩, hS.F ht⟩) hS.2.2 dL_apart_15
    · rw [if_neg c2] at hf
      cases hf
  · obtain ⟨z1, hr9, hz⟩ := hw
    obtain rfl := hr9.symm
    have hf := hf _ hz
    have hP := my_keep hP hk1
    refine va_last hx hb hK hP hD hS 8 2 rfl rfl (show ¬ ((0 : Int32) < 0 ∨ 1 ≤ (0 : Int32).toNatClampNeg) by decide) dL_apart_8 (fun H locs hP hD hS => ?_)
    have hP : va_P D vwCl [(h0, .inr (4, [.ref h1, .ref h2, .ref h5])), (h1, .inl (cJ, 8, .inr (.inl u.1.1))), (h2, .inr (3, [.ref h3, .ref h4, .int u.1.2.1.2.2])), (h3, .inl (cC, 40, .inl u.1.2.1.1)), (h4, .inl (cI, 40, .inl u.1.2.1.2.1)), (h5, .inr (2, [.ref h6, .ref h7, .int u.1.2.2.2.2.1, .int u.1.2.2.2.2.2])), (h6, .inl (cI, 8, .inl u.1.2.2.1)), (h7, .inl (cJ, 8, .inr (.inl u.1.2.2.2.1))), (h8, .inl (cJ, 1, .inr (.inl (vp_updL u.2 (0 : Int32).toNatClampNeg z1))))] H := hP
    have hD : va_D A [(h0, .inr (4, [.ref h1, .ref h2, .ref h5])), (h1, .inl (cJ, 8, .inr (.inl u.1.1))), (h2, .inr (3, [.ref h3, .ref h4, .int u.1.2.1.2.2])), (h3, .inl (cC, 40, .inl u.1.2.1.1)), (h4, .inl (cI, 40, .inl u.1.2.1.2.1)), (h5, .inr (2, [.ref h6, .ref h7, .int u.1.2.2.2.2.1, .int u.1.2.2.2.2.2])), (h6, .inl (cI, 8, .inl u.1.2.2.1)), (h7, .inl (cJ, 8, .inr (.inl u.1.2.2.2.1))), (h8, .inl (cJ, 1, .inr (.inl (vp_updL u.2 (0 : Int32).toNatClampNeg z1))))] := hD
    refine lv_goto (tgt := 16) hx hb dL_apart_9 (by decide) ?_
    refine lv_iconst (v := 0) hx hb dL_apart_16 (by decide) ?_
    have hP9 : va_P D vwCl (wH cC cI cJ h0 h1 h2 h3 h4 h5 h6 h7 h8 (u.1, (vp_updL u.2 (0 : Int32).toNatClampNeg z1))) _ := hP
    have hD9 : va_D A (wH cC cI cJ h0 h1 h2 h3 h4 h5 h6 h7 h8 (u.1, (vp_updL u.2 (0 : Int32).toNatClampNeg z1))) := hD
    have hf := Option.some.inj hf
    have hf1 := congrArg Prod.fst hf
    have hf2 := congrArg Prod.snd hf
    exact W.iret (v := 0) hx hb hr (fun t ht hW => ⟨⟨0, (u.1, (vp_updL u.2 (0 : Int32).toNatClampNeg z1)), rfl, ⟨hf1, hf2⟩, by rw [ht]; exact hP9, va_K.moved hW.alike hK, hD9⟩, hS.F ht⟩) hS.2.2 dL_apart_17

set_option maxHeartbeats 4000000 in
set_option maxRecDepth 100000 in
theorem m_L_areNext (l : Launch) (hl0 : l.stackTraces = false) (D : va_G) (cC cI cJ : ClassId) (h0 h1 h2 h3 h4 h5 h6 h7 h8 : Nat) (u : SH) (sz : Nat) (a1 : Int32) (a2 : Int32) (res : Int32 × SH) (hf : f_L_areNext u a1 a2 = some res) : Met l yL_areNext wsL_areNext rmL_areNext (my_PcTM D vwCl (KT cC cI cJ) sz (wH cC cI cJ h0 h1 h2 h3 h4 h5 h6 h7 h8 u) [.ref h0, .int a1, .int a2, .ref h8]) (va_Qi (fun r v => r = res.1 ∧ v = res.2) (my_B D vwCl (KT cC cI cJ) (va_A (wH cC cI cJ h0 h1 h2 h3 h4 h5 h6 h7 h8 u) sz) (fun v : SH => (wH cC cI cJ h0 h1 h2 h3 h4 h5 h6 h7 h8 v))) (va_A (wH cC cI cJ h0 h1 h2 h3 h4 h5 h6 h7 h8 u) sz)) 2 12 (va_A (wH cC cI cJ h0 h1 h2 h3 h4 h5 h6 h7 h8 u) sz) := by
  refine va_MetW (cc := cL_areNext) (maxL := 5) (ret := (some .int)) (by decide) rfl ?_
  intro p e s m args below meth c s₁ B hml hv
  obtain ⟨rfl, hsz, hP, hK, hD0, hXK⟩ := hv
  have hx := B.exec
  have hb := B.bytes
  have hr := B.returns
  have hts : ∀ w ∈ wsL_areNext, w.before ([.ref h0, .int a1, .int a2, .ref h8] : List Value).toArray s = true := atoms_spec (ws := wsL_areNext) B.pre
  have hown : s.vm.findClass RL = some m.cls := findClass_of_methodNamed B.named
  have hlk : meth.locks = false := B.notSynchronized
  subst hsz
  have hD := hD0.self (sz := s.heap.size)
  generalize hAe : va_A (wH cC cI cJ h0 h1 h2 h3 h4 h5 h6 h7 h8 u) s.heap.size = A at hD ⊢
  have hA : ∀ q : Nat, s.heap.size ≤ q → A q := fun q h => by rw [← hAe]; exact Or.inr h
  have hS : va_S A s.heap s.heap [] := va_S.rf
  have hP : va_P D vwCl [(h0, .inr (4, [.ref h1, .ref h2, .ref h5])), (h1, .inl (cJ, 8, .inr (.inl u.1.1))), (h2, .inr (3, [.ref h3, .ref h4, .int u.1.2.1.2.2])), (h3, .inl (cC, 40, .inl u.1.2.1.1)), (h4, .inl (cI, 40, .inl u.1.2.1.2.1)), (h5, .inr (2, [.ref h6, .ref h7, .int u.1.2.2.2.2.1, .int u.1.2.2.2.2.2])), (h6, .inl (cI, 8, .inl u.1.2.2.1)), (h7, .inl (cJ, 8, .inr (.inl u.1.2.2.2.1))), (h8, .inl (cJ, 1, .inr (.inl u.2)))] s.heap := hP
  have hD : va_D A [(h0, .inr (4, [.ref h1, .ref h2, .ref h5])), (h1, .inl (cJ, 8, .inr (.inl u.1.1))), (h2, .inr (3, [.ref h3, .ref h4, .int u.1.2.1.2.2])), (h3, .inl (cC, 40, .inl u.1.2.1.1)), (h4, .inl (cI, 40, .inl u.1.2.1.2.1)), (h5, .inr (2, [.ref h6, .ref h7, .int u.1.2.2.2.2.1, .int u.1.2.2.2.2.2])), (h6, .inl (cI, 8, .inl u.1.2.2.1)), (h7, .inl (cJ, 8, .inr (.inl u.1.2.2.2.1))), (h8, .inl (cJ, 1, .inr (.inl u.2)))] := hD
  have q1 := hts (.classLink RL 13 "java/lang/IndexOutOfBoundsException") (by decide +kernel)
  have htab : c.exceptionTable.toList = tableOf [(0, 17, 20, 13)] := vx_table (x := yL_areNext) B (hts _ List.mem_cons_self)
  have hl := lv_entry ([.ref h0, .int a1, .int a2, .ref h8]) (n := 5) (Nat.le_of_ble_eq_true rfl)
  rw [lg_entry_eq]
  generalize (lg_sl ([.ref h0, .int a1, .int a2, .ref h8]) ++ List.replicate (5 - (lg_sl ([.ref h0, .int a1, .int a2, .ref h8])).length) Slot.unset).toArray = ls at hl ⊢
  have hl : lv_has ls 5 [(0, .ref h0), (1, .int a1), (2, .int a2), (3, .ref h8)] := hl
  unfold f_L_areNext at hf
  refine lv_aload_n hx hb dL_areNext_0 rfl (lv_at hl 3 rfl) ?_
  refine lv_iconst (v := 0) hx hb dL_areNext_1 (by decide) ?_
  refine lv_aload_n hx hb dL_areNext_2 rfl (lv_at hl 0 rfl) ?_
  refine lv_iload_n hx hb dL_areNext_3 rfl (lv_at hl 1 rfl) ?_
  refine lv_iload_n hx hb dL_areNext_4 rfl (lv_at hl 2 rfl) ?_
  obtain ⟨z1, ez1, hx9, hf⟩ := xh_e hf
  refine my_callXRi (As := [.int a1, .int a2]) (n := 2) (rest := [.int 0, .ref h8]) (wc := (wX cC cI cJ h0 h1 h2 h3 h4 h5 h6 h7 u.1)) ⟨hx, hb, hml, hown, hts⟩ hK hP hS hA hXK [0, 1, 2, 3, 4, 5, 6, 7] rfl (m_X5_areNext l hl0 D cC cI cJ h0 h1 h2 h3 h4 h5 h6 h7 u.1 s.heap.size a1 a2 _ ez1) gL_areNext_X5_areNext rfl ⟨rfl, rfl⟩ (ci := 4) rfl rfl (by decide +kernel) ⟨Nat.le_of_ble_eq_true rfl, Nat.le_of_ble_eq_true rfl⟩ ⟨Nat.le_of_ble_eq_true rfl, Nat.le_of_ble_eq_true rfl⟩ hl.1 rfl rfl (Nat.le_of_ble_eq_true rfl) dL_areNext_5 (fun E ce q9 H locs hE hk1 hS hce hcv hcl => ?_) (fun r9 H locs hw hk1 hS => ?_)
  · have hf := hx9 E hE
    have hP := my_keep hP hk1
    by_cases c2 : E = "java/lang/IndexOutOfBoundsException"
    · rw [if_pos c2] at hf
      subst c2
      refine my_catch (hp := []) (z := (0, 17, 20, 13)) (hq0 := []) (name := "java/lang/IndexOutOfBoundsException") hown htab (fun w hw => absurd hw List.not_mem_nil) (by decide) (by decide) q1 (hXK.2.2.1 _ (by decide +kernel)) hce hcv hcl ?_
      refine lv_astore (lv' := [(4, .ref q9), (0, .ref h0), (1, .int a1), (2, .int a2), (3, .ref h8)]) hx hb dL_areNext_20 hl (by decide) rfl (fun ls hl => ?_)
      refine lv_iconst (v := 1) hx hb dL_areNext_22 (by decide) ?_
      have hP9 : va_P D vwCl (wH cC cI cJ h0 h1 h2 h3 h4 h5 h6 h7 h8 u) _ := hP
      have hD9 : va_D A (wH cC cI cJ h0 h1 h2 h3 h4 h5 h6 h7 h8 u) := hD
      have hf := Option.some.inj hf
      have hf1 := congrArg Prod.fst hf
      have hf2 := congrArg Prod.snd hf
      exact W.iret (v := 1) hx hb hr (fun t ht hW => ⟨⟨1, u, rfl, ⟨hf1, hf2⟩, by rw [ht]; exact hP9, va_K.moved hW.alike hK, hD9⟩, hS.F ht⟩) hS.2.2 dL_areNext_23
    · rw [if_neg c2] at hf
      cases hf
  · obtain ⟨z1, hr9, hz⟩ := hw
    obtain rfl := hr9.symm
    have hf := hf _ hz
    have hP := my_keep hP hk1
    refine my_bz_eq (x := z1) (tgt := 15) hx hb dL_areNext_8 (by decide) (fun c3 => ?_) (fun c3 => ?_)
    · rw [if_pos c3] at hf
      refine lv_lconst (v := 0) hx hb dL_areNext_15 (by decide) ?_
      refine va_last hx hb hK hP hD hS 8 2 rfl rfl (show ¬ ((0 : Int32) < 0 ∨ 1 ≤ (0 : Int32).toNatClampNeg) by decide) dL_areNext_16 (fun H locs hP hD hS => ?_)
      have hP : va_P D vwCl [(h0, .inr (4, [.ref h1, .ref h2, .ref h5])), (h1, .inl (cJ, 8, .inr (.inl u.1.1))), (h2, .inr (3, [.ref h3, .ref h4, .int u.1.2.1.2.2])), (h3, .inl (cC, 40, .inl u.1.2.1.1)), (h4, .inl (cI, 40, .inl u.1.2.1.2.1)), (h5, .inr (2, [.ref h6, .ref h7, .int u.1.2.2.2.2.1, .int u.1.2.2.2.2.2])), (h6, .inl (cI, 8, .inl u.1.2.2.1)), (h7, .inl (cJ, 8, .inr (.inl u.1.2.2.2.1))), (h8, .inl (cJ, 1, .inr (.inl (vp_updL u.2 (0 : Int32).toNatClampNeg 0))))] H := hP
      have hD : va_D A [(h0, .inr (4, [.ref h1, .ref h2, .ref h5])), (h1, .inl (cJ, 8, .inr (.inl u.1.1))), (h2, .inr (3, [.ref h3, .ref h4, .int u.1.2.1.2.2])), (h3, .inl (cC, 40, .inl u.1.2.1.1)), (h4, .inl (cI, 40, .inl u.1.2.1.2.1)), (h5, .inr (2, [.ref h6, .ref h7, .int u.1.2.2.2.2.1, .int u.1.2.2.2.2.2])), (h6, .inl (cI, 8, .inl u.1.2.2.1)), (h7, .inl (cJ, 8, .inr (.inl u.1.2.2.2.1))), (h8, .inl (cJ, 1, .inr (.inl (vp_updL u.2 (0 : Int32).toNatClampNeg 0))))] := hD
      refine lv_goto (tgt := 24) hx hb dL_areNext_17 (by decide) ?_
      refine lv_iconst (v := 0) hx hb dL_areNext_24 (by decide) ?_
      have hP9 : va_P D vwCl (wH cC cI cJ h0 h1 h2 h3 h4 h5 h6 h7 h8 (u.1, (vp_updL u.2 (0 : Int32).toNatClampNeg 0))) _ := hP
      have hD9 : va_D A (wH cC cI cJ h0 h1 h2 h3 h4 h5 h6 h7 h8 (u.1, (vp_updL u.2 (0 : Int32).toNatClampNeg 0))) := hD
      have hf := Option.some.inj hf
      have hf1 := congrArg Prod.fst hf
      have hf2 := congrArg Prod.snd hf
      exact W.iret (v := 0) hx hb hr (fun t ht hW => ⟨⟨0, (u.1, (vp_updL u.2 (0 : Int32).toNatClampNeg 0)), rfl, ⟨hf1, hf2⟩, by rw [ht]; exact hP9, va_K.moved hW.alike hK, hD9⟩, hS.F ht⟩) hS.2.2 dL_areNext_25
    · rw [if_neg c3] at hf
      refine lv_lconst (v := 1) hx hb dL_areNext_11 (by decide) ?_
      refine lv_goto (tgt := 16) hx hb dL_areNext_12 (by decide) ?_
      refine va_last hx hb hK hP hD hS 8 2 rfl rfl (show ¬ ((0 : Int32) < 0 ∨ 1 ≤ (0 : Int32).toNatClampNeg) by decide) dL_areNext_16 (fun H locs hP hD hS => ?_)
      have hP : va_P D vwCl [(h0, .inr (4, [.ref h1, .ref h2, .ref h5])), (h1, .inl (cJ, 8, .inr (.inl u.1.1))), (h2, .inr (3, [.ref h3, .ref h4, .int u.1.2.1.2.2])), (h3, .inl (cC, 40, .inl u.1.2.1.1)), (h4, .inl (cI, 40, .inl u.1.2.1.2.1)), (h5, .inr (2, [.ref h6, .ref h7, .int u.1.2.2.2.2.1, .int u.1.2.2.2.2.2])), (h6, .inl (cI, 8, .inl u.1.2.2.1)), (h7, .inl (cJ, 8, .inr (.inl u.1.2.2.2.1))), (h8, .inl (cJ, 1, .inr (.inl (vp_updL u.2 (0 : Int32).toNatClampNeg 1))))] H := hP
      have hD : va_D A [(h0, .inr (4, [.ref h1, .ref h2, .ref h5])), (h1, .inl (cJ, 8, .inr (.inl u.1.1))), (h2, .inr (3, [.ref h3, .ref h4, .int u.1.2.1.2.2])), (h3, .inl (cC, 40, .inl u.1.2.1.1)), (h4, .inl (cI, 40, .inl u.1.2.1.2.1)), (h5, .inr (2, [.ref h6, .ref h7, .int u.1.2.2.2.2.1, .int u.1.2.2.2.2.2])), (h6, .inl (cI, 8, .inl u.1.2.2.1)), (h7, .inl (cJ, 8, .inr (.inl u.1.2.2.2.1))), (h8, .inl (cJ, 1, .inr (.inl (vp_updL u.2 (0 : Int32).toNatClampNeg 1))))] := hD
      refine lv_goto (tgt := 24) hx hb dL_areNext_17 (by decide) ?_
      refine lv_iconst (v := 0) hx hb dL_areNext_24 (by decide) ?_
      have hP9 : va_P D vwCl (wH cC cI cJ h0 h1 h2 h3 h4 h5 h6 h7 h8 (u.1, (vp_updL u.2 (0 : Int32).toNatClampNeg 1))) _ := hP
      have hD9 : va_D A (wH cC cI cJ h0 h1 h2 h3 h4 h5 h6 h7 h8 (u.1, (vp_updL u.2 (0 : Int32).toNatClampNeg 1))) := hD
      have hf := Option.some.inj hf
      have hf1 := congrArg Prod.fst hf
      have hf2 := congrArg Prod.snd hf
      exact W.iret (v := 0) hx hb hr (fun t ht hW => ⟨⟨0, (u.1, (vp_updL u.2 (0 : Int32).toNatClampNeg 1)), rfl, ⟨hf1, hf2⟩, by rw [ht]; exact hP9, va_K.moved hW.alike hK, hD9⟩, hS.F ht⟩) hS.2.2 dL_areNext_25

set_option maxHeartbeats 4000000 in
set_option maxRecDepth 100000 in
theorem m_L_middle (l : Launch) (hl0 : l.stackTraces = false) (D : va_G) (cC cI cJ : ClassId) (h0 h1 h2 h3 h4 h5 h6 h7 h8 : Nat) (u : SH) (sz : Nat) (a1 : Int32) (a2 : Int32) (a3 : Int32) (res : Int32 × SH) (hf : f_L_middle u a1 a2 a3 = some res) : Met l yL_middle wsL_middle rmL_middle (my_PcTM D vwCl (KT cC cI cJ) sz (wH cC cI cJ h0 h1 h2 h3 h4 h5 h6 h7 h8 u) [.ref h0, .int a1, .int a2, .int a3, .ref h8]) (va_Qi (fun r v => r = res.1 ∧ v = res.2) (my_B D vwCl (KT cC cI cJ) (va_A (wH cC cI cJ h0 h1 h2 h3 h4 h5 h6 h7 h8 u) sz) (fun v : SH => (wH cC cI cJ h0 h1 h2 h3 h4 h5 h6 h7 h8 v))) (va_A (wH cC cI cJ h0 h1 h2 h3 h4 h5 h6 h7 h8 u) sz)) 3 18 (va_A (wH cC cI cJ h0 h1 h2 h3 h4 h5 h6 h7 h8 u) sz) := by
  refine va_MetW (cc := cL_middle) (maxL := 6) (ret := (some .int)) (by decide) rfl ?_
  intro p e s m args below meth c s₁ B hml hv
  obtain ⟨rfl, hsz, hP, hK, hD0, hXK⟩ := hv
  have hx := B.exec
  have hb := B.bytes
  have hr := B.returns
  have hts : ∀ w ∈ wsL_middle, w.before ([.ref h0, .int a1, .int a2, .int a3, .ref h8] : List Value).toArray s = true := atoms_spec (ws := wsL_middle) B.pre
  have hown : s.vm.findClass RL = some m.cls := findClass_of_methodNamed B.named
  have hlk : meth.locks = false := B.notSynchronized
  subst hsz
  have hD := hD0.self (sz := s.heap.size)
  generalize hAe : va_A (wH cC cI cJ h0 h1 h2 h3 h4 h5 h6 h7 h8 u) s.heap.size = A at hD ⊢
  have hA : ∀ q : Nat, s.heap.size ≤ q → A q := fun q h => by rw [← hAe]; exact Or.inr h
  have hS : va_S A s.heap s.heap [] := va_S.rf
  have hP : va_P D vwCl [(h0, .inr (4, [.ref h1, .ref h2, .ref h5])), (h1, .inl (cJ, 8, .inr (.inl u.1.1))), (h2, .inr (3, [.ref h3, .ref h4, .int u.1.2.1.2.2])), (h3, .inl (cC, 40, .inl u.1.2.1.1)), (h4, .inl (cI, 40, .inl u.1.2.1.2.1)), (h5, .inr (2, [.ref h6, .ref h7, .int u.1.2.2.2.2.1, .int u.1.2.2.2.2.2])), (h6, .inl (cI, 8, .inl u.1.2.2.1)), (h7, .inl (cJ, 8, .inr (.inl u.1.2.2.2.1))), (h8, .inl (cJ, 1, .inr (.inl u.2)))] s.heap := hP
  have hD : va_D A [(h0, .inr (4, [.ref h1, .ref h2, .ref h5])), (h1, .inl (cJ, 8, .inr (.inl u.1.1))), (h2, .inr (3, [.ref h3, .ref h4, .int u.1.2.1.2.2])), (h3, .inl (cC, 40, .inl u.1.2.1.1)), (h4, .inl (cI, 40, .inl u.1.2.1.2.1)), (h5, .inr (2, [.ref h6, .ref h7, .int u.1.2.2.2.2.1, .int u.1.2.2.2.2.2])), (h6, .inl (cI, 8, .inl u.1.2.2.1)), (h7, .inl (cJ, 8, .inr (.inl u.1.2.2.2.1))), (h8, .inl (cJ, 1, .inr (.inl u.2)))] := hD
  have q1 := hts (.classLink RL 13 "java/lang/IndexOutOfBoundsException") (by decide +kernel)
  have htab : c.exceptionTable.toList = tableOf [(0, 11, 14, 13)] := vx_table (x := yL_middle) B (hts _ List.mem_cons_self)
  have hl := lv_entry ([.ref h0, .int a1, .int a2, .int a3, .ref h8]) (n := 6) (Nat.le_of_ble_eq_true rfl)
  rw [lg_entry_eq]
  generalize (lg_sl ([.ref h0, .int a1, .int a2, .int a3, .ref h8]) ++ List.replicate (6 - (lg_sl ([.ref h0, .int a1, .int a2, .int a3, .ref h8])).length) Slot.unset).toArray = ls at hl ⊢
  have hl : lv_has ls 6 [(0, .ref h0), (1, .int a1), (2, .int a2), (3, .int a3), (4, .ref h8)] := hl
  unfold f_L_middle at hf
  refine lv_aload hx hb dL_middle_0 (lv_at hl 4 rfl) ?_
  refine lv_iconst (v := 0) hx hb dL_middle_2 (by decide) ?_
  refine lv_aload_n hx hb dL_middle_3 rfl (lv_at hl 0 rfl) ?_
  refine lv_iload_n hx hb dL_middle_4 rfl (lv_at hl 1 rfl) ?_
  refine lv_iload_n hx hb dL_middle_5 rfl (lv_at hl 2 rfl) ?_
  refine lv_iload_n hx hb dL_middle_6 rfl (lv_at hl 3 rfl) ?_
  obtain ⟨z1, ez1, hx9, hf⟩ := xh_e hf
  refine my_callXMl (As := [.int a1, .int a2, .int a3]) (n := 3) (rest := [.int 0, .ref h8]) (wr := [(h8, .inl (cJ, 1, .inr (.inl u.2)))]) ⟨hx, hb, hml, hown, hts⟩ hK hP hD hS hA hXK [0, 1, 2, 3, 4, 5, 6, 7] [8] rfl rfl (by decide) (by decide) (by decide) (m_X5_middle l hl0 D cC cI cJ h0 h1 h2 h3 h4 h5 h6 h7 u.1 s.heap.size a1 a2 a3 _ ez1) gL_middle_X5_middle rfl ⟨rfl, rfl⟩ (ci := 4) rfl rfl (by decide +kernel) ⟨Nat.le_of_ble_eq_true rfl, Nat.le_of_ble_eq_true rfl⟩ ⟨Nat.le_of_ble_eq_true rfl, Nat.le_of_ble_eq_true rfl⟩ hl.1 rfl rfl (Nat.le_of_ble_eq_true rfl) dL_middle_7 (fun E ce q9 H locs hE hk1 hS hce hcv hcl => ?_) (fun r9 u9 H locs hw hP hD hS => ?_)
  · have hf := hx9 E hE
    have hP := my_keep hP hk1
    by_cases c2 : E = "java/lang/IndexOutOfBoundsException"
    · rw [if_pos c2] at hf
      subst c2
      refine my_catch (hp := []) (z := (0, 11, 14, 13)) (hq0 := []) (name := "java/lang/IndexOutOfBoundsException") hown htab (fun w hw => absurd hw List.not_mem_nil) (by decide) (by decide) q1 (hXK.2.2.1 _ (by decide +kernel)) hce hcv hcl ?_
      refine lv_astore (lv' := [(5, .ref q9), (0, .ref h0), (1, .int a1), (2, .int a2), (3, .int a3), (4, .ref h8)]) hx hb dL_middle_14 hl (by decide) rfl (fun ls hl => ?_)
      refine lv_iconst (v := 1) hx hb dL_middle_16 (by decide) ?_
      have hP9 : va_P D vwCl (wH cC cI cJ h0 h1 h2 h3 h4 h5 h6 h7 h8 u) _ := hP
      have hD9 : va_D A (wH cC cI cJ h0 h1 h2 h3 h4 h5 h6 h7 h8 u) := hD
      have hf := Option.some.inj hf
      have hf1 := congrArg Prod.fst hf
      have hf2 := congrArg Prod.snd hf
      exact W.iret (v := 1) hx hb hr (fun t ht hW => ⟨⟨1, u, rfl, ⟨hf1, hf2⟩, by rw [ht]; exact hP9, va_K.moved hW.alike hK, hD9⟩, hS.F ht⟩) hS.2.2 dL_middle_17
    · rw [if_neg c2] at hf
      cases hf
  · obtain ⟨z1, rfl, rfl, hz⟩ := hw
    have hf := hf _ hz
    have hP : va_P D vwCl [(h0, .inr (4, [.ref h1, .ref h2, .ref h5])), (h1, .inl (cJ, 8, .inr (.inl z1.2.1))), (h2, .inr (3, [.ref h3, .ref h4, .int z1.2.2.1.2.2])), (h3, .inl (cC, 40, .inl z1.2.2.1.1)), (h4, .inl (cI, 40, .inl z1.2.2.1.2.1)), (h5, .inr (2, [.ref h6, .ref h7, .int z1.2.2.2.2.2.1, .int z1.2.2.2.2.2.2])), (h6, .inl (cI, 8, .inl z1.2.2.2.1)), (h7, .inl (cJ, 8, .inr (.inl z1.2.2.2.2.1))), (h8, .inl (cJ, 1, .inr (.inl u.2)))] H := hP.sub [1, 2, 3, 4, 5, 6, 7, 8, 0] rfl
    have hD : va_D A [(h0, .inr (4, [.ref h1, .ref h2, .ref h5])), (h1, .inl (cJ, 8, .inr (.inl z1.2.1))), (h2, .inr (3, [.ref h3, .ref h4, .int z1.2.2.1.2.2])), (h3, .inl (cC, 40, .inl z1.2.2.1.1)), (h4, .inl (cI, 40, .inl z1.2.2.1.2.1)), (h5, .inr (2, [.ref h6, .ref h7, .int z1.2.2.2.2.2.1, .int z1.2.2.2.2.2.2])), (h6, .inl (cI, 8, .inl z1.2.2.2.1)), (h7, .inl (cJ, 8, .inr (.inl z1.2.2.2.2.1))), (h8, .inl (cJ, 1, .inr (.inl u.2)))] := hD.sub [1, 2, 3, 4, 5, 6, 7, 8, 0] (by decide) rfl
    refine va_last hx hb hK hP hD hS 8 2 rfl rfl (show ¬ ((0 : Int32) < 0 ∨ 1 ≤ (0 : Int32).toNatClampNeg) by decide) dL_middle_10 (fun H locs hP hD hS => ?_)
    have hP : va_P D vwCl [(h0, .inr (4, [.ref h1, .ref h2, .ref h5])), (h1, .inl (cJ, 8, .inr (.inl z1.2.1))), (h2, .inr (3, [.ref h3, .ref h4, .int z1.2.2.1.2.2])), (h3, .inl (cC, 40, .inl z1.2.2.1.1)), (h4, .inl (cI, 40, .inl z1.2.2.1.2.1)), (h5, .inr (2, [.ref h6, .ref h7, .int z1.2.2.2.2.2.1, .int z1.2.2.2.2.2.2])), (h6, .inl (cI, 8, .inl z1.2.2.2.1)), (h7, .inl (cJ, 8, .inr (.inl z1.2.2.2.2.1))), (h8, .inl (cJ, 1, .inr (.inl (vp_updL u.2 (0 : Int32).toNatClampNeg z1.1))))] H := hP
    have hD : va_D A [(h0, .inr (4, [.ref h1, .ref h2, .ref h5])), (h1, .inl (cJ, 8, .inr (.inl z1.2.1))), (h2, .inr (3, [.ref h3, .ref h4, .int z1.2.2.1.2.2])), (h3, .inl (cC, 40, .inl z1.2.2.1.1)), (h4, .inl (cI, 40, .inl z1.2.2.1.2.1)), (h5, .inr (2, [.ref h6, .ref h7, .int z1.2.2.2.2.2.1, .int z1.2.2.2.2.2.2])), (h6, .inl (cI, 8, .inl z1.2.2.2.1)), (h7, .inl (cJ, 8, .inr (.inl z1.2.2.2.2.1))), (h8, .inl (cJ, 1, .inr (.inl (vp_updL u.2 (0 : Int32).toNatClampNeg z1.1))))] := hD
    refine lv_goto (tgt := 18) hx hb dL_middle_11 (by decide) ?_
    refine lv_iconst (v := 0) hx hb dL_middle_18 (by decide) ?_
    have hP9 : va_P D vwCl (wH cC cI cJ h0 h1 h2 h3 h4 h5 h6 h7 h8 (z1.2, (vp_updL u.2 (0 : Int32).toNatClampNeg z1.1))) _ := hP
    have hD9 : va_D A (wH cC cI cJ h0 h1 h2 h3 h4 h5 h6 h7 h8 (z1.2, (vp_updL u.2 (0 : Int32).toNatClampNeg z1.1))) := hD
    have hf := Option.some.inj hf
    have hf1 := congrArg Prod.fst hf
    have hf2 := congrArg Prod.snd hf
    exact W.iret (v := 0) hx hb hr (fun t ht hW => ⟨⟨0, (z1.2, (vp_updL u.2 (0 : Int32).toNatClampNeg z1.1)), rfl, ⟨hf1, hf2⟩, by rw [ht]; exact hP9, va_K.moved hW.alike hK, hD9⟩, hS.F ht⟩) hS.2.2 dL_middle_19

set_option maxHeartbeats 4000000 in
set_option maxRecDepth 100000 in
theorem m_L_halvings (l : Launch) (hl0 : l.stackTraces = false) (D : va_G) (cC cI cJ : ClassId) (h0 h1 h2 h3 h4 h5 h6 h7 h8 : Nat) (u : SH) (sz : Nat) (a1 : Int32) (a2 : Int32) (res : Int32 × SH) (hf : f_L_halvings u a1 a2 = some res) : Met l yL_halvings wsL_halvings rmL_halvings (my_PcTM D vwCl (KT cC cI cJ) sz (wH cC cI cJ h0 h1 h2 h3 h4 h5 h6 h7 h8 u) [.ref h0, .int a1, .int a2, .ref h8]) (va_Qi (fun r v => r = res.1 ∧ v = res.2) (my_B D vwCl (KT cC cI cJ) (va_A (wH cC cI cJ h0 h1 h2 h3 h4 h5 h6 h7 h8 u) sz) (fun v : SH => (wH cC cI cJ h0 h1 h2 h3 h4 h5 h6 h7 h8 v))) (va_A (wH cC cI cJ h0 h1 h2 h3 h4 h5 h6 h7 h8 u) sz)) 2 12 (va_A (wH cC cI cJ h0 h1 h2 h3 h4 h5 h6 h7 h8 u) sz) := by
  refine va_MetW (cc := cL_halvings) (maxL := 5) (ret := (some .int)) (by decide) rfl ?_
  intro p e s m args below meth c s₁ B hml hv
  obtain ⟨rfl, hsz, hP, hK, hD0, hXK⟩ := hv
  have hx := B.exec
  have hb := B.bytes
  have hr := B.returns
  have hts : ∀ w ∈ wsL_halvings, w.before ([.ref h0, .int a1, .int a2, .ref h8] : List Value).toArray s = true := atoms_spec (ws := wsL_halvings) B.pre
  have hown : s.vm.findClass RL = some m.cls := findClass_of_methodNamed B.named
  have hlk : meth.locks = false := B.notSynchronized
  subst hsz
  have hD := hD0.self (sz := s.heap.size)
  generalize hAe : va_A (wH cC cI cJ h0 h1 h2 h3 h4 h5 h6 h7 h8 u) s.heap.size = A at hD ⊢
  have hA : ∀ q : Nat, s.heap.size ≤ q → A q := fun q h => by rw [← hAe]; exact Or.inr h
  have hS : va_S A s.heap s.heap [] := va_S.rf
  have hP : va_P D vwCl [(h0, .inr (4, [.ref h1, .ref h2, .ref h5])), (h1, .inl (cJ, 8, .inr (.inl u.1.1))), (h2, .inr (3, [.ref h3, .ref h4, .int u.1.2.1.2.2])), (h3, .inl (cC, 40, .inl u.1.2.1.1)), (h4, .inl (cI, 40, .inl u.1.2.1.2.1)), (h5, .inr (2, [.ref h6, .ref h7, .int u.1.2.2.2.2.1, .int u.1.2.2.2.2.2])), (h6, .inl (cI, 8, .inl u.1.2.2.1)), (h7, .inl (cJ, 8, .inr (.inl u.1.2.2.2.1))), (h8, .inl (cJ, 1, .inr (.inl u.2)))] s.heap := hP
  have hD : va_D A [(h0, .inr (4, [.ref h1, .ref h2, .ref h5])), (h1, .inl (cJ, 8, .inr (.inl u.1.1))), (h2, .inr (3, [.ref h3, .ref h4, .int u.1.2.1.2.2])), (h3, .inl (cC, 40, .inl u.1.2.1.1)), (h4, .inl (cI, 40, .inl u.1.2.1.2.1)), (h5, .inr (2, [.ref h6, .ref h7, .int u.1.2.2.2.2.1, .int u.1.2.2.2.2.2])), (h6, .inl (cI, 8, .inl u.1.2.2.1)), (h7, .inl (cJ, 8, .inr (.inl u.1.2.2.2.1))), (h8, .inl (cJ, 1, .inr (.inl u.2)))] := hD
  have q1 := hts (.classLink RL 13 "java/lang/IndexOutOfBoundsException") (by decide +kernel)
  have htab : c.exceptionTable.toList = tableOf [(0, 10, 13, 13)] := vx_table (x := yL_halvings) B (hts _ List.mem_cons_self)
  have hl := lv_entry ([.ref h0, .int a1, .int a2, .ref h8]) (n := 5) (Nat.le_of_ble_eq_true rfl)
  rw [lg_entry_eq]
  generalize (lg_sl ([.ref h0, .int a1, .int a2, .ref h8]) ++ List.replicate (5 - (lg_sl ([.ref h0, .int a1, .int a2, .ref h8])).length) Slot.unset).toArray = ls at hl ⊢
  have hl : lv_has ls 5 [(0, .ref h0), (1, .int a1), (2, .int a2), (3, .ref h8)] := hl
  unfold f_L_halvings at hf
  refine lv_aload_n hx hb dL_halvings_0 rfl (lv_at hl 3 rfl) ?_
  refine lv_iconst (v := 0) hx hb dL_halvings_1 (by decide) ?_
  refine lv_aload_n hx hb dL_halvings_2 rfl (lv_at hl 0 rfl) ?_
  refine lv_iload_n hx hb dL_halvings_3 rfl (lv_at hl 1 rfl) ?_
  refine lv_iload_n hx hb dL_halvings_4 rfl (lv_at hl 2 rfl) ?_
  obtain ⟨z1, ez1, hx9, hf⟩ := xh_e hf
  refine my_callXRi (As := [.int a1, .int a2]) (n := 2) (rest := [.int 0, .ref h8]) (wc := (wX cC cI cJ h0 h1 h2 h3 h4 h5 h6 h7 u.1)) ⟨hx, hb, hml, hown, hts⟩ hK hP hS hA hXK [0, 1, 2, 3, 4, 5, 6, 7] rfl (m_X5_halvings l hl0 D cC cI cJ h0 h1 h2 h3 h4 h5 h6 h7 u.1 s.heap.size a1 a2 _ ez1) gL_halvings_X5_halvings rfl ⟨rfl, rfl⟩ (ci := 4) rfl rfl (by decide +kernel) ⟨Nat.le_of_ble_eq_true rfl, Nat.le_of_ble_eq_true rfl⟩ ⟨Nat.le_of_ble_eq_true rfl, Nat.le_of_ble_eq_true rfl⟩ hl.1 rfl rfl (Nat.le_of_ble_eq_true rfl) dL_halvings_5 (fun E ce q9 H locs hE hk1 hS hce hcv hcl => ?_) (fun r9 H locs hw hk1 hS => ?_)
  · have hf := hx9 E hE
    have hP := my_keep hP hk1
    by_cases c2 : E = "java/lang/IndexOutOfBoundsException"
    · rw [if_pos c2] at hf
      subst c2
      refine my_catch (hp := []) (z := (0, 10, 13, 13)) (hq0 := []) (name := "java/lang/IndexOutOfBoundsException") hown htab (fun w hw => absurd hw List.not_mem_nil) (by decide) (by decide) q1 (hXK.2.2.1 _ (by decide +kernel)) hce hcv hcl ?_
      refine lv_astore (lv' := [(4, .ref q9), (0, .ref h0), (1, .int a1), (2, .int a2), (3, .ref h8)]) hx hb dL_halvings_13 hl (by decide) rfl (fun ls hl => ?_)
      refine lv_iconst (v := 1) hx hb dL_halvings_15 (by decide) ?_
      have hP9 : va_P D vwCl (wH cC cI cJ h0 h1 h2 h3 h4 h5 h6 h7 h8 u) _ := hP
      have hD9 : va_D A (wH cC cI cJ h0 h1 h2 h3 h4 h5 h6 h7 h8 u) := hD
      have hf := Option.some.inj hf
      have hf1 := congrArg Prod.fst hf
      have hf2 := congrArg Prod.snd hf
      exact W.iret (v := 1) hx hb hr (fun t ht hW => ⟨⟨1, u, rfl, ⟨hf1, hf2⟩, by rw [ht]; exact hP9, va_K.moved hW.alike hK, hD9⟩, hS.F ht⟩) hS.2.2 dL_halvings_16
    · rw [if_neg c2] at hf
      cases hf
  · obtain ⟨z1, hr9, hz⟩ := hw
    obtain rfl := hr9.symm
    have hf := hf _ hz
    have hP := my_keep hP hk1
    refine lv_i2l (v := (z1.toInt64)) hx hb dL_halvings_8 rfl ?_
    refine va_last hx hb hK hP hD hS 8 2 rfl rfl (show ¬ ((0 : Int32) < 0 ∨ 1 ≤ (0 : Int32).toNatClampNeg) by decide) dL_halvings_9 (fun H locs hP hD hS => ?_)
    have hP : va_P D vwCl [(h0, .inr (4, [.ref h1, .ref h2, .ref h5])), (h1, .inl (cJ, 8, .inr (.inl u.1.1))), (h2, .inr (3, [.ref h3, .ref h4, .int u.1.2.1.2.2])), (h3, .inl (cC, 40, .inl u.1.2.1.1)), (h4, .inl (cI, 40, .inl u.1.2.1.2.1)), (h5, .inr (2, [.ref h6, .ref h7, .int u.1.2.2.2.2.1, .int u.1.2.2.2.2.2])), (h6, .inl (cI, 8, .inl u.1.2.2.1)), (h7, .inl (cJ, 8, .inr (.inl u.1.2.2.2.1))), (h8, .inl (cJ, 1, .inr (.inl (vp_updL u.2 (0 : Int32).toNatClampNeg (z1.toInt64)))))] H := hP
    have hD : va_D A [(h0, .inr (4, [.ref h1, .ref h2, .ref h5])), (h1, .inl (cJ, 8, .inr (.inl u.1.1))), (h2, .inr (3, [.ref h3, .ref h4, .int u.1.2.1.2.2])), (h3, .inl (cC, 40, .inl u.1.2.1.1)), (h4, .inl (cI, 40, .inl u.1.2.1.2.1)), (h5, .inr (2, [.ref h6, .ref h7, .int u.1.2.2.2.2.1, .int u.1.2.2.2.2.2])), (h6, .inl (cI, 8, .inl u.1.2.2.1)), (h7, .inl (cJ, 8, .inr (.inl u.1.2.2.2.1))), (h8, .inl (cJ, 1, .inr (.inl (vp_updL u.2 (0 : Int32).toNatClampNeg (z1.toInt64)))))] := hD
    refine lv_goto (tgt := 17) hx hb dL_halvings_10 (by decide) ?_
    refine lv_iconst (v := 0) hx hb dL_halvings_17 (by decide) ?_
    have hP9 : va_P D vwCl (wH cC cI cJ h0 h1 h2 h3 h4 h5 h6 h7 h8 (u.1, (vp_updL u.2 (0 : Int32).toNatClampNeg (z1.toInt64)))) _ := hP
    have hD9 : va_D A (wH cC cI cJ h0 h1 h2 h3 h4 h5 h6 h7 h8 (u.1, (vp_updL u.2 (0 : Int32).toNatClampNeg (z1.toInt64)))) := hD
    have hf := Option.some.inj hf
    have hf1 := congrArg Prod.fst hf
    have hf2 := congrArg Prod.snd hf
    exact W.iret (v := 0) hx hb hr (fun t ht hW => ⟨⟨0, (u.1, (vp_updL u.2 (0 : Int32).toNatClampNeg (z1.toInt64))), rfl, ⟨hf1, hf2⟩, by rw [ht]; exact hP9, va_K.moved hW.alike hK, hD9⟩, hS.F ht⟩) hS.2.2 dL_halvings_18

set_option maxHeartbeats 4000000 in
set_option maxRecDepth 100000 in
theorem m_L_compare (l : Launch) (hl0 : l.stackTraces = false) (D : va_G) (cC cI cJ : ClassId) (h0 h1 h2 h3 h4 h5 h6 h7 h8 : Nat) (u : SH) (sz : Nat) (a1 : Int32) (a2 : Int32) (res : Int32 × SH) (hf : f_L_compare u a1 a2 = some res) : Met l yL_compare wsL_compare rmL_compare (my_PcTM D vwCl (KT cC cI cJ) sz (wH cC cI cJ h0 h1 h2 h3 h4 h5 h6 h7 h8 u) [.ref h0, .int a1, .int a2, .ref h8]) (va_Qi (fun r v => r = res.1 ∧ v = res.2) (my_B D vwCl (KT cC cI cJ) (va_A (wH cC cI cJ h0 h1 h2 h3 h4 h5 h6 h7 h8 u) sz) (fun v : SH => (wH cC cI cJ h0 h1 h2 h3 h4 h5 h6 h7 h8 v))) (va_A (wH cC cI cJ h0 h1 h2 h3 h4 h5 h6 h7 h8 u) sz)) 2 12 (va_A (wH cC cI cJ h0 h1 h2 h3 h4 h5 h6 h7 h8 u) sz) := by
  refine va_MetW (cc := cL_compare) (maxL := 5) (ret := (some .int)) (by decide) rfl ?_
  intro p e s m args below meth c s₁ B hml hv
  obtain ⟨rfl, hsz, hP, hK, hD0, hXK⟩ := hv
  have hx := B.exec
  have hb := B.bytes
  have hr := B.returns
  have hts : ∀ w ∈ wsL_compare, w.before ([.ref h0, .int a1, .int a2, .ref h8] : List Value).toArray s = true := atoms_spec (ws := wsL_compare) B.pre
  have hown : s.vm.findClass RL = some m.cls := findClass_of_methodNamed B.named
  have hlk : meth.locks = false := B.notSynchronized
  subst hsz
  have hD := hD0.self (sz := s.heap.size)
  generalize hAe : va_A (wH cC cI cJ h0 h1 h2 h3 h4 h5 h6 h7 h8 u) s.heap.size = A at hD ⊢
  have hA : ∀ q : Nat, s.heap.size ≤ q → A q := fun q h => by rw [← hAe]; exact Or.inr h
  have hS : va_S A s.heap s.heap [] := va_S.rf
  have hP : va_P D vwCl [(h0, .inr (4, [.ref h1, .ref h2, .ref h5])), (h1, .inl (cJ, 8, .inr (.inl u.1.1))), (h2, .inr (3, [.ref h3, .ref h4, .int u.1.2.1.2.2])), (h3, .inl (cC, 40, .inl u.1.2.1.1)), (h4, .inl (cI, 40, .inl u.1.2.1.2.1)), (h5, .inr (2, [.ref h6, .ref h7, .int u.1.2.2.2.2.1, .int u.1.2.2.2.2.2])), (h6, .inl (cI, 8, .inl u.1.2.2.1)), (h7, .inl (cJ, 8, .inr (.inl u.1.2.2.2.1))), (h8, .inl (cJ, 1, .inr (.inl u.2)))] s.heap := hP
  have hD : va_D A [(h0, .inr (4, [.ref h1, .ref h2, .ref h5])), (h1, .inl (cJ, 8, .inr (.inl u.1.1))), (h2, .inr (3, [.ref h3, .ref h4, .int u.1.2.1.2.2])), (h3, .inl (cC, 40, .inl u.1.2.1.1)), (h4, .inl (cI, 40, .inl u.1.2.1.2.1)), (h5, .inr (2, [.ref h6, .ref h7, .int u.1.2.2.2.2.1, .int u.1.2.2.2.2.2])), (h6, .inl (cI, 8, .inl u.1.2.2.1)), (h7, .inl (cJ, 8, .inr (.inl u.1.2.2.2.1))), (h8, .inl (cJ, 1, .inr (.inl u.2)))] := hD
  have q1 := hts (.classLink RL 13 "java/lang/IndexOutOfBoundsException") (by decide +kernel)
  have htab : c.exceptionTable.toList = tableOf [(0, 10, 13, 13)] := vx_table (x := yL_compare) B (hts _ List.mem_cons_self)
  have hl := lv_entry ([.ref h0, .int a1, .int a2, .ref h8]) (n := 5) (Nat.le_of_ble_eq_true rfl)
  rw [lg_entry_eq]
  generalize (lg_sl ([.ref h0, .int a1, .int a2, .ref h8]) ++ List.replicate (5 - (lg_sl ([.ref h0, .int a1, .int a2, .ref h8])).length) Slot.unset).toArray = ls at hl ⊢
  have hl : lv_has ls 5 [(0, .ref h0), (1, .int a1), (2, .int a2), (3, .ref h8)] := hl
  unfold f_L_compare at hf
  refine lv_aload_n hx hb dL_compare_0 rfl (lv_at hl 3 rfl) ?_
  refine lv_iconst (v := 0) hx hb dL_compare_1 (by decide) ?_
  refine lv_aload_n hx hb dL_compare_2 rfl (lv_at hl 0 rfl) ?_
  refine lv_iload_n hx hb dL_compare_3 rfl (lv_at hl 1 rfl) ?_
  refine lv_iload_n hx hb dL_compare_4 rfl (lv_at hl 2 rfl) ?_
  obtain ⟨z1, ez1, hx9, hf⟩ := xh_e hf
  refine my_callXRi (As := [.int a1, .int a2]) (n := 2) (rest := [.int 0, .ref h8]) (wc := (wX cC cI cJ h0 h1 h2 h3 h4 h5 h6 h7 u.1)) ⟨hx, hb, hml, hown, hts⟩ hK hP hS hA hXK [0, 1, 2, 3, 4, 5, 6, 7] rfl (m_X5_compare l hl0 D cC cI cJ h0 h1 h2 h3 h4 h5 h6 h7 u.1 s.heap.size a1 a2 _ ez1) gL_compare_X5_compare rfl ⟨rfl, rfl⟩ (ci := 4) rfl rfl (by decide +kernel) ⟨Nat.le_of_ble_eq_true rfl, Nat.le_of_ble_eq_true rfl⟩ ⟨Nat.le_of_ble_eq_true rfl, Nat.le_of_ble_eq_true rfl⟩ hl.1 rfl rfl (Nat.le_of_ble_eq_true rfl) dL_compare_5 (fun E ce q9 H locs hE hk1 hS hce hcv hcl => ?_) (fun r9 H locs hw hk1 hS => ?_)
  · have hf := hx9 E hE
    have hP := my_keep hP hk1
    by_cases c2 : E = "java/lang/IndexOutOfBoundsException"
    · rw [if_pos c2] at hf
      subst c2
      refine my_catch (hp := []) (z := (0, 10, 13, 13)) (hq0 := []) (name := "java/lang/IndexOutOfBoundsException") hown htab (fun w hw => absurd hw List.not_mem_nil) (by decide) (by decide) q1 (hXK.2.2.1 _ (by decide +kernel)) hce hcv hcl ?_
      refine lv_astore (lv' := [(4, .ref q9), (0, .ref h0), (1, .int a1), (2, .int a2), (3, .ref h8)]) hx hb dL_compare_13 hl (by decide) rfl (fun ls hl => ?_)
      refine lv_iconst (v := 1) hx hb dL_compare_15 (by decide) ?_
      have hP9 : va_P D vwCl (wH cC cI cJ h0 h1 h2 h3 h4 h5 h6 h7 h8 u) _ := hP
      have hD9 : va_D A (wH cC cI cJ h0 h1 h2 h3 h4 h5 h6 h7 h8 u) := hD
      have hf := Option.some.inj hf
      have hf1 := congrArg Prod.fst hf
      have hf2 := congrArg Prod.snd hf
      exact W.iret (v := 1) hx hb hr (fun t ht hW => ⟨⟨1, u, rfl, ⟨hf1, hf2⟩, by rw [ht]; exact hP9, va_K.moved hW.alike hK, hD9⟩, hS.F ht⟩) hS.2.2 dL_compare_16
    · rw [if_neg c2] at hf
      cases hf
  · obtain ⟨z1, hr9, hz⟩ := hw
    obtain rfl := hr9.symm
    have hf := hf _ hz
    have hP := my_keep hP hk1
    refine lv_i2l (v := (z1.toInt64)) hx hb dL_compare_8 rfl ?_
    refine va_last hx hb hK hP hD hS 8 2 rfl rfl (show ¬ ((0 : Int32) < 0 ∨ 1 ≤ (0 : Int32).toNatClampNeg) by decide) dL_compare_9 (fun H locs hP hD hS => ?_)
    have hP : va_P D vwCl [(h0, .inr (4, [.ref h1, .ref h2, .ref h5])), (h1, .inl (cJ, 8, .inr (.inl u.1.1))), (h2, .inr (3, [.ref h3, .ref h4, .int u.1.2.1.2.2])), (h3, .inl (cC, 40, .inl u.1.2.1.1)), (h4, .inl (cI, 40, .inl u.1.2.1.2.1)), (h5, .inr (2, [.ref h6, .ref h7, .int u.1.2.2.2.2.1, .int u.1.2.2.2.2.2])), (h6, .inl (cI, 8, .inl u.1.2.2.1)), (h7, .inl (cJ, 8, .inr (.inl u.1.2.2.2.1))), (h8, .inl (cJ, 1, .inr (.inl (vp_updL u.2 (0 : Int32).toNatClampNeg (z1.toInt64)))))] H := hP
    have hD : va_D A [(h0, .inr (4, [.ref h1, .ref h2, .ref h5])), (h1, .inl (cJ, 8, .inr (.inl u.1.1))), (h2, .inr (3, [.ref h3, .ref h4, .int u.1.2.1.2.2])), (h3, .inl (cC, 40, .inl u.1.2.1.1)), (h4, .inl (cI, 40, .inl u.1.2.1.2.1)), (h5, .inr (2, [.ref h6, .ref h7, .int u.1.2.2.2.2.1, .int u.1.2.2.2.2.2])), (h6, .inl (cI, 8, .inl u.1.2.2.1)), (h7, .inl (cJ, 8, .inr (.inl u.1.2.2.2.1))), (h8, .inl (cJ, 1, .inr (.inl (vp_updL u.2 (0 : Int32).toNatClampNeg (z1.toInt64)))))] := hD
    refine lv_goto (tgt := 17) hx hb dL_compare_10 (by decide) ?_
    refine lv_iconst (v := 0) hx hb dL_compare_17 (by decide) ?_
    have hP9 : va_P D vwCl (wH cC cI cJ h0 h1 h2 h3 h4 h5 h6 h7 h8 (u.1, (vp_updL u.2 (0 : Int32).toNatClampNeg (z1.toInt64)))) _ := hP
    have hD9 : va_D A (wH cC cI cJ h0 h1 h2 h3 h4 h5 h6 h7 h8 (u.1, (vp_updL u.2 (0 : Int32).toNatClampNeg (z1.toInt64)))) := hD
    have hf := Option.some.inj hf
    have hf1 := congrArg Prod.fst hf
    have hf2 := congrArg Prod.snd hf
    exact W.iret (v := 0) hx hb hr (fun t ht hW => ⟨⟨0, (u.1, (vp_updL u.2 (0 : Int32).toNatClampNeg (z1.toInt64))), rfl, ⟨hf1, hf2⟩, by rw [ht]; exact hP9, va_K.moved hW.alike hK, hD9⟩, hS.F ht⟩) hS.2.2 dL_compare_18

set_option maxHeartbeats 4000000 in
set_option maxRecDepth 100000 in
theorem m_L_rank (l : Launch) (hl0 : l.stackTraces = false) (D : va_G) (cC cI cJ : ClassId) (h0 h1 h2 h3 h4 h5 h6 h7 h8 : Nat) (u : SH) (sz : Nat) (a1 : Int32) (res : Int32 × SH) (hf : f_L_rank u a1 = some res) : Met l yL_rank wsL_rank rmL_rank (my_PcTM D vwCl (KT cC cI cJ) sz (wH cC cI cJ h0 h1 h2 h3 h4 h5 h6 h7 h8 u) [.ref h0, .int a1, .ref h8]) (va_Qi (fun r v => r = res.1 ∧ v = res.2) (my_B D vwCl (KT cC cI cJ) (va_A (wH cC cI cJ h0 h1 h2 h3 h4 h5 h6 h7 h8 u) sz) (fun v : SH => (wH cC cI cJ h0 h1 h2 h3 h4 h5 h6 h7 h8 v))) (va_A (wH cC cI cJ h0 h1 h2 h3 h4 h5 h6 h7 h8 u) sz)) 1 6 (va_A (wH cC cI cJ h0 h1 h2 h3 h4 h5 h6 h7 h8 u) sz) := by
  refine va_MetW (cc := cL_rank) (maxL := 4) (ret := (some .int)) (by decide) rfl ?_
  intro p e s m args below meth c s₁ B hml hv
  obtain ⟨rfl, hsz, hP, hK, hD0, hXK⟩ := hv
  have hx := B.exec
  have hb := B.bytes
  have hr := B.returns
  have hts : ∀ w ∈ wsL_rank, w.before ([.ref h0, .int a1, .ref h8] : List Value).toArray s = true := atoms_spec (ws := wsL_rank) B.pre
  have hown : s.vm.findClass RL = some m.cls := findClass_of_methodNamed B.named
  have hlk : meth.locks = false := B.notSynchronized
  subst hsz
  have hD := hD0.self (sz := s.heap.size)
  generalize hAe : va_A (wH cC cI cJ h0 h1 h2 h3 h4 h5 h6 h7 h8 u) s.heap.size = A at hD ⊢
  have hA : ∀ q : Nat, s.heap.size ≤ q → A q := fun q h => by rw [← hAe]; exact Or.inr h
  have hS : va_S A s.heap s.heap [] := va_S.rf
  have hP : va_P D vwCl [(h0, .inr (4, [.ref h1, .ref h2, .ref h5])), (h1, .inl (cJ, 8, .inr (.inl u.1.1))), (h2, .inr (3, [.ref h3, .ref h4, .int u.1.2.1.2.2])), (h3, .inl (cC, 40, .inl u.1.2.1.1)), (h4, .inl (cI, 40, .inl u.1.2.1.2.1)), (h5, .inr (2, [.ref h6, .ref h7, .int u.1.2.2.2.2.1, .int u.1.2.2.2.2.2])), (h6, .inl (cI, 8, .inl u.1.2.2.1)), (h7, .inl (cJ, 8, .inr (.inl u.1.2.2.2.1))), (h8, .inl (cJ, 1, .inr (.inl u.2)))] s.heap := hP
  have hD : va_D A [(h0, .inr (4, [.ref h1, .ref h2, .ref h5])), (h1, .inl (cJ, 8, .inr (.inl u.1.1))), (h2, .inr (3, [.ref h3, .ref h4, .int u.1.2.1.2.2])), (h3, .inl (cC, 40, .inl u.1.2.1.1)), (h4, .inl (cI, 40, .inl u.1.2.1.2.1)), (h5, .inr (2, [.ref h6, .ref h7, .int u.1.2.2.2.2.1, .int u.1.2.2.2.2.2])), (h6, .inl (cI, 8, .inl u.1.2.2.1)), (h7, .inl (cJ, 8, .inr (.inl u.1.2.2.2.1))), (h8, .inl (cJ, 1, .inr (.inl u.2)))] := hD
  have q1 := hts (.classLink RL 13 "java/lang/IndexOutOfBoundsException") (by decide +kernel)
  have htab : c.exceptionTable.toList = tableOf [(0, 9, 12, 13)] := vx_table (x := yL_rank) B (hts _ List.mem_cons_self)
  have hl := lv_entry ([.ref h0, .int a1, .ref h8]) (n := 4) (Nat.le_of_ble_eq_true rfl)
  rw [lg_entry_eq]
  generalize (lg_sl ([.ref h0, .int a1, .ref h8]) ++ List.replicate (4 - (lg_sl ([.ref h0, .int a1, .ref h8])).length) Slot.unset).toArray = ls at hl ⊢
  have hl : lv_has ls 4 [(0, .ref h0), (1, .int a1), (2, .ref h8)] := hl
  unfold f_L_rank at hf
  refine lv_aload_n hx hb dL_rank_0 rfl (lv_at hl 2 rfl) ?_
  refine lv_iconst (v := 0) hx hb dL_rank_1 (by decide) ?_
  refine lv_aload_n hx hb dL_rank_2 rfl (lv_at hl 0 rfl) ?_
  refine lv_iload_n hx hb dL_rank_3 rfl (lv_at hl 1 rfl) ?_
  obtain ⟨z1, ez1, hx9, hf⟩ := xh_e hf
  refine my_callXRi (As := [.int a1]) (n := 1) (rest := [.int 0, .ref h8]) (wc := (wX cC cI cJ h0 h1 h2 h3 h4 h5 h6 h7 u.1)) ⟨hx, hb, hml, hown, hts⟩ hK hP hS hA hXK [0, 1, 2, 3, 4, 5, 6, 7] rfl (m_X5_rank l hl0 D cC cI cJ h0 h1 h2 h3 h4 h5 h6 h7 u.1 s.heap.size a1 _ ez1) gL_rank_X5_rank rfl ⟨rfl, rfl⟩ (ci := 4) rfl rfl (by decide +kernel) ⟨Nat.le_of_ble_eq_true rfl, Nat.le_of_ble_eq_true rfl⟩ ⟨Nat.le_of_ble_eq_true rfl, Nat.le_of_ble_eq_true rfl⟩ hl.1 rfl rfl (Nat.le_of_ble_eq_true rfl) dL_rank_4 (fun E ce q9 H locs hE hk1 hS hce hcv hcl => ?_) (fun r9 H locs hw hk1 hS => ?_)
  · have hf := hx9 E hE
    have hP := my_keep hP hk1
    by_cases c2 : E = "java/lang/IndexOutOfBoundsException"
    · rw [if_pos c2] at hf
      subst c2
      refine my_catch (hp := []) (z := (0, 9, 12, 13)) (hq0 := []) (name := "java/lang/IndexOutOfBoundsException") hown htab (fun w hw => absurd hw List.not_mem_nil) (by decide) (by decide) q1 (hXK.2.2.1 _ (by decide +kernel)) hce hcv hcl ?_
      refine lv_astore_n (lv' := [(3, .ref q9), (0, .ref h0), (1, .int a1), (2, .ref h8)]) hx hb dL_rank_12 rfl hl (by decide) rfl (fun ls hl => ?_)
      refine lv_iconst (v := 1) hx hb dL_rank_13 (by decide) ?_
      have hP9 : va_P D vwCl (wH cC cI cJ h0 h1 h2 h3 h4 h5 h6 h7 h8 u) _ := hP
      have hD9 : va_D A (wH cC cI cJ h0 h1 h2 h3 h4 h5 h6 h7 h8 u) := hD
      have hf := Option.some.inj hf
      have hf1 := congrArg Prod.fst hf
      have hf2 := congrArg Prod.snd hf
      exact W.iret (v := 1) hx hb hr (fun t ht hW => ⟨⟨1, u, rfl, ⟨hf1, hf2⟩, by rw [ht]; exact hP9, va_K.moved hW.alike hK, hD9⟩, hS.F ht⟩) hS.2.2 dL_rank_14
    · rw [if_neg c2] at hf
      cases hf
  · obtain ⟨z1, hr9, hz⟩ := hw
    obtain rfl := hr9.symm
    have hf := hf _ hz
    have hP := my_keep hP hk1
    refine lv_i2l (v := (z1.toInt64)) hx hb dL_rank_7 rfl ?_
    refine va_last hx hb hK hP hD hS 8 2 rfl rfl (show ¬ ((0 : Int32) < 0 ∨ 1 ≤ (0 : Int32).toNatClampNeg) by decide) dL_rank_8 (fun H locs hP hD hS => ?_)
    have hP : va_P D vwCl [(h0, .inr (4, [.ref h1, .ref h2, .ref h5])), (h1, .inl (cJ, 8, .inr (.inl u.1.1))), (h2, .inr (3, [.ref h3, .ref h4, .int u.1.2.1.2.2])), (h3, .inl (cC, 40, .inl u.1.2.1.1)), (h4, .inl (cI, 40, .inl u.1.2.1.2.1)), (h5, .inr (2, [.ref h6, .ref h7, .int u.1.2.2.2.2.1, .int u.1.2.2.2.2.2])), (h6, .inl (cI, 8, .inl u.1.2.2.1)), (h7, .inl (cJ, 8, .inr (.inl u.1.2.2.2.1))), (h8, .inl (cJ, 1, .inr (.inl (vp_updL u.2 (0 : Int32).toNatClampNeg (z1.toInt64)))))] H := hP
    have hD : va_D A [(h0, .inr (4, [.ref h1, .ref h2, .ref h5])), (h1, .inl (cJ, 8, .inr (.inl u.1.1))), (h2, .inr (3, [.ref h3, .ref h4, .int u.1.2.1.2.2])), (h3, .inl (cC, 40, .inl u.1.2.1.1)), (h4, .inl (cI, 40, .inl u.1.2.1.2.1)), (h5, .inr (2, [.ref h6, .ref h7, .int u.1.2.2.2.2.1, .int u.1.2.2.2.2.2])), (h6, .inl (cI, 8, .inl u.1.2.2.1)), (h7, .inl (cJ, 8, .inr (.inl u.1.2.2.2.1))), (h8, .inl (cJ, 1, .inr (.inl (vp_updL u.2 (0 : Int32).toNatClampNeg (z1.toInt64)))))] := hD
    refine lv_goto (tgt := 15) hx hb dL_rank_9 (by decide) ?_
    refine lv_iconst (v := 0) hx hb dL_rank_15 (by decide) ?_
    have hP9 : va_P D vwCl (wH cC cI cJ h0 h1 h2 h3 h4 h5 h6 h7 h8 (u.1, (vp_updL u.2 (0 : Int32).toNatClampNeg (z1.toInt64)))) _ := hP
    have hD9 : va_D A (wH cC cI cJ h0 h1 h2 h3 h4 h5 h6 h7 h8 (u.1, (vp_updL u.2 (0 : Int32).toNatClampNeg (z1.toInt64)))) := hD
    have hf := Option.some.inj hf
    have hf1 := congrArg Prod.fst hf
    have hf2 := congrArg Prod.snd hf
    exact W.iret (v := 0) hx hb hr (fun t ht hW => ⟨⟨0, (u.1, (vp_updL u.2 (0 : Int32).toNatClampNeg (z1.toInt64))), rfl, ⟨hf1, hf2⟩, by rw [ht]; exact hP9, va_K.moved hW.alike hK, hD9⟩, hS.F ht⟩) hS.2.2 dL_rank_16

set_option maxHeartbeats 4000000 in
set_option maxRecDepth 100000 in
theorem m_L_scale (l : Launch) (hl0 : l.stackTraces = false) (D : va_G) (cC cI cJ : ClassId) (h0 h1 h2 h3 h4 h5 h6 h7 h8 : Nat) (u : SH) (sz : Nat) (a1 : Int32) (a2 : Int32) (a3 : Int32) (res : Int32 × SH) (hf : f_L_scale u a1 a2 a3 = some res) : Met l yL_scale wsL_scale rmL_scale (my_PcTM D vwCl (KT cC cI cJ) sz (wH cC cI cJ h0 h1 h2 h3 h4 h5 h6 h7 h8 u) [.ref h0, .int a1, .int a2, .int a3, .ref h8]) (va_Qi (fun r v => r = res.1 ∧ v = res.2) (my_B D vwCl (KT cC cI cJ) (va_A (wH cC cI cJ h0 h1 h2 h3 h4 h5 h6 h7 h8 u) sz) (fun v : SH => (wH cC cI cJ h0 h1 h2 h3 h4 h5 h6 h7 h8 v))) (va_A (wH cC cI cJ h0 h1 h2 h3 h4 h5 h6 h7 h8 u) sz)) 3 18 (va_A (wH cC cI cJ h0 h1 h2 h3 h4 h5 h6 h7 h8 u) sz) := by
  refine va_MetW (cc := cL_scale) (maxL := 6) (ret := (some .int)) (by decide) rfl ?_
  intro p e s m args below meth c s₁ B hml hv
  obtain ⟨rfl, hsz, hP, hK, hD0, hXK⟩ := hv
  have hx := B.exec
  have hb := B.bytes
  have hr := B.returns
  have hts : ∀ w ∈ wsL_scale, w.before ([.ref h0, .int a1, .int a2, .int a3, .ref h8] : List Value).toArray s = true := atoms_spec (ws := wsL_scale) B.pre
  have hown : s.vm.findClass RL = some m.cls := findClass_of_methodNamed B.named
  have hlk : meth.locks = false := B.notSynchronized
  subst hsz
  have hD := hD0.self (sz := s.heap.size)
  generalize hAe : va_A (wH cC cI cJ h0 h1 h2 h3 h4 h5 h6 h7 h8 u) s.heap.size = A at hD ⊢
  have hA : ∀ q : Nat, s.heap.size ≤ q → A q := fun q h => by rw [← hAe]; exact Or.inr h
  have hS : va_S A s.heap s.heap [] := va_S.rf
  have hP : va_P D vwCl [(h0, .inr (4, [.ref h1, .ref h2, .ref h5])), (h1, .inl (cJ, 8, .inr (.inl u.1.1))), (h2, .inr (3, [.ref h3, .ref h4, .int u.1.2.1.2.2])), (h3, .inl (cC, 40, .inl u.1.2.1.1)), (h4, .inl (cI, 40, .inl u.1.2.1.2.1)), (h5, .inr (2, [.ref h6, .ref h7, .int u.1.2.2.2.2.1, .int u.1.2.2.2.2.2])), (h6, .inl (cI, 8, .inl u.1.2.2.1)), (h7, .inl (cJ, 8, .inr (.inl u.1.2.2.2.1))), (h8, .inl (cJ, 1, .inr (.inl u.2)))] s.heap := hP
  have hD : va_D A [(h0, .inr (4, [.ref h1, .ref h2, .ref h5])), (h1, .inl (cJ, 8, .inr (.inl u.1.1))), (h2, .inr (3, [.ref h3, .ref h4, .int u.1.2.1.2.2])), (h3, .inl (cC, 40, .inl u.1.2.1.1)), (h4, .inl (cI, 40, .inl u.1.2.1.2.1)), (h5, .inr (2, [.ref h6, .ref h7, .int u.1.2.2.2.2.1, .int u.1.2.2.2.2.2])), (h6, .inl (cI, 8, .inl u.1.2.2.1)), (h7, .inl (cJ, 8, .inr (.inl u.1.2.2.2.1))), (h8, .inl (cJ, 1, .inr (.inl u.2)))] := hD
  have q1 := hts (.classLink RL 13 "java/lang/IndexOutOfBoundsException") (by decide +kernel)
  have q2 := hts (.classLink RL 15 "java/lang/IllegalArgumentException") (by decide +kernel)
  have htab : c.exceptionTable.toList = tableOf [(0, 11, 14, 13), (0, 11, 18, 15)] := vx_table (x := yL_scale) B (hts _ List.mem_cons_self)
  have hl := lv_entry ([.ref h0, .int a1, .int a2, .int a3, .ref h8]) (n := 6) (Nat.le_of_ble_eq_true rfl)
  rw [lg_entry_eq]
  generalize (lg_sl ([.ref h0, .int a1, .int a2, .int a3, .ref h8]) ++ List.replicate (6 - (lg_sl ([.ref h0, .int a1, .int a2, .int a3, .ref h8])).length) Slot.unset).toArray = ls at hl ⊢
  have hl : lv_has ls 6 [(0, .ref h0), (1, .int a1), (2, .int a2), (3, .int a3), (4, .ref h8)] := hl
  unfold f_L_scale at hf
  refine lv_aload hx hb dL_scale_0 (lv_at hl 4 rfl) ?_
  refine lv_iconst (v := 0) hx hb dL_scale_2 (by decide) ?_
  refine lv_aload_n hx hb dL_scale_3 rfl (lv_at hl 0 rfl) ?_
  refine lv_iload_n hx hb dL_scale_4 rfl (lv_at hl 1 rfl) ?_
  refine lv_iload_n hx hb dL_scale_5 rfl (lv_at hl 2 rfl) ?_
  refine lv_iload_n hx hb dL_scale_6 rfl (lv_at hl 3 rfl) ?_
  obtain ⟨z1, ez1, hx9, hf⟩ := xh_e hf
  refine my_callXMl (As := [.int a1, .int a2, .int a3]) (n := 3) (rest := [.int 0, .ref h8]) (wr := [(h8, .inl (cJ, 1, .inr (.inl u.2)))]) ⟨hx, hb, hml, hown, hts⟩ hK hP hD hS hA hXK [0, 1, 2, 3, 4, 5, 6, 7] [8] rfl rfl (by decide) (by decide) (by decide) (m_X5_scale l hl0 D cC cI cJ h0 h1 h2 h3 h4 h5 h6 h7 u.1 s.heap.size a1 a2 a3 _ ez1) gL_scale_X5_scale rfl ⟨rfl, rfl⟩ (ci := 4) rfl rfl (by decide +kernel) ⟨Nat.le_of_ble_eq_true rfl, Nat.le_of_ble_eq_true rfl⟩ ⟨Nat.le_of_ble_eq_true rfl, Nat.le_of_ble_eq_true rfl⟩ hl.1 rfl rfl (Nat.le_of_ble_eq_true rfl) dL_scale_7 (fun E ce q9 H locs hE hk1 hS hce hcv hcl => ?_) (fun r9 u9 H locs hw hP hD hS => ?_)
  · have hf := hx9 E hE
    have hP := my_keep hP hk1
    by_cases c2 : E = "java/lang/IndexOutOfBoundsException"
    · rw [if_pos c2] at hf
      subst c2
      refine my_catch (hp := []) (z := (0, 11, 14, 13)) (hq0 := [(0, 11, 18, 15)]) (name := "java/lang/IndexOutOfBoundsException") hown htab (fun w hw => absurd hw List.not_mem_nil) (by decide) (by decide) q1 (hXK.2.2.1 _ (by decide +kernel)) hce hcv hcl ?_
      refine lv_astore (lv' := [(5, .ref q9), (0, .ref h0), (1, .int a1), (2, .int a2), (3, .int a3), (4, .ref h8)]) hx hb dL_scale_14 hl (by decide) rfl (fun ls hl => ?_)
      refine lv_iconst (v := 1) hx hb dL_scale_16 (by decide) ?_
      have hP9 : va_P D vwCl (wH cC cI cJ h0 h1 h2 h3 h4 h5 h6 h7 h8 u) _ := hP
      have hD9 : va_D A (wH cC cI cJ h0 h1 h2 h3 h4 h5 h6 h7 h8 u) := hD
      have hf := Option.some.inj hf
      have hf1 := congrArg Prod.fst hf
      have hf2 := congrArg Prod.snd hf
      exact W.iret (v := 1) hx hb hr (fun t ht hW => ⟨⟨1, u, rfl, ⟨hf1, hf2⟩, by rw [ht]; exact hP9, va_K.moved hW.alike hK, hD9⟩, hS.F ht⟩) hS.2.2 dL_scale_17
    · rw [if_neg c2] at hf
      by_cases c3 : E = "java/lang/IllegalArgumentException"
      · rw [if_pos c3] at hf
        subst c3
        refine my_catch (hp := [(0, 11, 14, 13)]) (z := (0, 11, 18, 15)) (hq0 := []) (name := "java/lang/IllegalArgumentException") hown htab (fun w hw => by
          simp only [List.mem_cons, List.not_mem_nil, or_false] at hw
          rcases hw with rfl
          · exact ⟨by decide, "java/lang/IndexOutOfBoundsException", q1, hXK.2.2.2.2 ("java/lang/IllegalArgumentException", "java/lang/IndexOutOfBoundsException") (by decide +kernel)⟩) (by decide) (by decide) q2 (hXK.2.2.1 _ (by decide +kernel)) hce hcv hcl ?_
        refine lv_astore (lv' := [(5, .ref q9), (0, .ref h0), (1, .int a1), (2, .int a2), (3, .int a3), (4, .ref h8)]) hx hb dL_scale_18 hl (by decide) rfl (fun ls hl => ?_)
        refine lv_iconst (v := 2) hx hb dL_scale_20 (by decide) ?_
        have hP9 : va_P D vwCl (wH cC cI cJ h0 h1 h2 h3 h4 h5 h6 h7 h8 u) _ := hP
        have hD9 : va_D A (wH cC cI cJ h0 h1 h2 h3 h4 h5 h6 h7 h8 u) := hD
        have hf := Option.some.inj hf
        have hf1 := congrArg Prod.fst hf
        have hf2 := congrArg Prod.snd hf
        exact W.iret (v := 2) hx hb hr (fun t ht hW => ⟨⟨2, u, rfl, ⟨hf1, hf2⟩, by rw [ht]; exact hP9, va_K.moved hW.alike hK, hD9⟩, hS.F ht⟩) hS.2.2 dL_scale_21
      · rw [if_neg c3] at hf
        cases hf
  · obtain ⟨z1, rfl, rfl, hz⟩ := hw
    have hf := hf _ hz
    have hP : va_P D vwCl [(h0, .inr (4, [.ref h1, .ref h2, .ref h5])), (h1, .inl (cJ, 8, .inr (.inl z1.2.1))), (h2, .inr (3, [.ref h3, .ref h4, .int z1.2.2.1.2.2])), (h3, .inl (cC, 40, .inl z1.2.2.1.1)), (h4, .inl (cI, 40, .inl z1.2.2.1.2.1)), (h5, .inr (2, [.ref h6, .ref h7, .int z1.2.2.2.2.2.1, .int z1.2.2.2.2.2.2])), (h6, .inl (cI, 8, .inl z1.2.2.2.1)), (h7, .inl (cJ, 8, .inr (.inl z1.2.2.2.2.1))), (h8, .inl (cJ, 1, .inr (.inl u.2)))] H := hP.sub [1, 2, 3, 4, 5, 6, 7, 8, 0] rfl
    have hD : va_D A [(h0, .inr (4, [.ref h1, .ref h2, .ref h5])), (h1, .inl (cJ, 8, .inr (.inl z1.2.1))), (h2, .inr (3, [.ref h3, .ref h4, .int z1.2.2.1.2.2])), (h3, .inl (cC, 40, .inl z1.2.2.1.1)), (h4, .inl (cI, 40, .inl z1.2.2.1.2.1)), (h5, .inr (2, [.ref h6, .ref h7, .int z1.2.2.2.2.2.1, .int z1.2.2.2.2.2.2])), (h6, .inl (cI, 8, .inl z1.2.2.2.1)), (h7, .inl (cJ, 8, .inr (.inl z1.2.2.2.2.1))), (h8, .inl (cJ, 1, .inr (.inl u.2)))] := hD.sub [1, 2, 3, 4, 5, 6, 7, 8, 0] (by decide) rfl
    refine va_last hx hb hK hP hD hS 8 2 rfl rfl (show ¬ ((0 : Int32) < 0 ∨ 1 ≤ (0 : Int32).toNatClampNeg) by decide) dL_scale_10 (fun H locs hP hD hS => ?_)
    have hP : va_P D vwCl [(h0, .inr (4, [.ref h1, .ref h2, .ref h5])), (h1, .inl (cJ, 8, .inr (.inl z1.2.1))), (h2, .inr (3, [.ref h3, .ref h4, .int z1.2.2.1.2.2])), (h3, .inl (cC, 40, .inl z1.2.2.1.1)), (h4, .inl (cI, 40, .inl z1.2.2.1.2.1)), (h5, .inr (2, [.ref h6, .ref h7, .int z1.2.2.2.2.2.1, .int z1.2.2.2.2.2.2])), (h6, .inl (cI, 8, .inl z1.2.2.2.1)), (h7, .inl (cJ, 8, .inr (.inl z1.2.2.2.2.1))), (h8, .inl (cJ, 1, .inr (.inl (vp_updL u.2 (0 : Int32).toNatClampNeg z1.1))))] H := hP
    have hD : va_D A [(h0, .inr (4, [.ref h1, .ref h2, .ref h5])), (h1, .inl (cJ, 8, .inr (.inl z1.2.1))), (h2, .inr (3, [.ref h3, .ref h4, .int z1.2.2.1.2.2])), (h3, .inl (cC, 40, .inl z1.2.2.1.1)), (h4, .inl (cI, 40, .inl z1.2.2.1.2.1)), (h5, .inr (2, [.ref h6, .ref h7, .int z1.2.2.2.2.2.1, .int z1.2.2.2.2.2.2])), (h6, .inl (cI, 8, .inl z1.2.2.2.1)), (h7, .inl (cJ, 8, .inr (.inl z1.2.2.2.2.1))), (h8, .inl (cJ, 1, .inr (.inl (vp_updL u.2 (0 : Int32).toNatClampNeg z1.1))))] := hD
    refine lv_goto (tgt := 22) hx hb dL_scale_11 (by decide) ?_
    refine lv_iconst (v := 0) hx hb dL_scale_22 (by decide) ?_
    have hP9 : va_P D vwCl (wH cC cI cJ h0 h1 h2 h3 h4 h5 h6 h7 h8 (z1.2, (vp_updL u.2 (0 : Int32).toNatClampNeg z1.1))) _ := hP
    have hD9 : va_D A (wH cC cI cJ h0 h1 h2 h3 h4 h5 h6 h7 h8 (z1.2, (vp_updL u.2 (0 : Int32).toNatClampNeg z1.1))) := hD
    have hf := Option.some.inj hf
    have hf1 := congrArg Prod.fst hf
    have hf2 := congrArg Prod.snd hf
    exact W.iret (v := 0) hx hb hr (fun t ht hW => ⟨⟨0, (z1.2, (vp_updL u.2 (0 : Int32).toNatClampNeg z1.1)), rfl, ⟨hf1, hf2⟩, by rw [ht]; exact hP9, va_K.moved hW.alike hK, hD9⟩, hS.F ht⟩) hS.2.2 dL_scale_23

set_option maxHeartbeats 4000000 in
set_option maxRecDepth 100000 in
theorem m_L_isKept (l : Launch) (hl0 : l.stackTraces = false) (D : va_G) (cC cI cJ : ClassId) (h0 h1 h2 h3 h4 h5 h6 h7 h8 : Nat) (u : SH) (sz : Nat) (a1 : Int32) (a2 : Int32) (res : Int32 × SH) (hf : f_L_isKept u a1 a2 = some res) : Met l yL_isKept wsL_isKept rmL_isKept (my_PcTM D vwCl (KT cC cI cJ) sz (wH cC cI cJ h0 h1 h2 h3 h4 h5 h6 h7 h8 u) [.ref h0, .int a1, .int a2, .ref h8]) (va_Qi (fun r v => r = res.1 ∧ v = res.2) (my_B D vwCl (KT cC cI cJ) (va_A (wH cC cI cJ h0 h1 h2 h3 h4 h5 h6 h7 h8 u) sz) (fun v : SH => (wH cC cI cJ h0 h1 h2 h3 h4 h5 h6 h7 h8 v))) (va_A (wH cC cI cJ h0 h1 h2 h3 h4 h5 h6 h7 h8 u) sz)) 2 12 (va_A (wH cC cI cJ h0 h1 h2 h3 h4 h5 h6 h7 h8 u) sz) := by
  refine va_MetW (cc := cL_isKept) (maxL := 5) (ret := (some .int)) (by decide) rfl ?_
  intro p e s m args below meth c s₁ B hml hv
  obtain ⟨rfl, hsz, hP, hK, hD0, hXK⟩ := hv
  have hx := B.exec
  have hb := B.bytes
  have hr := B.returns
  have hts : ∀ w ∈ wsL_isKept, w.before ([.ref h0, .int a1, .int a2, .ref h8] : List Value).toArray s = true := atoms_spec (ws := wsL_isKept) B.pre
  have hown : s.vm.findClass RL = some m.cls := findClass_of_methodNamed B.named
  have hlk : meth.locks = false := B.notSynchronized
  subst hsz
  have hD := hD0.self (sz := s.heap.size)
  generalize hAe : va_A (wH cC cI cJ h0 h1 h2 h3 h4 h5 h6 h7 h8 u) s.heap.size = A at hD ⊢
  have hA : ∀ q : Nat, s.heap.size ≤ q → A q := fun q h => by rw [← hAe]; exact Or.inr h
  have hS : va_S A s.heap s.heap [] := va_S.rf
  have hP : va_P D vwCl [(h0, .inr (4, [.ref h1, .ref h2, .ref h5])), (h1, .inl (cJ, 8, .inr (.inl u.1.1))), (h2, .inr (3, [.ref h3, .ref h4, .int u.1.2.1.2.2])), (h3, .inl (cC, 40, .inl u.1.2.1.1)), (h4, .inl (cI, 40, .inl u.1.2.1.2.1)), (h5, .inr (2, [.ref h6, .ref h7, .int u.1.2.2.2.2.1, .int u.1.2.2.2.2.2])), (h6, .inl (cI, 8, .inl u.1.2.2.1)), (h7, .inl (cJ, 8, .inr (.inl u.1.2.2.2.1))), (h8, .inl (cJ, 1, .inr (.inl u.2)))] s.heap := hP
  have hD : va_D A [(h0, .inr (4, [.ref h1, .ref h2, .ref h5])), (h1, .inl (cJ, 8, .inr (.inl u.1.1))), (h2, .inr (3, [.ref h3, .ref h4, .int u.1.2.1.2.2])), (h3, .inl (cC, 40, .inl u.1.2.1.1)), (h4, .inl (cI, 40, .inl u.1.2.1.2.1)), (h5, .inr (2, [.ref h6, .ref h7, .int u.1.2.2.2.2.1, .int u.1.2.2.2.2.2])), (h6, .inl (cI, 8, .inl u.1.2.2.1)), (h7, .inl (cJ, 8, .inr (.inl u.1.2.2.2.1))), (h8, .inl (cJ, 1, .inr (.inl u.2)))] := hD
  have q1 := hts (.classLink RL 13 "java/lang/IndexOutOfBoundsException") (by decide +kernel)
  have q2 := hts (.classLink RL 15 "java/lang/IllegalArgumentException") (by decide +kernel)
  have htab : c.exceptionTable.toList = tableOf [(0, 17, 20, 13), (0, 17, 24, 15)] := vx_table (x := yL_isKept) B (hts _ List.mem_cons_self)
  have hl := lv_entry ([.ref h0, .int a1, .int a2, .ref h8]) (n := 5) (Nat.le_of_ble_eq_true rfl)
  rw [lg_entry_eq]
  generalize (lg_sl ([.ref h0, .int a1, .int a2, .ref h8]) ++ List.replicate (5 - (lg_sl ([.ref h0, .int a1, .int a2, .ref h8])).length) Slot.unset).toArray = ls at hl ⊢
  have hl : lv_has ls 5 [(0, .ref h0), (1, .int a1), (2, .int a2), (3, .ref h8)] := hl
  unfold f_L_isKept at hf
  refine lv_aload_n hx hb dL_isKept_0 rfl (lv_at hl 3 rfl) ?_
  refine lv_iconst (v := 0) hx hb dL_isKept_1 (by decide) ?_
  refine lv_aload_n hx hb dL_isKept_2 rfl (lv_at hl 0 rfl) ?_
  refine lv_iload_n hx hb dL_isKept_3 rfl (lv_at hl 1 rfl) ?_
  refine lv_iload_n hx hb dL_isKept_4 rfl (lv_at hl 2 rfl) ?_
  obtain ⟨z1, ez1, hx9, hf⟩ := xh_e hf
  refine my_callXRi (As := [.int a1, .int a2]) (n := 2) (rest := [.int 0, .ref h8]) (wc := (wX cC cI cJ h0 h1 h2 h3 h4 h5 h6 h7 u.1)) ⟨hx, hb, hml, hown, hts⟩ hK hP hS hA hXK [0, 1, 2, 3, 4, 5, 6, 7] rfl (m_X5_isKept l hl0 D cC cI cJ h0 h1 h2 h3 h4 h5 h6 h7 u.1 s.heap.size a1 a2 _ ez1) gL_isKept_X5_isKept rfl ⟨rfl, rfl⟩ (ci := 4) rfl rfl (by decide +kernel) ⟨Nat.le_of_ble_eq_true rfl, Nat.le_of_ble_eq_true rfl⟩ ⟨Nat.le_of_ble_eq_true rfl, Nat.le_of_ble_eq_true rfl⟩ hl.1 rfl rfl (Nat.le_of_ble_eq_true rfl) dL_isKept_5 (fun E ce q9 H locs hE hk1 hS hce hcv hcl => ?_) (fun r9 H locs hw hk1 hS => ?_)
  · have hf := hx9 E hE
    have hP := my_keep hP hk1
    by_cases c2 : E = "java/lang/IndexOutOfBoundsException"
    · rw [if_pos c2] at hf
      subst c2
      refine my_catch (hp := []) (z := (0, 17, 20, 13)) (hq0 := [(0, 17, 24, 15)]) (name := "java/lang/IndexOutOfBoundsException") hown htab (fun w hw => absurd hw List.not_mem_nil) (by decide) (by decide) q1 (hXK.2.2.1 _ (by decide +kernel)) hce hcv hcl ?_
      refine lv_astore (lv' := [(4, .ref q9), (0, .ref h0), (1, .int a1), (2, .int a2), (3, .ref h8)]) hx hb dL_isKept_20 hl (by decide) rfl (fun ls hl => ?_)
      refine lv_iconst (v := 1) hx hb dL_isKept_22 (by decide) ?_
      have hP9 : va_P D vwCl (wH cC cI cJ h0 h1 h2 h3 h4 h5 h6 h7 h8 u) _ := hP
      have hD9 : va_D A (wH cC cI cJ h0 h1 h2 h3 h4 h5 h6 h7 h8 u) := hD
      have hf := Option.some.inj hf
      have hf1 := congrArg Prod.fst hf
      have hf2 := congrArg Prod.snd hf
      exact W.iret (v := 1) hx hb hr (fun t ht hW => ⟨⟨1, u, rfl, ⟨hf1, hf2⟩, by rw [ht]; exact hP9, va_K.moved hW.alike hK, hD9⟩, hS.F ht⟩) hS.2.2 dL_isKept_23
    · rw [if_neg c2] at hf
      by_cases c3 : E = "java/lang/IllegalArgumentException"
      · rw [if_pos c3] at hf
        subst c3
        refine my_catch (hp := [(0, 17, 20, 13)]) (z := (0, 17, 24, 15)) (hq0 := []) (name := "java/lang/IllegalArgumentException") hown htab (fun w hw => by
          simp only [List.mem_cons, List.not_mem_nil, or_false] at hw
          rcases hw with rfl
          · exact ⟨by decide, "java/lang/IndexOutOfBoundsException", q1, hXK.2.2.2.2 ("java/lang/IllegalArgumentException", "java/lang/IndexOutOfBoundsException") (by decide +kernel)⟩) (by decide) (by decide) q2 (hXK.2.2.1 _ (by decide +kernel)) hce hcv hcl ?_
        refine lv_astore (lv' := [(4, .ref q9), (0, .ref h0), (1, .int a1), (2, .int a2), (3, .ref h8)]) hx hb dL_isKept_24 hl (by decide) rfl (fun ls hl => ?_)
        refine lv_iconst (v := 2) hx hb dL_isKept_26 (by decide) ?_
        have hP9 : va_P D vwCl (wH cC cI cJ h0 h1 h2 h3 h4 h5 h6 h7 h8 u) _ := hP
        have hD9 : va_D A (wH cC cI cJ h0 h1 h2 h3 h4 h5 h6 h7 h8 u) := hD
        have hf := Option.some.inj hf
        have hf1 := congrArg Prod.fst hf
        have hf2 := congrArg Prod.snd hf
        exact W.iret (v := 2) hx hb hr (fun t ht hW => ⟨⟨2, u, rfl, ⟨hf1, hf2⟩, by rw [ht]; exact hP9, va_K.moved hW.alike hK, hD9⟩, hS.F ht⟩) hS.2.2 dL_isKept_27
      · rw [if_neg c3] at hf
        cases hf
  · obtain ⟨z1, hr9, hz⟩ := hw
    obtain rfl := hr9.symm
    have hf := hf _ hz
    have hP := my_keep hP hk1
    refine my_bz_eq (x := z1) (tgt := 15) hx hb dL_isKept_8 (by decide) (fun c4 => ?_) (fun c4 => ?_)
    · rw [if_pos c4] at hf
      refine lv_lconst (v := 0) hx hb dL_isKept_15 (by decide) ?_
      refine va_last hx hb hK hP hD hS 8 2 rfl rfl (show ¬ ((0 : Int32) < 0 ∨ 1 ≤ (0 : Int32).toNatClampNeg) by decide) dL_isKept_16 (fun H locs hP hD hS => ?_)
      have hP : va_P D vwCl [(h0, .inr (4, [.ref h1, .ref h2, .ref h5])), (h1, .inl (cJ, 8, .inr (.inl u.1.1))), (h2, .inr (3, [.ref h3, .ref h4, .int u.1.2.1.2.2])), (h3, .inl (cC, 40, .inl u.1.2.1.1)), (h4, .inl (cI, 40, .inl u.1.2.1.2.1)), (h5, .inr (2, [.ref h6, .ref h7, .int u.1.2.2.2.2.1, .int u.1.2.2.2.2.2])), (h6, .inl (cI, 8, .inl u.1.2.2.1)), (h7, .inl (cJ, 8, .inr (.inl u.1.2.2.2.1))), (h8, .inl (cJ, 1, .inr (.inl (vp_updL u.2 (0 : Int32).toNatClampNeg 0))))] H := hP
      have hD : va_D A [(h0, .inr (4, [.ref h1, .ref h2, .ref h5])), (h1, .inl (cJ, 8, .inr (.inl u.1.1))), (h2, .inr (3, [.ref h3, .ref h4, .int u.1.2.1.2.2])), (h3, .inl (cC, 40, .inl u.1.2.1.1)), (h4, .inl (cI, 40, .inl u.1.2.1.2.1)), (h5, .inr (2, [.ref h6, .ref h7, .int u.1.2.2.2.2.1, .int u.1.2.2.2.2.2])), (h6, .inl (cI, 8, .inl u.1.2.2.1)), (h7, .inl (cJ, 8, .inr (.inl u.1.2.2.2.1))), (h8, .inl (cJ, 1, .inr (.inl (vp_updL u.2 (0 : Int32).toNatClampNeg 0))))] := hD
      refine lv_goto (tgt := 28) hx hb dL_isKept_17 (by decide) ?_
      refine lv_iconst (v := 0) hx hb dL_isKept_28 (by decide) ?_
      have hP9 : va_P D vwCl (wH cC cI cJ h0 h1 h2 h3 h4 h5 h6 h7 h8 (u.1, (vp_updL u.2 (0 : Int32).toNatClampNeg 0))) _ := hP
      have hD9 : va_D A (wH cC cI cJ h0 h1 h2 h3 h4 h5 h6 h7 h8 (u.1, (vp_updL u.2 (0 : Int32).toNatClampNeg 0))) := hD
      have hf := Option.some.inj hf
      have hf1 := congrArg Prod.fst hf
      have hf2 := congrArg Prod.snd hf
      exact W.iret (v := 0) hx hb hr (fun t ht hW => ⟨⟨0, (u.1, (vp_updL u.2 (0 : Int32).toNatClampNeg 0)), rfl, ⟨hf1, hf2⟩, by rw [ht]; exact hP9, va_K.moved hW.alike hK, hD9⟩, hS.F ht⟩) hS.2.2 dL_isKept_29
    · rw [if_neg c4] at hf
      refine lv_lconst (v := 1) hx hb dL_isKept_11 (by decide) ?_
      refine lv_goto (tgt := 16) hx hb dL_isKept_12 (by decide) ?_
      refine va_last hx hb hK hP hD hS 8 2 rfl rfl (show ¬ ((0 : Int32) < 0 ∨ 1 ≤ (0 : Int32).toNatClampNeg) by decide) dL_isKept_16 (fun H locs hP hD hS => ?_)
      have hP : va_P D vwCl [(h0, .inr (4, [.ref h1, .ref h2, .ref h5])), (h1, .inl (cJ, 8, .inr (.inl u.1.1))), (h2, .inr (3, [.ref h3, .ref h4, .int u.1.2.1.2.2])), (h3, .inl (cC, 40, .inl u.1.2.1.1)), (h4, .inl (cI, 40, .inl u.1.2.1.2.1)), (h5, .inr (2, [.ref h6, .ref h7, .int u.1.2.2.2.2.1, .int u.1.2.2.2.2.2])), (h6, .inl (cI, 8, .inl u.1.2.2.1)), (h7, .inl (cJ, 8, .inr (.inl u.1.2.2.2.1))), (h8, .inl (cJ, 1, .inr (.inl (vp_updL u.2 (0 : Int32).toNatClampNeg 1))))] H := hP
      have hD : va_D A [(h0, .inr (4, [.ref h1, .ref h2, .ref h5])), (h1, .inl (cJ, 8, .inr (.inl u.1.1))), (h2, .inr (3, [.ref h3, .ref h4, .int u.1.2.1.2.2])), (h3, .inl (cC, 40, .inl u.1.2.1.1)), (h4, .inl (cI, 40, .inl u.1.2.1.2.1)), (h5, .inr (2, [.ref h6, .ref h7, .int u.1.2.2.2.2.1, .int u.1.2.2.2.2.2])), (h6, .inl (cI, 8, .inl u.1.2.2.1)), (h7, .inl (cJ, 8, .inr (.inl u.1.2.2.2.1))), (h8, .inl (cJ, 1, .inr (.inl (vp_updL u.2 (0 : Int32).toNatClampNeg 1))))] := hD
      refine lv_goto (tgt := 28) hx hb dL_isKept_17 (by decide) ?_
      refine lv_iconst (v := 0) hx hb dL_isKept_28 (by decide) ?_
      have hP9 : va_P D vwCl (wH cC cI cJ h0 h1 h2 h3 h4 h5 h6 h7 h8 (u.1, (vp_updL u.2 (0 : Int32).toNatClampNeg 1))) _ := hP
      have hD9 : va_D A (wH cC cI cJ h0 h1 h2 h3 h4 h5 h6 h7 h8 (u.1, (vp_updL u.2 (0 : Int32).toNatClampNeg 1))) := hD
      have hf := Option.some.inj hf
      have hf1 := congrArg Prod.fst hf
      have hf2 := congrArg Prod.snd hf
      exact W.iret (v := 0) hx hb hr (fun t ht hW => ⟨⟨0, (u.1, (vp_updL u.2 (0 : Int32).toNatClampNeg 1)), rfl, ⟨hf1, hf2⟩, by rw [ht]; exact hP9, va_K.moved hW.alike hK, hD9⟩, hS.F ht⟩) hS.2.2 dL_isKept_29

set_option maxHeartbeats 4000000 in
set_option maxRecDepth 100000 in
theorem m_L_isOne (l : Launch) (hl0 : l.stackTraces = false) (D : va_G) (cC cI cJ : ClassId) (h0 h1 h2 h3 h4 h5 h6 h7 h8 : Nat) (u : SH) (sz : Nat) (a1 : Int32) (a2 : Int32) (a3 : Int32) (res : Int32 × SH) (hf : f_L_isOne u a1 a2 a3 = some res) : Met l yL_isOne wsL_isOne rmL_isOne (my_PcTM D vwCl (KT cC cI cJ) sz (wH cC cI cJ h0 h1 h2 h3 h4 h5 h6 h7 h8 u) [.ref h0, .int a1, .int a2, .int a3, .ref h8]) (va_Qi (fun r v => r = res.1 ∧ v = res.2) (my_B D vwCl (KT cC cI cJ) (va_A (wH cC cI cJ h0 h1 h2 h3 h4 h5 h6 h7 h8 u) sz) (fun v : SH => (wH cC cI cJ h0 h1 h2 h3 h4 h5 h6 h7 h8 v))) (va_A (wH cC cI cJ h0 h1 h2 h3 h4 h5 h6 h7 h8 u) sz)) 3 18 (va_A (wH cC cI cJ h0 h1 h2 h3 h4 h5 h6 h7 h8 u) sz) := by
  refine va_MetW (cc := cL_isOne) (maxL := 6) (ret := (some .int)) (by decide) rfl ?_
  intro p e s m args below meth c s₁ B hml hv
  obtain ⟨rfl, hsz, hP, hK, hD0, hXK⟩ := hv
  have hx := B.exec
  have hb := B.bytes
  have hr := B.returns
  have hts : ∀ w ∈ wsL_isOne, w.before ([.ref h0, .int a1, .int a2, .int a3, .ref h8] : List Value).toArray s = true := atoms_spec (ws := wsL_isOne) B.pre
  have hown : s.vm.findClass RL = some m.cls := findClass_of_methodNamed B.named
  have hlk : meth.locks = false := B.notSynchronized
  subst hsz
  have hD := hD0.self (sz := s.heap.size)
  generalize hAe : va_A (wH cC cI cJ h0 h1 h2 h3 h4 h5 h6 h7 h8 u) s.heap.size = A at hD ⊢
  have hA : ∀ q : Nat, s.heap.size ≤ q → A q := fun q h => by rw [← hAe]; exact Or.inr h
  have hS : va_S A s.heap s.heap [] := va_S.rf
  have hP : va_P D vwCl [(h0, .inr (4, [.ref h1, .ref h2, .ref h5])), (h1, .inl (cJ, 8, .inr (.inl u.1.1))), (h2, .inr (3, [.ref h3, .ref h4, .int u.1.2.1.2.2])), (h3, .inl (cC, 40, .inl u.1.2.1.1)), (h4, .inl (cI, 40, .inl u.1.2.1.2.1)), (h5, .inr (2, [.ref h6, .ref h7, .int u.1.2.2.2.2.1, .int u.1.2.2.2.2.2])), (h6, .inl (cI, 8, .inl u.1.2.2.1)), (h7, .inl (cJ, 8, .inr (.inl u.1.2.2.2.1))), (h8, .inl (cJ, 1, .inr (.inl u.2)))] s.heap := hP
  have hD : va_D A [(h0, .inr (4, [.ref h1, .ref h2, .ref h5])), (h1, .inl (cJ, 8, .inr (.inl u.1.1))), (h2, .inr (3, [.ref h3, .ref h4, .int u.1.2.1.2.2])), (h3, .inl (cC, 40, .inl u.1.2.1.1)), (h4, .inl (cI, 40, .inl u.1.2.1.2.1)), (h5, .inr (2, [.ref h6, .ref h7, .int u.1.2.2.2.2.1, .int u.1.2.2.2.2.2])), (h6, .inl (cI, 8, .inl u.1.2.2.1)), (h7, .inl (cJ, 8, .inr (.inl u.1.2.2.2.1))), (h8, .inl (cJ, 1, .inr (.inl u.2)))] := hD
  have q1 := hts (.classLink RL 13 "java/lang/IndexOutOfBoundsException") (by decide +kernel)
  have q2 := hts (.classLink RL 15 "java/lang/IllegalArgumentException") (by decide +kernel)
  have htab : c.exceptionTable.toList = tableOf [(0, 19, 22, 13), (0, 19, 26, 15)] := vx_table (x := yL_isOne) B (hts _ List.mem_cons_self)
  have hl := lv_entry ([.ref h0, .int a1, .int a2, .int a3, .ref h8]) (n := 6) (Nat.le_of_ble_eq_true rfl)
  rw [lg_entry_eq]
  generalize (lg_sl ([.ref h0, .int a1, .int a2, .int a3, .ref h8]) ++ List.replicate (6 - (lg_sl ([.ref h0, .int a1, .int a2, .int a3, .ref h8])).length) Slot.unset).toArray = ls at hl ⊢
  have hl : lv_has ls 6 [(0, .ref h0), (1, .int a1), (2, .int a2), (3, .int a3), (4, .ref h8)] := hl
  unfold f_L_isOne at hf
  refine lv_aload hx hb dL_isOne_0 (lv_at hl 4 rfl) ?_
  refine lv_iconst (v := 0) hx hb dL_isOne_2 (by decide) ?_
  refine lv_aload_n hx hb dL_isOne_3 rfl (lv_at hl 0 rfl) ?_
  refine lv_iload_n hx hb dL_isOne_4 rfl (lv_at hl 1 rfl) ?_
  refine lv_iload_n hx hb dL_isOne_5 rfl (lv_at hl 2 rfl) ?_
  refine lv_iload_n hx hb dL_isOne_6 rfl (lv_at hl 3 rfl) ?_
  obtain ⟨z1, ez1, hx9, hf⟩ := xh_e hf
  refine my_callXRi (As := [.int a1, .int a2, .int a3]) (n := 3) (rest := [.int 0, .ref h8]) (wc := (wX cC cI cJ h0 h1 h2 h3 h4 h5 h6 h7 u.1)) ⟨hx, hb, hml, hown, hts⟩ hK hP hS hA hXK [0, 1, 2, 3, 4, 5, 6, 7] rfl (m_X5_isOne l hl0 D cC cI cJ h0 h1 h2 h3 h4 h5 h6 h7 u.1 s.heap.size a1 a2 a3 _ ez1) gL_isOne_X5_isOne rfl ⟨rfl, rfl⟩ (ci := 4) rfl rfl (by decide +kernel) ⟨Nat.le_of_ble_eq_true rfl, Nat.le_of_ble_eq_true rfl⟩ ⟨Nat.le_of_ble_eq_true rfl, Nat.le_of_ble_eq_true rfl⟩ hl.1 rfl rfl (Nat.le_of_ble_eq_true rfl) dL_isOne_7 (fun E ce q9 H locs hE hk1 hS hce hcv hcl => ?_) (fun r9 H locs hw hk1 hS => ?_)
  · have hf := hx9 E hE
    have hP := my_keep hP hk1
    by_cases c2 : E = "java/lang/IndexOutOfBoundsException"
    · rw [if_pos c2] at hf
      subst c2
      refine my_catch (hp := []) (z := (0, 19, 22, 13)) (hq0 := [(0, 19, 26, 15)]) (name := "java/lang/IndexOutOfBoundsException") hown htab (fun w hw => absurd hw List.not_mem_nil) (by decide) (by decide) q1 (hXK.2.2.1 _ (by decide +kernel)) hce hcv hcl ?_
      refine lv_astore (lv' := [(5, .ref q9), (0, .ref h0), (1, .int a1), (2, .int a2), (3, .int a3), (4, .ref h8)]) hx hb dL_isOne_22 hl (by decide) rfl (fun ls hl => ?_)
      refine lv_iconst (v := 1) hx hb dL_isOne_24 (by decide) ?_
      have hP9 : va_P D vwCl (wH cC cI cJ h0 h1 h2 h3 h4 h5 h6 h7 h8 u) _ := hP
      have hD9 : va_D A (wH cC cI cJ h0 h1 h2 h3 h4 h5 h6 h7 h8 u) := hD
      have hf := Option.some.inj hf
      have hf1 := congrArg Prod.fst hf
      have hf2 := congrArg Prod.snd hf
      exact W.iret (v := 1) hx hb hr (fun t ht hW => ⟨⟨1, u, rfl, ⟨hf1, hf2⟩, by rw [ht]; exact hP9, va_K.moved hW.alike hK, hD9⟩, hS.F ht⟩) hS.2.2 dL_isOne_25
    · rw [if_neg c2] at hf
      by_cases c3 : E = "java/lang/IllegalArgumentException"
      · rw [if_pos c3] at hf
        subst c3
        refine my_catch (hp := [(0, 19, 22, 13)]) (z := (0, 19, 26, 15)) (hq0 := []) (name := "java/lang/IllegalArgumentException") hown htab (fun w hw => by
          simp only [List.mem_cons, List.not_mem_nil, or_false] at hw
          rcases hw with rfl
          · exact ⟨by decide, "java/lang/IndexOutOfBoundsException", q1, hXK.2.2.2.2 ("java/lang/IllegalArgumentException", "java/lang/IndexOutOfBoundsException") (by decide +kernel)⟩) (by decide) (by decide) q2 (hXK.2.2.1 _ (by decide +kernel)) hce hcv hcl ?_
        refine lv_astore (lv' := [(5, .ref q9), (0, .ref h0), (1, .int a1), (2, .int a2), (3, .int a3), (4, .ref h8)]) hx hb dL_isOne_26 hl (by decide) rfl (fun ls hl => ?_)
        refine lv_iconst (v := 2) hx hb dL_isOne_28 (by decide) ?_
        have hP9 : va_P D vwCl (wH cC cI cJ h0 h1 h2 h3 h4 h5 h6 h7 h8 u) _ := hP
        have hD9 : va_D A (wH cC cI cJ h0 h1 h2 h3 h4 h5 h6 h7 h8 u) := hD
        have hf := Option.some.inj hf
        have hf1 := congrArg Prod.fst hf
        have hf2 := congrArg Prod.snd hf
        exact W.iret (v := 2) hx hb hr (fun t ht hW => ⟨⟨2, u, rfl, ⟨hf1, hf2⟩, by rw [ht]; exact hP9, va_K.moved hW.alike hK, hD9⟩, hS.F ht⟩) hS.2.2 dL_isOne_29
      · rw [if_neg c3] at hf
        cases hf
  · obtain ⟨z1, hr9, hz⟩ := hw
    obtain rfl := hr9.symm
    have hf := hf _ hz
    have hP := my_keep hP hk1
    refine my_bz_eq (x := z1) (tgt := 17) hx hb dL_isOne_10 (by decide) (fun c4 => ?_) (fun c4 => ?_)
    · rw [if_pos c4] at hf
      refine lv_lconst (v := 0) hx hb dL_isOne_17 (by decide) ?_
      refine va_last hx hb hK hP hD hS 8 2 rfl rfl (show ¬ ((0 : Int32) < 0 ∨ 1 ≤ (0 : Int32).toNatClampNeg) by decide) dL_isOne_18 (fun H locs hP hD hS => ?_)
      have hP : va_P D vwCl [(h0, .inr (4, [.ref h1, .ref h2, .ref h5])), (h1, .inl (cJ, 8, .inr (.inl u.1.1))), (h2, .inr (3, [.ref h3, .ref h4, .int u.1.2.1.2.2])), (h3, .inl (cC, 40, .inl u.1.2.1.1)), (h4, .inl (cI, 40, .inl u.1.2.1.2.1)), (h5, .inr (2, [.ref h6, .ref h7, .int u.1.2.2.2.2.1, .int u.1.2.2.2.2.2])), (h6, .inl (cI, 8, .inl u.1.2.2.1)), (h7, .inl (cJ, 8, .inr (.inl u.1.2.2.2.1))), (h8, .inl (cJ, 1, .inr (.inl (vp_updL u.2 (0 : Int32).toNatClampNeg 0))))] H := hP
      have hD : va_D A [(h0, .inr (4, [.ref h1, .ref h2, .ref h5])), (h1, .inl (cJ, 8, .inr (.inl u.1.1))), (h2, .inr (3, [.ref h3, .ref h4, .int u.1.2.1.2.2])), (h3, .inl (cC, 40, .inl u.1.2.1.1)), (h4, .inl (cI, 40, .inl u.1.2.1.2.1)), (h5, .inr (2, [.ref h6, .ref h7, .int u.1.2.2.2.2.1, .int u.1.2.2.2.2.2])), (h6, .inl (cI, 8, .inl u.1.2.2.1)), (h7, .inl (cJ, 8, .inr (.inl u.1.2.2.2.1))), (h8, .inl (cJ, 1, .inr (.inl (vp_updL u.2 (0 : Int32).toNatClampNeg 0))))] := hD
      refine lv_goto (tgt := 30) hx hb dL_isOne_19 (by decide) ?_
      refine lv_iconst (v := 0) hx hb dL_isOne_30 (by decide) ?_
      have hP9 : va_P D vwCl (wH cC cI cJ h0 h1 h2 h3 h4 h5 h6 h7 h8 (u.1, (vp_updL u.2 (0 : Int32).toNatClampNeg 0))) _ := hP
      have hD9 : va_D A (wH cC cI cJ h0 h1 h2 h3 h4 h5 h6 h7 h8 (u.1, (vp_updL u.2 (0 : Int32).toNatClampNeg 0))) := hD
      have hf := Option.some.inj hf
      have hf1 := congrArg Prod.fst hf
      have hf2 := congrArg Prod.snd hf
      exact W.iret (v := 0) hx hb hr (fun t ht hW => ⟨⟨0, (u.1, (vp_updL u.2 (0 : Int32).toNatClampNeg 0)), rfl, ⟨hf1, hf2⟩, by rw [ht]; exact hP9, va_K.moved hW.alike hK, hD9⟩, hS.F ht⟩) hS.2.2 dL_isOne_31
    · rw [if_neg c4] at hf
      refine lv_lconst (v := 1) hx hb dL_isOne_13 (by decide) ?_
      refine lv_goto (tgt := 18) hx hb dL_isOne_14 (by decide) ?_
      refine va_last hx hb hK hP hD hS 8 2 rfl rfl (show ¬ ((0 : Int32) < 0 ∨ 1 ≤ (0 : Int32).toNatClampNeg) by decide) dL_isOne_18 (fun H locs hP hD hS => ?_)
      have hP : va_P D vwCl [(h0, .inr (4, [.ref h1, .ref h2, .ref h5])), (h1, .inl (cJ, 8, .inr (.inl u.1.1))), (h2, .inr (3, [.ref h3, .ref h4, .int u.1.2.1.2.2])), (h3, .inl (cC, 40, .inl u.1.2.1.1)), (h4, .inl (cI, 40, .inl u.1.2.1.2.1)), (h5, .inr (2, [.ref h6, .ref h7, .int u.1.2.2.2.2.1, .int u.1.2.2.2.2.2])), (h6, .inl (cI, 8, .inl u.1.2.2.1)), (h7, .inl (cJ, 8, .inr (.inl u.1.2.2.2.1))), (h8, .inl (cJ, 1, .inr (.inl (vp_updL u.2 (0 : Int32).toNatClampNeg 1))))] H := hP
      have hD : va_D A [(h0, .inr (4, [.ref h1, .ref h2, .ref h5])), (h1, .inl (cJ, 8, .inr (.inl u.1.1))), (h2, .inr (3, [.ref h3, .ref h4, .int u.1.2.1.2.2])), (h3, .inl (cC, 40, .inl u.1.2.1.1)), (h4, .inl (cI, 40, .inl u.1.2.1.2.1)), (h5, .inr (2, [.ref h6, .ref h7, .int u.1.2.2.2.2.1, .int u.1.2.2.2.2.2])), (h6, .inl (cI, 8, .inl u.1.2.2.1)), (h7, .inl (cJ, 8, .inr (.inl u.1.2.2.2.1))), (h8, .inl (cJ, 1, .inr (.inl (vp_updL u.2 (0 : Int32).toNatClampNeg 1))))] := hD
      refine lv_goto (tgt := 30) hx hb dL_isOne_19 (by decide) ?_
      refine lv_iconst (v := 0) hx hb dL_isOne_30 (by decide) ?_
      have hP9 : va_P D vwCl (wH cC cI cJ h0 h1 h2 h3 h4 h5 h6 h7 h8 (u.1, (vp_updL u.2 (0 : Int32).toNatClampNeg 1))) _ := hP
      have hD9 : va_D A (wH cC cI cJ h0 h1 h2 h3 h4 h5 h6 h7 h8 (u.1, (vp_updL u.2 (0 : Int32).toNatClampNeg 1))) := hD
      have hf := Option.some.inj hf
      have hf1 := congrArg Prod.fst hf
      have hf2 := congrArg Prod.snd hf
      exact W.iret (v := 0) hx hb hr (fun t ht hW => ⟨⟨0, (u.1, (vp_updL u.2 (0 : Int32).toNatClampNeg 1)), rfl, ⟨hf1, hf2⟩, by rw [ht]; exact hP9, va_K.moved hW.alike hK, hD9⟩, hS.F ht⟩) hS.2.2 dL_isOne_31

set_option maxHeartbeats 4000000 in
set_option maxRecDepth 100000 in
theorem m_L_exponent (l : Launch) (hl0 : l.stackTraces = false) (D : va_G) (cC cI cJ : ClassId) (h0 h1 h2 h3 h4 h5 h6 h7 h8 : Nat) (u : SH) (sz : Nat) (a1 : Int32) (res : Int32 × SH) (hf : f_L_exponent u a1 = some res) : Met l yL_exponent wsL_exponent rmL_exponent (my_PcTM D vwCl (KT cC cI cJ) sz (wH cC cI cJ h0 h1 h2 h3 h4 h5 h6 h7 h8 u) [.ref h0, .int a1, .ref h8]) (va_Qi (fun r v => r = res.1 ∧ v = res.2) (my_B D vwCl (KT cC cI cJ) (va_A (wH cC cI cJ h0 h1 h2 h3 h4 h5 h6 h7 h8 u) sz) (fun v : SH => (wH cC cI cJ h0 h1 h2 h3 h4 h5 h6 h7 h8 v))) (va_A (wH cC cI cJ h0 h1 h2 h3 h4 h5 h6 h7 h8 u) sz)) 1 6 (va_A (wH cC cI cJ h0 h1 h2 h3 h4 h5 h6 h7 h8 u) sz) := by
  refine va_MetW (cc := cL_exponent) (maxL := 4) (ret := (some .int)) (by decide) rfl ?_
  intro p e s m args below meth c s₁ B hml hv
  obtain ⟨rfl, hsz, hP, hK, hD0, hXK⟩ := hv
  have hx := B.exec
  have hb := B.bytes
  have hr := B.returns
  have hts : ∀ w ∈ wsL_exponent, w.before ([.ref h0, .int a1, .ref h8] : List Value).toArray s = true := atoms_spec (ws := wsL_exponent) B.pre
  have hown : s.vm.findClass RL = some m.cls := findClass_of_methodNamed B.named
  have hlk : meth.locks = false := B.notSynchronized
  subst hsz
  have hD := hD0.self (sz := s.heap.size)
  generalize hAe : va_A (wH cC cI cJ h0 h1 h2 h3 h4 h5 h6 h7 h8 u) s.heap.size = A at hD ⊢
  have hA : ∀ q : Nat, s.heap.size ≤ q → A q := fun q h => by rw [← hAe]; exact Or.inr h
  have hS : va_S A s.heap s.heap [] := va_S.rf
  have hP : va_P D vwCl [(h0, .inr (4, [.ref h1, .ref h2, .ref h5])), (h1, .inl (cJ, 8, .inr (.inl u.1.1))), (h2, .inr (3, [.ref h3, .ref h4, .int u.1.2.1.2.2])), (h3, .inl (cC, 40, .inl u.1.2.1.1)), (h4, .inl (cI, 40, .inl u.1.2.1.2.1)), (h5, .inr (2, [.ref h6, .ref h7, .int u.1.2.2.2.2.1, .int u.1.2.2.2.2.2])), (h6, .inl (cI, 8, .inl u.1.2.2.1)), (h7, .inl (cJ, 8, .inr (.inl u.1.2.2.2.1))), (h8, .inl (cJ, 1, .inr (.inl u.2)))] s.heap := hP
  have hD : va_D A [(h0, .inr (4, [.ref h1, .ref h2, .ref h5])), (h1, .inl (cJ, 8, .inr (.inl u.1.1))), (h2, .inr (3, [.ref h3, .ref h4, .int u.1.2.1.2.2])), (h3, .inl (cC, 40, .inl u.1.2.1.1)), (h4, .inl (cI, 40, .inl u.1.2.1.2.1)), (h5, .inr (2, [.ref h6, .ref h7, .int u.1.2.2.2.2.1, .int u.1.2.2.2.2.2])), (h6, .inl (cI, 8, .inl u.1.2.2.1)), (h7, .inl (cJ, 8, .inr (.inl u.1.2.2.2.1))), (h8, .inl (cJ, 1, .inr (.inl u.2)))] := hD
  have q1 := hts (.classLink RL 13 "java/lang/IndexOutOfBoundsException") (by decide +kernel)
  have htab : c.exceptionTable.toList = tableOf [(0, 9, 12, 13)] := vx_table (x := yL_exponent) B (hts _ List.mem_cons_self)
  have hl := lv_entry ([.ref h0, .int a1, .ref h8]) (n := 4) (Nat.le_of_ble_eq_true rfl)
  rw [lg_entry_eq]
  generalize (lg_sl ([.ref h0, .int a1, .ref h8]) ++ List.replicate (4 - (lg_sl ([.ref h0, .int a1, .ref h8])).length) Slot.unset).toArray = ls at hl ⊢
  have hl : lv_has ls 4 [(0, .ref h0), (1, .int a1), (2, .ref h8)] := hl
  unfold f_L_exponent at hf
  refine lv_aload_n hx hb dL_exponent_0 rfl (lv_at hl 2 rfl) ?_
  refine lv_iconst (v := 0) hx hb dL_exponent_1 (by decide) ?_
  refine lv_aload_n hx hb dL_exponent_2 rfl (lv_at hl 0 rfl) ?_
  refine lv_iload_n hx hb dL_exponent_3 rfl (lv_at hl 1 rfl) ?_
  obtain ⟨z1, ez1, hx9, hf⟩ := xh_e hf
  refine my_callXRi (As := [.int a1]) (n := 1) (rest := [.int 0, .ref h8]) (wc := (wX cC cI cJ h0 h1 h2 h3 h4 h5 h6 h7 u.1)) ⟨hx, hb, hml, hown, hts⟩ hK hP hS hA hXK [0, 1, 2, 3, 4, 5, 6, 7] rfl (m_X5_exponent l hl0 D cC cI cJ h0 h1 h2 h3 h4 h5 h6 h7 u.1 s.heap.size a1 _ ez1) gL_exponent_X5_exponent rfl ⟨rfl, rfl⟩ (ci := 4) rfl rfl (by decide +kernel) ⟨Nat.le_of_ble_eq_true rfl, Nat.le_of_ble_eq_true rfl⟩ ⟨Nat.le_of_ble_eq_true rfl, Nat.le_of_ble_eq_true rfl⟩ hl.1 rfl rfl (Nat.le_of_ble_eq_true rfl) dL_exponent_4 (fun E ce q9 H locs hE hk1 hS hce hcv hcl => ?_) (fun r9 H locs hw hk1 hS => ?_)
  · have hf := hx9 E hE
    have hP := my_keep hP hk1
    by_cases c2 : E = "java/lang/IndexOutOfBoundsException"
    · rw [if_pos c2] at hf
      subst c2
      refine my_catch (hp := []) (z := (0, 9, 12, 13)) (hq0 := []) (name := "java/lang/IndexOutOfBoundsException") hown htab (fun w hw => absurd hw List.not_mem_nil) (by decide) (by decide) q1 (hXK.2.2.1 _ (by decide +kernel)) hce hcv hcl ?_
      refine lv_astore_n (lv' := [(3, .ref q9), (0, .ref h0), (1, .int a1), (2, .ref h8)]) hx hb dL_exponent_12 rfl hl (by decide) rfl (fun ls hl => ?_)
      refine lv_iconst (v := 1) hx hb dL_exponent_13 (by decide) ?_
      have hP9 : va_P D vwCl (wH cC cI cJ h0 h1 h2 h3 h4 h5 h6 h7 h8 u) _ := hP
      have hD9 : va_D A (wH cC cI cJ h0 h1 h2 h3 h4 h5 h6 h7 h8 u) := hD
      have hf := Option.some.inj hf
      have hf1 := congrArg Prod.fst hf
      have hf2 := congrArg Prod.snd hf
      exact W.iret (v := 1) hx hb hr (fun t ht hW => ⟨⟨1, u, rfl, ⟨hf1, hf2⟩, by rw [ht]; exact hP9, va_K.moved hW.alike hK, hD9⟩, hS.F ht⟩) hS.2.2 dL_exponent_14
    · rw [if_neg c2] at hf
      cases hf
  · obtain ⟨z1, hr9, hz⟩ := hw
    obtain rfl := hr9.symm
    have hf := hf _ hz
    have hP := my_keep hP hk1
    refine lv_i2l (v := (z1.toInt64)) hx hb dL_exponent_7 rfl ?_
    refine va_last hx hb hK hP hD hS 8 2 rfl rfl (show ¬ ((0 : Int32) < 0 ∨ 1 ≤ (0 : Int32).toNatClampNeg) by decide) dL_exponent_8 (fun H locs hP hD hS => ?_)
    have hP : va_P D vwCl [(h0, .inr (4, [.ref h1, .ref h2, .ref h5])), (h1, .inl (cJ, 8, .inr (.inl u.1.1))), (h2, .inr (3, [.ref h3, .ref h4, .int u.1.2.1.2.2])), (h3, .inl (cC, 40, .inl u.1.2.1.1)), (h4, .inl (cI, 40, .inl u.1.2.1.2.1)), (h5, .inr (2, [.ref h6, .ref h7, .int u.1.2.2.2.2.1, .int u.1.2.2.2.2.2])), (h6, .inl (cI, 8, .inl u.1.2.2.1)), (h7, .inl (cJ, 8, .inr (.inl u.1.2.2.2.1))), (h8, .inl (cJ, 1, .inr (.inl (vp_updL u.2 (0 : Int32).toNatClampNeg (z1.toInt64)))))] H := hP
    have hD : va_D A [(h0, .inr (4, [.ref h1, .ref h2, .ref h5])), (h1, .inl (cJ, 8, .inr (.inl u.1.1))), (h2, .inr (3, [.ref h3, .ref h4, .int u.1.2.1.2.2])), (h3, .inl (cC, 40, .inl u.1.2.1.1)), (h4, .inl (cI, 40, .inl u.1.2.1.2.1)), (h5, .inr (2, [.ref h6, .ref h7, .int u.1.2.2.2.2.1, .int u.1.2.2.2.2.2])), (h6, .inl (cI, 8, .inl u.1.2.2.1)), (h7, .inl (cJ, 8, .inr (.inl u.1.2.2.2.1))), (h8, .inl (cJ, 1, .inr (.inl (vp_updL u.2 (0 : Int32).toNatClampNeg (z1.toInt64)))))] := hD
    refine lv_goto (tgt := 15) hx hb dL_exponent_9 (by decide) ?_
    refine lv_iconst (v := 0) hx hb dL_exponent_15 (by decide) ?_
    have hP9 : va_P D vwCl (wH cC cI cJ h0 h1 h2 h3 h4 h5 h6 h7 h8 (u.1, (vp_updL u.2 (0 : Int32).toNatClampNeg (z1.toInt64)))) _ := hP
    have hD9 : va_D A (wH cC cI cJ h0 h1 h2 h3 h4 h5 h6 h7 h8 (u.1, (vp_updL u.2 (0 : Int32).toNatClampNeg (z1.toInt64)))) := hD
    have hf := Option.some.inj hf
    have hf1 := congrArg Prod.fst hf
    have hf2 := congrArg Prod.snd hf
    exact W.iret (v := 0) hx hb hr (fun t ht hW => ⟨⟨0, (u.1, (vp_updL u.2 (0 : Int32).toNatClampNeg (z1.toInt64))), rfl, ⟨hf1, hf2⟩, by rw [ht]; exact hP9, va_K.moved hW.alike hK, hD9⟩, hS.F ht⟩) hS.2.2 dL_exponent_16

set_option maxHeartbeats 4000000 in
set_option maxRecDepth 100000 in
theorem m_L_unit (l : Launch) (hl0 : l.stackTraces = false) (D : va_G) (cC cI cJ : ClassId) (h0 h1 h2 h3 h4 h5 h6 h7 h8 : Nat) (u : SH) (sz : Nat) (a1 : Int32) (a2 : Int32) (res : Int32 × SH) (hf : f_L_unit u a1 a2 = some res) : Met l yL_unit wsL_unit rmL_unit (my_PcTM D vwCl (KT cC cI cJ) sz (wH cC cI cJ h0 h1 h2 h3 h4 h5 h6 h7 h8 u) [.ref h0, .int a1, .int a2, .ref h8]) (va_Qi (fun r v => r = res.1 ∧ v = res.2) (my_B D vwCl (KT cC cI cJ) (va_A (wH cC cI cJ h0 h1 h2 h3 h4 h5 h6 h7 h8 u) sz) (fun v : SH => (wH cC cI cJ h0 h1 h2 h3 h4 h5 h6 h7 h8 v))) (va_A (wH cC cI cJ h0 h1 h2 h3 h4 h5 h6 h7 h8 u) sz)) 2 12 (va_A (wH cC cI cJ h0 h1 h2 h3 h4 h5 h6 h7 h8 u) sz) := by
  refine va_MetW (cc := cL_unit) (maxL := 5) (ret := (some .int)) (by decide) rfl ?_
  intro p e s m args below meth c s₁ B hml hv
  obtain ⟨rfl, hsz, hP, hK, hD0, hXK⟩ := hv
  have hx := B.exec
  have hb := B.bytes
  have hr := B.returns
  have hts : ∀ w ∈ wsL_unit, w.before ([.ref h0, .int a1, .int a2, .ref h8] : List Value).toArray s = true := atoms_spec (ws := wsL_unit) B.pre
  have hown : s.vm.findClass RL = some m.cls := findClass_of_methodNamed B.named
  have hlk : meth.locks = false := B.notSynchronized
  subst hsz
  have hD := hD0.self (sz := s.heap.size)
  generalize hAe : va_A (wH cC cI cJ h0 h1 h2 h3 h4 h5 h6 h7 h8 u) s.heap.size = A at hD ⊢
  have hA : ∀ q : Nat, s.heap.size ≤ q → A q := fun q h => by rw [← hAe]; exact Or.inr h
  have hS : va_S A s.heap s.heap [] := va_S.rf
  have hP : va_P D vwCl [(h0, .inr (4, [.ref h1, .ref h2, .ref h5])), (h1, .inl (cJ, 8, .inr (.inl u.1.1))), (h2, .inr (3, [.ref h3, .ref h4, .int u.1.2.1.2.2])), (h3, .inl (cC, 40, .inl u.1.2.1.1)), (h4, .inl (cI, 40, .inl u.1.2.1.2.1)), (h5, .inr (2, [.ref h6, .ref h7, .int u.1.2.2.2.2.1, .int u.1.2.2.2.2.2])), (h6, .inl (cI, 8, .inl u.1.2.2.1)), (h7, .inl (cJ, 8, .inr (.inl u.1.2.2.2.1))), (h8, .inl (cJ, 1, .inr (.inl u.2)))] s.heap := hP
  have hD : va_D A [(h0, .inr (4, [.ref h1, .ref h2, .ref h5])), (h1, .inl (cJ, 8, .inr (.inl u.1.1))), (h2, .inr (3, [.ref h3, .ref h4, .int u.1.2.1.2.2])), (h3, .inl (cC, 40, .inl u.1.2.1.1)), (h4, .inl (cI, 40, .inl u.1.2.1.2.1)), (h5, .inr (2, [.ref h6, .ref h7, .int u.1.2.2.2.2.1, .int u.1.2.2.2.2.2])), (h6, .inl (cI, 8, .inl u.1.2.2.1)), (h7, .inl (cJ, 8, .inr (.inl u.1.2.2.2.1))), (h8, .inl (cJ, 1, .inr (.inl u.2)))] := hD
  have q1 := hts (.classLink RL 13 "java/lang/IndexOutOfBoundsException") (by decide +kernel)
  have htab : c.exceptionTable.toList = tableOf [(0, 9, 12, 13)] := vx_table (x := yL_unit) B (hts _ List.mem_cons_self)
  have hl := lv_entry ([.ref h0, .int a1, .int a2, .ref h8]) (n := 5) (Nat.le_of_ble_eq_true rfl)
  rw [lg_entry_eq]
  generalize (lg_sl ([.ref h0, .int a1, .int a2, .ref h8]) ++ List.replicate (5 - (lg_sl ([.ref h0, .int a1, .int a2, .ref h8])).length) Slot.unset).toArray = ls at hl ⊢
  have hl : lv_has ls 5 [(0, .ref h0), (1, .int a1), (2, .int a2), (3, .ref h8)] := hl
  unfold f_L_unit at hf
  refine lv_aload_n hx hb dL_unit_0 rfl (lv_at hl 3 rfl) ?_
  refine lv_iconst (v := 0) hx hb dL_unit_1 (by decide) ?_
  refine lv_aload_n hx hb dL_unit_2 rfl (lv_at hl 0 rfl) ?_
  refine lv_iload_n hx hb dL_unit_3 rfl (lv_at hl 1 rfl) ?_
  refine lv_iload_n hx hb dL_unit_4 rfl (lv_at hl 2 rfl) ?_
  obtain ⟨z1, ez1, hx9, hf⟩ := xh_e hf
  refine my_callXMl (As := [.int a1, .int a2]) (n := 2) (rest := [.int 0, .ref h8]) (wr := [(h8, .inl (cJ, 1, .inr (.inl u.2)))]) ⟨hx, hb, hml, hown, hts⟩ hK hP hD hS hA hXK [0, 1, 2, 3, 4, 5, 6, 7] [8] rfl rfl (by decide) (by decide) (by decide) (m_X5_unit l hl0 D cC cI cJ h0 h1 h2 h3 h4 h5 h6 h7 u.1 s.heap.size a1 a2 _ ez1) gL_unit_X5_unit rfl ⟨rfl, rfl⟩ (ci := 4) rfl rfl (by decide +kernel) ⟨Nat.le_of_ble_eq_true rfl, Nat.le_of_ble_eq_true rfl⟩ ⟨Nat.le_of_ble_eq_true rfl, Nat.le_of_ble_eq_true rfl⟩ hl.1 rfl rfl (Nat.le_of_ble_eq_true rfl) dL_unit_5 (fun E ce q9 H locs hE hk1 hS hce hcv hcl => ?_) (fun r9 u9 H locs hw hP hD hS => ?_)
  · have hf := hx9 E hE
    have hP := my_keep hP hk1
    by_cases c2 : E = "java/lang/IndexOutOfBoundsException"
    · rw [if_pos c2] at hf
      subst c2
      refine my_catch (hp := []) (z := (0, 9, 12, 13)) (hq0 := []) (name := "java/lang/IndexOutOfBoundsException") hown htab (fun w hw => absurd hw List.not_mem_nil) (by decide) (by decide) q1 (hXK.2.2.1 _ (by decide +kernel)) hce hcv hcl ?_
      refine lv_astore (lv' := [(4, .ref q9), (0, .ref h0), (1, .int a1), (2, .int a2), (3, .ref h8)]) hx hb dL_unit_12 hl (by decide) rfl (fun ls hl => ?_)
      refine lv_iconst (v := 1) hx hb dL_unit_14 (by decide) ?_
      have hP9 : va_P D vwCl (wH cC cI cJ h0 h1 h2 h3 h4 h5 h6 h7 h8 u) _ := hP
      have hD9 : va_D A (wH cC cI cJ h0 h1 h2 h3 h4 h5 h6 h7 h8 u) := hD
      have hf := Option.some.inj hf
      have hf1 := congrArg Prod.fst hf
      have hf2 := congrArg Prod.snd hf
      exact W.iret (v := 1) hx hb hr (fun t ht hW => ⟨⟨1, u, rfl, ⟨hf1, hf2⟩, by rw [ht]; exact hP9, va_K.moved hW.alike hK, hD9⟩, hS.F ht⟩) hS.2.2 dL_unit_15
    · rw [if_neg c2] at hf
      cases hf
  · obtain ⟨z1, rfl, rfl, hz⟩ := hw
    have hf := hf _ hz
    have hP : va_P D vwCl [(h0, .inr (4, [.ref h1, .ref h2, .ref h5])), (h1, .inl (cJ, 8, .inr (.inl z1.2.1))), (h2, .inr (3, [.ref h3, .ref h4, .int z1.2.2.1.2.2])), (h3, .inl (cC, 40, .inl z1.2.2.1.1)), (h4, .inl (cI, 40, .inl z1.2.2.1.2.1)), (h5, .inr (2, [.ref h6, .ref h7, .int z1.2.2.2.2.2.1, .int z1.2.2.2.2.2.2])), (h6, .inl (cI, 8, .inl z1.2.2.2.1)), (h7, .inl (cJ, 8, .inr (.inl z1.2.2.2.2.1))), (h8, .inl (cJ, 1, .inr (.inl u.2)))] H := hP.sub [1, 2, 3, 4, 5, 6, 7, 8, 0] rfl
    have hD : va_D A [(h0, .inr (4, [.ref h1, .ref h2, .ref h5])), (h1, .inl (cJ, 8, .inr (.inl z1.2.1))), (h2, .inr (3, [.ref h3, .ref h4, .int z1.2.2.1.2.2])), (h3, .inl (cC, 40, .inl z1.2.2.1.1)), (h4, .inl (cI, 40, .inl z1.2.2.1.2.1)), (h5, .inr (2, [.ref h6, .ref h7, .int z1.2.2.2.2.2.1, .int z1.2.2.2.2.2.2])), (h6, .inl (cI, 8, .inl z1.2.2.2.1)), (h7, .inl (cJ, 8, .inr (.inl z1.2.2.2.2.1))), (h8, .inl (cJ, 1, .inr (.inl u.2)))] := hD.sub [1, 2, 3, 4, 5, 6, 7, 8, 0] (by decide) rfl
    refine va_last hx hb hK hP hD hS 8 2 rfl rfl (show ¬ ((0 : Int32) < 0 ∨ 1 ≤ (0 : Int32).toNatClampNeg) by decide) dL_unit_8 (fun H locs hP hD hS => ?_)
    have hP : va_P D vwCl [(h0, .inr (4, [.ref h1, .ref h2, .ref h5])), (h1, .inl (cJ, 8, .inr (.inl z1.2.1))), (h2, .inr (3, [.ref h3, .ref h4, .int z1.2.2.1.2.2])), (h3, .inl (cC, 40, .inl z1.2.2.1.1)), (h4, .inl (cI, 40, .inl z1.2.2.1.2.1)), (h5, .inr (2, [.ref h6, .ref h7, .int z1.2.2.2.2.2.1, .int z1.2.2.2.2.2.2])), (h6, .inl (cI, 8, .inl z1.2.2.2.1)), (h7, .inl (cJ, 8, .inr (.inl z1.2.2.2.2.1))), (h8, .inl (cJ, 1, .inr (.inl (vp_updL u.2 (0 : Int32).toNatClampNeg z1.1))))] H := hP
    have hD : va_D A [(h0, .inr (4, [.ref h1, .ref h2, .ref h5])), (h1, .inl (cJ, 8, .inr (.inl z1.2.1))), (h2, .inr (3, [.ref h3, .ref h4, .int z1.2.2.1.2.2])), (h3, .inl (cC, 40, .inl z1.2.2.1.1)), (h4, .inl (cI, 40, .inl z1.2.2.1.2.1)), (h5, .inr (2, [.ref h6, .ref h7, .int z1.2.2.2.2.2.1, .int z1.2.2.2.2.2.2])), (h6, .inl (cI, 8, .inl z1.2.2.2.1)), (h7, .inl (cJ, 8, .inr (.inl z1.2.2.2.2.1))), (h8, .inl (cJ, 1, .inr (.inl (vp_updL u.2 (0 : Int32).toNatClampNeg z1.1))))] := hD
    refine lv_goto (tgt := 16) hx hb dL_unit_9 (by decide) ?_
    refine lv_iconst (v := 0) hx hb dL_unit_16 (by decide) ?_
    have hP9 : va_P D vwCl (wH cC cI cJ h0 h1 h2 h3 h4 h5 h6 h7 h8 (z1.2, (vp_updL u.2 (0 : Int32).toNatClampNeg z1.1))) _ := hP
    have hD9 : va_D A (wH cC cI cJ h0 h1 h2 h3 h4 h5 h6 h7 h8 (z1.2, (vp_updL u.2 (0 : Int32).toNatClampNeg z1.1))) := hD
    have hf := Option.some.inj hf
    have hf1 := congrArg Prod.fst hf
    have hf2 := congrArg Prod.snd hf
    exact W.iret (v := 0) hx hb hr (fun t ht hW => ⟨⟨0, (z1.2, (vp_updL u.2 (0 : Int32).toNatClampNeg z1.1)), rfl, ⟨hf1, hf2⟩, by rw [ht]; exact hP9, va_K.moved hW.alike hK, hD9⟩, hS.F ht⟩) hS.2.2 dL_unit_17

set_option maxHeartbeats 4000000 in
set_option maxRecDepth 100000 in
theorem m_L_lead (l : Launch) (hl0 : l.stackTraces = false) (D : va_G) (cC cI cJ : ClassId) (h0 h1 h2 h3 h4 h5 h6 h7 h8 : Nat) (u : SH) (sz : Nat) (a1 : Int32) (res : Int32 × SH) (hf : f_L_lead u a1 = some res) : Met l yL_lead wsL_lead rmL_lead (my_PcTM D vwCl (KT cC cI cJ) sz (wH cC cI cJ h0 h1 h2 h3 h4 h5 h6 h7 h8 u) [.ref h0, .int a1, .ref h8]) (va_Qi (fun r v => r = res.1 ∧ v = res.2) (my_B D vwCl (KT cC cI cJ) (va_A (wH cC cI cJ h0 h1 h2 h3 h4 h5 h6 h7 h8 u) sz) (fun v : SH => (wH cC cI cJ h0 h1 h2 h3 h4 h5 h6 h7 h8 v))) (va_A (wH cC cI cJ h0 h1 h2 h3 h4 h5 h6 h7 h8 u) sz)) 2 12 (va_A (wH cC cI cJ h0 h1 h2 h3 h4 h5 h6 h7 h8 u) sz) := by
  refine va_MetW (cc := cL_lead) (maxL := 4) (ret := (some .int)) (by decide) rfl ?_
  intro p e s m args below meth c s₁ B hml hv
  obtain ⟨rfl, hsz, hP, hK, hD0, hXK⟩ := hv
  have hx := B.exec
  have hb := B.bytes
  have hr := B.returns
  have hts : ∀ w ∈ wsL_lead, w.before ([.ref h0, .int a1, .ref h8] : List Value).toArray s = true := atoms_spec (ws := wsL_lead) B.pre
  have hown : s.vm.findClass RL = some m.cls := findClass_of_methodNamed B.named
  have hlk : meth.locks = false := B.notSynchronized
  subst hsz
  have hD := hD0.self (sz := s.heap.size)
  generalize hAe : va_A (wH cC cI cJ h0 h1 h2 h3 h4 h5 h6 h7 h8 u) s.heap.size = A at hD ⊢
  have hA : ∀ q : Nat, s.heap.size ≤ q → A q := fun q h => by rw [← hAe]; exact Or.inr h
  have hS : va_S A s.heap s.heap [] := va_S.rf
  have hP : va_P D vwCl [(h0, .inr (4, [.ref h1, .ref h2, .ref h5])), (h1, .inl (cJ, 8, .inr (.inl u.1.1))), (h2, .inr (3, [.ref h3, .ref h4, .int u.1.2.1.2.2])), (h3, .inl (cC, 40, .inl u.1.2.1.1)), (h4, .inl (cI, 40, .inl u.1.2.1.2.1)), (h5, .inr (2, [.ref h6, .ref h7, .int u.1.2.2.2.2.1, .int u.1.2.2.2.2.2])), (h6, .inl (cI, 8, .inl u.1.2.2.1)), (h7, .inl (cJ, 8, .inr (.inl u.1.2.2.2.1))), (h8, .inl (cJ, 1, .inr (.inl u.2)))] s.heap := hP
  have hD : va_D A [(h0, .inr (4, [.ref h1, .ref h2, .ref h5])), (h1, .inl (cJ, 8, .inr (.inl u.1.1))), (h2, .inr (3, [.ref h3, .ref h4, .int u.1.2.1.2.2])), (h3, .inl (cC, 40, .inl u.1.2.1.1)), (h4, .inl (cI, 40, .inl u.1.2.1.2.1)), (h5, .inr (2, [.ref h6, .ref h7, .int u.1.2.2.2.2.1, .int u.1.2.2.2.2.2])), (h6, .inl (cI, 8, .inl u.1.2.2.1)), (h7, .inl (cJ, 8, .inr (.inl u.1.2.2.2.1))), (h8, .inl (cJ, 1, .inr (.inl u.2)))] := hD
  have q1 := hts (.classLink RL 13 "java/lang/IndexOutOfBoundsException") (by decide +kernel)
  have q2 := hts (.classLink RL 98 "java/lang/ArithmeticException") (by decide +kernel)
  have htab : c.exceptionTable.toList = tableOf [(0, 9, 12, 13), (0, 9, 15, 98)] := vx_table (x := yL_lead) B (hts _ List.mem_cons_self)
  have hl := lv_entry ([.ref h0, .int a1, .ref h8]) (n := 4) (Nat.le_of_ble_eq_true rfl)
  rw [lg_entry_eq]
  generalize (lg_sl ([.ref h0, .int a1, .ref h8]) ++ List.replicate (4 - (lg_sl ([.ref h0, .int a1, .ref h8])).length) Slot.unset).toArray = ls at hl ⊢
  have hl : lv_has ls 4 [(0, .ref h0), (1, .int a1), (2, .ref h8)] := hl
  unfold f_L_lead at hf
  refine lv_aload_n hx hb dL_lead_0 rfl (lv_at hl 2 rfl) ?_
  refine lv_iconst (v := 0) hx hb dL_lead_1 (by decide) ?_
  refine lv_aload_n hx hb dL_lead_2 rfl (lv_at hl 0 rfl) ?_
  refine lv_iload_n hx hb dL_lead_3 rfl (lv_at hl 1 rfl) ?_
  obtain ⟨z1, ez1, hx9, hf⟩ := xh_e hf
  refine my_callXRi (As := [.int a1]) (n := 1) (rest := [.int 0, .ref h8]) (wc := (wX cC cI cJ h0 h1 h2 h3 h4 h5 h6 h7 u.1)) ⟨hx, hb, hml, hown, hts⟩ hK hP hS hA hXK [0, 1, 2, 3, 4, 5, 6, 7] rfl (m_X5_lead l hl0 D cC cI cJ h0 h1 h2 h3 h4 h5 h6 h7 u.1 s.heap.size a1 _ ez1) gL_lead_X5_lead rfl ⟨rfl, rfl⟩ (ci := 4) rfl rfl (by decide +kernel) ⟨Nat.le_of_ble_eq_true rfl, Nat.le_of_ble_eq_true rfl⟩ ⟨Nat.le_of_ble_eq_true rfl, Nat.le_of_ble_eq_true rfl⟩ hl.1 rfl rfl (Nat.le_of_ble_eq_true rfl) dL_lead_4 (fun E ce q9 H locs hE hk1 hS hce hcv hcl => ?_) (fun r9 H locs hw hk1 hS => ?_)
  · have hf := hx9 E hE
    have hP := my_keep hP hk1
    by_cases c2 : E = "java/lang/IndexOutOfBoundsException"
    · rw [if_pos c2] at hf
      subst c2
      refine my_catch (hp := []) (z := (0, 9, 12, 13)) (hq0 := [(0, 9, 15, 98)]) (name := "java/lang/IndexOutOfBoundsException") hown htab (fun w hw => absurd hw List.not_mem_nil) (by decide) (by decide) q1 (hXK.2.2.1 _ (by decide +kernel)) hce hcv hcl ?_
      refine lv_astore_n (lv' := [(3, .ref q9), (0, .ref h0), (1, .int a1), (2, .ref h8)]) hx hb dL_lead_12 rfl hl (by decide) rfl (fun ls hl => ?_)
      refine lv_iconst (v := 1) hx hb dL_lead_13 (by decide) ?_
      have hP9 : va_P D vwCl (wH cC cI cJ h0 h1 h2 h3 h4 h5 h6 h7 h8 u) _ := hP
      have hD9 : va_D A (wH cC cI cJ h0 h1 h2 h3 h4 h5 h6 h7 h8 u) := hD
      have hf := Option.some.inj hf
      have hf1 := congrArg Prod.fst hf
      have hf2 := congrArg Prod.snd hf
      exact W.iret (v := 1) hx hb hr (fun t ht hW => ⟨⟨1, u, rfl, ⟨hf1, hf2⟩, by rw [ht]; exact hP9, va_K.moved hW.alike hK, hD9⟩, hS.F ht⟩) hS.2.2 dL_lead_14
    · rw [if_neg c2] at hf
      by_cases c3 : E = "java/lang/ArithmeticException"
      · rw [if_pos c3] at hf
        subst c3
        refine my_catch (hp := [(0, 9, 12, 13)]) (z := (0, 9, 15, 98)) (hq0 := []) (name := "java/lang/ArithmeticException") hown htab (fun w hw => by
          simp only [List.mem_cons, List.not_mem_nil, or_false] at hw
          rcases hw with rfl
          · exact ⟨by decide, "java/lang/IndexOutOfBoundsException", q1, hXK.2.2.2.2 ("java/lang/ArithmeticException", "java/lang/IndexOutOfBoundsException") (by decide +kernel)⟩) (by decide) (by decide) q2 (hXK.2.2.1 _ (by decide +kernel)) hce hcv hcl ?_
        refine lv_astore_n (lv' := [(3, .ref q9), (0, .ref h0), (1, .int a1), (2, .ref h8)]) hx hb dL_lead_15 rfl hl (by decide) rfl (fun ls hl => ?_)
        refine lv_iconst (v := 2) hx hb dL_lead_16 (by decide) ?_
        have hP9 : va_P D vwCl (wH cC cI cJ h0 h1 h2 h3 h4 h5 h6 h7 h8 u) _ := hP
        have hD9 : va_D A (wH cC cI cJ h0 h1 h2 h3 h4 h5 h6 h7 h8 u) := hD
        have hf := Option.some.inj hf
        have hf1 := congrArg Prod.fst hf
        have hf2 := congrArg Prod.snd hf
        exact W.iret (v := 2) hx hb hr (fun t ht hW => ⟨⟨2, u, rfl, ⟨hf1, hf2⟩, by rw [ht]; exact hP9, va_K.moved hW.alike hK, hD9⟩, hS.F ht⟩) hS.2.2 dL_lead_17
      · rw [if_neg c3] at hf
        cases hf
  · obtain ⟨z1, hr9, hz⟩ := hw
    obtain rfl := hr9.symm
    have hf := hf _ hz
    have hP := my_keep hP hk1
    refine lv_i2l (v := (z1.toInt64)) hx hb dL_lead_7 rfl ?_
    refine va_last hx hb hK hP hD hS 8 2 rfl rfl (show ¬ ((0 : Int32) < 0 ∨ 1 ≤ (0 : Int32).toNatClampNeg) by decide) dL_lead_8 (fun H locs hP hD hS => ?_)
    have hP : va_P D vwCl [(h0, .inr (4, [.ref h1, .ref h2, .ref h5])), (h1, .inl (cJ, 8, .inr (.inl u.1.1))), (h2, .inr (3, [.ref h3, .ref h4, .int u.1.2.1.2.2])), (h3, .inl (cC, 40, .inl u.1.2.1.1)), (h4, .inl (cI, 40, .inl u.1.2.1.2.1)), (h5, .inr (2, [.ref h6, .ref h7, .int u.1.2.2.2.2.1, .int u.1.2.2.2.2.2])), (h6, .inl (cI, 8, .inl u.1.2.2.1)), (h7, .inl (cJ, 8, .inr (.inl u.1.2.2.2.1))), (h8, .inl (cJ, 1, .inr (.inl (vp_updL u.2 (0 : Int32).toNatClampNeg (z1.toInt64)))))] H := hP
    have hD : va_D A [(h0, .inr (4, [.ref h1, .ref h2, .ref h5])), (h1, .inl (cJ, 8, .inr (.inl u.1.1))), (h2, .inr (3, [.ref h3, .ref h4, .int u.1.2.1.2.2])), (h3, .inl (cC, 40, .inl u.1.2.1.1)), (h4, .inl (cI, 40, .inl u.1.2.1.2.1)), (h5, .inr (2, [.ref h6, .ref h7, .int u.1.2.2.2.2.1, .int u.1.2.2.2.2.2])), (h6, .inl (cI, 8, .inl u.1.2.2.1)), (h7, .inl (cJ, 8, .inr (.inl u.1.2.2.2.1))), (h8, .inl (cJ, 1, .inr (.inl (vp_updL u.2 (0 : Int32).toNatClampNeg (z1.toInt64)))))] := hD
    refine lv_goto (tgt := 18) hx hb dL_lead_9 (by decide) ?_
    refine lv_iconst (v := 0) hx hb dL_lead_18 (by decide) ?_
    have hP9 : va_P D vwCl (wH cC cI cJ h0 h1 h2 h3 h4 h5 h6 h7 h8 (u.1, (vp_updL u.2 (0 : Int32).toNatClampNeg (z1.toInt64)))) _ := hP
    have hD9 : va_D A (wH cC cI cJ h0 h1 h2 h3 h4 h5 h6 h7 h8 (u.1, (vp_updL u.2 (0 : Int32).toNatClampNeg (z1.toInt64)))) := hD
    have hf := Option.some.inj hf
    have hf1 := congrArg Prod.fst hf
    have hf2 := congrArg Prod.snd hf
    exact W.iret (v := 0) hx hb hr (fun t ht hW => ⟨⟨0, (u.1, (vp_updL u.2 (0 : Int32).toNatClampNeg (z1.toInt64))), rfl, ⟨hf1, hf2⟩, by rw [ht]; exact hP9, va_K.moved hW.alike hK, hD9⟩, hS.F ht⟩) hS.2.2 dL_lead_19

set_option maxHeartbeats 4000000 in
set_option maxRecDepth 100000 in
theorem m_L_tail (l : Launch) (hl0 : l.stackTraces = false) (D : va_G) (cC cI cJ : ClassId) (h0 h1 h2 h3 h4 h5 h6 h7 h8 : Nat) (u : SH) (sz : Nat) (a1 : Int32) (res : Int32 × SH) (hf : f_L_tail u a1 = some res) : Met l yL_tail wsL_tail rmL_tail (my_PcTM D vwCl (KT cC cI cJ) sz (wH cC cI cJ h0 h1 h2 h3 h4 h5 h6 h7 h8 u) [.ref h0, .int a1, .ref h8]) (va_Qi (fun r v => r = res.1 ∧ v = res.2) (my_B D vwCl (KT cC cI cJ) (va_A (wH cC cI cJ h0 h1 h2 h3 h4 h5 h6 h7 h8 u) sz) (fun v : SH => (wH cC cI cJ h0 h1 h2 h3 h4 h5 h6 h7 h8 v))) (va_A (wH cC cI cJ h0 h1 h2 h3 h4 h5 h6 h7 h8 u) sz)) 2 12 (va_A (wH cC cI cJ h0 h1 h2 h3 h4 h5 h6 h7 h8 u) sz) := by
  refine va_MetW (cc := cL_tail) (maxL := 4) (ret := (some .int)) (by decide) rfl ?_
  intro p e s m args below meth c s₁ B hml hv
  obtain ⟨rfl, hsz, hP, hK, hD0, hXK⟩ := hv
  have hx := B.exec
  have hb := B.bytes
  have hr := B.returns
  have hts : ∀ w ∈ wsL_tail, w.before ([.ref h0, .int a1, .ref h8] : List Value).toArray s = true := atoms_spec (ws := wsL_tail) B.pre
  have hown : s.vm.findClass RL = some m.cls := findClass_of_methodNamed B.named
  have hlk : meth.locks = false := B.notSynchronized
  subst hsz
  have hD := hD0.self (sz := s.heap.size)
  generalize hAe : va_A (wH cC cI cJ h0 h1 h2 h3 h4 h5 h6 h7 h8 u) s.heap.size = A at hD ⊢
  have hA : ∀ q : Nat, s.heap.size ≤ q → A q := fun q h => by rw [← hAe]; exact Or.inr h
  have hS : va_S A s.heap s.heap [] := va_S.rf
  have hP : va_P D vwCl [(h0, .inr (4, [.ref h1, .ref h2, .ref h5])), (h1, .inl (cJ, 8, .inr (.inl u.1.1))), (h2, .inr (3, [.ref h3, .ref h4, .int u.1.2.1.2.2])), (h3, .inl (cC, 40, .inl u.1.2.1.1)), (h4, .inl (cI, 40, .inl u.1.2.1.2.1)), (h5, .inr (2, [.ref h6, .ref h7, .int u.1.2.2.2.2.1, .int u.1.2.2.2.2.2])), (h6, .inl (cI, 8, .inl u.1.2.2.1)), (h7, .inl (cJ, 8, .inr (.inl u.1.2.2.2.1))), (h8, .inl (cJ, 1, .inr (.inl u.2)))] s.heap := hP
  have hD : va_D A [(h0, .inr (4, [.ref h1, .ref h2, .ref h5])), (h1, .inl (cJ, 8, .inr (.inl u.1.1))), (h2, .inr (3, [.ref h3, .ref h4, .int u.1.2.1.2.2])), (h3, .inl (cC, 40, .inl u.1.2.1.1)), (h4, .inl (cI, 40, .inl u.1.2.1.2.1)), (h5, .inr (2, [.ref h6, .ref h7, .int u.1.2.2.2.2.1, .int u.1.2.2.2.2.2])), (h6, .inl (cI, 8, .inl u.1.2.2.1)), (h7, .inl (cJ, 8, .inr (.inl u.1.2.2.2.1))), (h8, .inl (cJ, 1, .inr (.inl u.2)))] := hD
  have q1 := hts (.classLink RL 13 "java/lang/IndexOutOfBoundsException") (by decide +kernel)
  have q2 := hts (.classLink RL 98 "java/lang/ArithmeticException") (by decide +kernel)
  have htab : c.exceptionTable.toList = tableOf [(0, 9, 12, 13), (0, 9, 15, 98)] := vx_table (x := yL_tail) B (hts _ List.mem_cons_self)
  have hl := lv_entry ([.ref h0, .int a1, .ref h8]) (n := 4) (Nat.le_of_ble_eq_true rfl)
  rw [lg_entry_eq]
  generalize (lg_sl ([.ref h0, .int a1, .ref h8]) ++ List.replicate (4 - (lg_sl ([.ref h0, .int a1, .ref h8])).length) Slot.unset).toArray = ls at hl ⊢
  have hl : lv_has ls 4 [(0, .ref h0), (1, .int a1), (2, .ref h8)] := hl
  unfold f_L_tail at hf
  refine lv_aload_n hx hb dL_tail_0 rfl (lv_at hl 2 rfl) ?_
  refine lv_iconst (v := 0) hx hb dL_tail_1 (by decide) ?_
  refine lv_aload_n hx hb dL_tail_2 rfl (lv_at hl 0 rfl) ?_
  refine lv_iload_n hx hb dL_tail_3 rfl (lv_at hl 1 rfl) ?_
  obtain ⟨z1, ez1, hx9, hf⟩ := xh_e hf
  refine my_callXRi (As := [.int a1]) (n := 1) (rest := [.int 0, .ref h8]) (wc := (wX cC cI cJ h0 h1 h2 h3 h4 h5 h6 h7 u.1)) ⟨hx, hb, hml, hown, hts⟩ hK hP hS hA hXK [0, 1, 2, 3, 4, 5, 6, 7] rfl (m_X5_tail l hl0 D cC cI cJ h0 h1 h2 h3 h4 h5 h6 h7 u.1 s.heap.size a1 _ ez1) gL_tail_X5_tail rfl ⟨rfl, rfl⟩ (ci := 4) rfl rfl (by decide +kernel) ⟨Nat.le_of_ble_eq_true rfl, Nat.le_of_ble_eq_true rfl⟩ ⟨Nat.le_of_ble_eq_true rfl, Nat.le_of_ble_eq_true rfl⟩ hl.1 rfl rfl (Nat.le_of_ble_eq_true rfl) dL_tail_4 (fun E ce q9 H locs hE hk1 hS hce hcv hcl => ?_) (fun r9 H locs hw hk1 hS => ?_)
  · have hf := hx9 E hE
    have hP := my_keep hP hk1
    by_cases c2 : E = "java/lang/IndexOutOfBoundsException"
    · rw [if_pos c2] at hf
      subst c2
      refine my_catch (hp := []) (z := (0, 9, 12, 13)) (hq0 := [(0, 9, 15, 98)]) (name := "java/lang/IndexOutOfBoundsException") hown htab (fun w hw => absurd hw List.not_mem_nil) (by decide) (by decide) q1 (hXK.2.2.1 _ (by decide +kernel)) hce hcv hcl ?_
      refine lv_astore_n (lv' := [(3, .ref q9), (0, .ref h0), (1, .int a1), (2, .ref h8)]) hx hb dL_tail_12 rfl hl (by decide) rfl (fun ls hl => ?_)
      refine lv_iconst (v := 1) hx hb dL_tail_13 (by decide) ?_
      have hP9 : va_P D vwCl (wH cC cI cJ h0 h1 h2 h3 h4 h5 h6 h7 h8 u) _ := hP
      have hD9 : va_D A (wH cC cI cJ h0 h1 h2 h3 h4 h5 h6 h7 h8 u) := hD
      have hf := Option.some.inj hf
      have hf1 := congrArg Prod.fst hf
      have hf2 := congrArg Prod.snd hf
      exact W.iret (v := 1) hx hb hr (fun t ht hW => ⟨⟨1, u, rfl, ⟨hf1, hf2⟩, by rw [ht]; exact hP9, va_K.moved hW.alike hK, hD9⟩, hS.F ht⟩) hS.2.2 dL_tail_14
    · rw [if_neg c2] at hf
      by_cases c3 : E = "java/lang/ArithmeticException"
      · rw [if_pos c3] at hf
        subst c3
        refine my_catch (hp := [(0, 9, 12, 13)]) (z := (0, 9, 15, 98)) (hq0 := []) (name := "java/lang/ArithmeticException") hown htab (fun w hw => by
          simp only [List.mem_cons, List.not_mem_nil, or_false] at hw
          rcases hw with rfl
          · exact ⟨by decide, "java/lang/IndexOutOfBoundsException", q1, hXK.2.2.2.2 ("java/lang/ArithmeticException", "java/lang/IndexOutOfBoundsException") (by decide +kernel)⟩) (by decide) (by decide) q2 (hXK.2.2.1 _ (by decide +kernel)) hce hcv hcl ?_
        refine lv_astore_n (lv' := [(3, .ref q9), (0, .ref h0), (1, .int a1), (2, .ref h8)]) hx hb dL_tail_15 rfl hl (by decide) rfl (fun ls hl => ?_)
        refine lv_iconst (v := 2) hx hb dL_tail_16 (by decide) ?_
        have hP9 : va_P D vwCl (wH cC cI cJ h0 h1 h2 h3 h4 h5 h6 h7 h8 u) _ := hP
        have hD9 : va_D A (wH cC cI cJ h0 h1 h2 h3 h4 h5 h6 h7 h8 u) := hD
        have hf := Option.some.inj hf
        have hf1 := congrArg Prod.fst hf
        have hf2 := congrArg Prod.snd hf
        exact W.iret (v := 2) hx hb hr (fun t ht hW => ⟨⟨2, u, rfl, ⟨hf1, hf2⟩, by rw [ht]; exact hP9, va_K.moved hW.alike hK, hD9⟩, hS.F ht⟩) hS.2.2 dL_tail_17
      · rw [if_neg c3] at hf
        cases hf
  · obtain ⟨z1, hr9, hz⟩ := hw
    obtain rfl := hr9.symm
    have hf := hf _ hz
    have hP := my_keep hP hk1
    refine lv_i2l (v := (z1.toInt64)) hx hb dL_tail_7 rfl ?_
    refine va_last hx hb hK hP hD hS 8 2 rfl rfl (show ¬ ((0 : Int32) < 0 ∨ 1 ≤ (0 : Int32).toNatClampNeg) by decide) dL_tail_8 (fun H locs hP hD hS => ?_)
    have hP : va_P D vwCl [(h0, .inr (4, [.ref h1, .ref h2, .ref h5])), (h1, .inl (cJ, 8, .inr (.inl u.1.1))), (h2, .inr (3, [.ref h3, .ref h4, .int u.1.2.1.2.2])), (h3, .inl (cC, 40, .inl u.1.2.1.1)), (h4, .inl (cI, 40, .inl u.1.2.1.2.1)), (h5, .inr (2, [.ref h6, .ref h7, .int u.1.2.2.2.2.1, .int u.1.2.2.2.2.2])), (h6, .inl (cI, 8, .inl u.1.2.2.1)), (h7, .inl (cJ, 8, .inr (.inl u.1.2.2.2.1))), (h8, .inl (cJ, 1, .inr (.inl (vp_updL u.2 (0 : Int32).toNatClampNeg (z1.toInt64)))))] H := hP
    have hD : va_D A [(h0, .inr (4, [.ref h1, .ref h2, .ref h5])), (h1, .inl (cJ, 8, .inr (.inl u.1.1))), (h2, .inr (3, [.ref h3, .ref h4, .int u.1.2.1.2.2])), (h3, .inl (cC, 40, .inl u.1.2.1.1)), (h4, .inl (cI, 40, .inl u.1.2.1.2.1)), (h5, .inr (2, [.ref h6, .ref h7, .int u.1.2.2.2.2.1, .int u.1.2.2.2.2.2])), (h6, .inl (cI, 8, .inl u.1.2.2.1)), (h7, .inl (cJ, 8, .inr (.inl u.1.2.2.2.1))), (h8, .inl (cJ, 1, .inr (.inl (vp_updL u.2 (0 : Int32).toNatClampNeg (z1.toInt64)))))] := hD
    refine lv_goto (tgt := 18) hx hb dL_tail_9 (by decide) ?_
    refine lv_iconst (v := 0) hx hb dL_tail_18 (by decide) ?_
    have hP9 : va_P D vwCl (wH cC cI cJ h0 h1 h2 h3 h4 h5 h6 h7 h8 (u.1, (vp_updL u.2 (0 : Int32).toNatClampNeg (z1.toInt64)))) _ := hP
    have hD9 : va_D A (wH cC cI cJ h0 h1 h2 h3 h4 h5 h6 h7 h8 (u.1, (vp_updL u.2 (0 : Int32).toNatClampNeg (z1.toInt64)))) := hD
    have hf := Option.some.inj hf
    have hf1 := congrArg Prod.fst hf
    have hf2 := congrArg Prod.snd hf
    exact W.iret (v := 0) hx hb hr (fun t ht hW => ⟨⟨0, (u.1, (vp_updL u.2 (0 : Int32).toNatClampNeg (z1.toInt64))), rfl, ⟨hf1, hf2⟩, by rw [ht]; exact hP9, va_K.moved hW.alike hK, hD9⟩, hS.F ht⟩) hS.2.2 dL_tail_19

set_option maxHeartbeats 4000000 in
set_option maxRecDepth 100000 in
theorem m_L_power (l : Launch) (hl0 : l.stackTraces = false) (D : va_G) (cC cI cJ : ClassId) (h0 h1 h2 h3 h4 h5 h6 h7 h8 : Nat) (u : SH) (sz : Nat) (a1 : Int32) (a2 : Int32) (res : Int32 × SH) (hf : f_L_power u a1 a2 = some res) : Met l yL_power wsL_power rmL_power (my_PcTM D vwCl (KT cC cI cJ) sz (wH cC cI cJ h0 h1 h2 h3 h4 h5 h6 h7 h8 u) [.ref h0, .int a1, .int a2, .ref h8]) (va_Qi (fun r v => r = res.1 ∧ v = res.2) (my_B D vwCl (KT cC cI cJ) (va_A (wH cC cI cJ h0 h1 h2 h3 h4 h5 h6 h7 h8 u) sz) (fun v : SH => (wH cC cI cJ h0 h1 h2 h3 h4 h5 h6 h7 h8 v))) (va_A (wH cC cI cJ h0 h1 h2 h3 h4 h5 h6 h7 h8 u) sz)) 3 18 (va_A (wH cC cI cJ h0 h1 h2 h3 h4 h5 h6 h7 h8 u) sz) := by
  refine va_MetW (cc := cL_power) (maxL := 5) (ret := (some .int)) (by decide) rfl ?_
  intro p e s m args below meth c s₁ B hml hv
  obtain ⟨rfl, hsz, hP, hK, hD0, hXK⟩ := hv
  have hx := B.exec
  have hb := B.bytes
  have hr := B.returns
  have hts : ∀ w ∈ wsL_power, w.before ([.ref h0, .int a1, .int a2, .ref h8] : List Value).toArray s = true := atoms_spec (ws := wsL_power) B.pre
  have hown : s.vm.findClass RL = some m.cls := findClass_of_methodNamed B.named
  have hlk : meth.locks = false := B.notSynchronized
  subst hsz
  have hD := hD0.self (sz := s.heap.size)
  generalize hAe : va_A (wH cC cI cJ h0 h1 h2 h3 h4 h5 h6 h7 h8 u) s.heap.size = A at hD ⊢
  have hA : ∀ q : Nat, s.heap.size ≤ q → A q := fun q h => by rw [← hAe]; exact Or.inr h
  have hS : va_S A s.heap s.heap [] := va_S.rf
  have hP : va_P D vwCl [(h0, .inr (4, [.ref h1, .ref h2, .ref h5])), (h1, .inl (cJ, 8, .inr (.inl u.1.1))), (h2, .inr (3, [.ref h3, .ref h4, .int u.1.2.1.2.2])), (h3, .inl (cC, 40, .inl u.1.2.1.1)), (h4, .inl (cI, 40, .inl u.1.2.1.2.1)), (h5, .inr (2, [.ref h6, .ref h7, .int u.1.2.2.2.2.1, .int u.1.2.2.2.2.2])), (h6, .inl (cI, 8, .inl u.1.2.2.1)), (h7, .inl (cJ, 8, .inr (.inl u.1.2.2.2.1))), (h8, .inl (cJ, 1, .inr (.inl u.2)))] s.heap := hP
  have hD : va_D A [(h0, .inr (4, [.ref h1, .ref h2, .ref h5])), (h1, .inl (cJ, 8, .inr (.inl u.1.1))), (h2, .inr (3, [.ref h3, .ref h4, .int u.1.2.1.2.2])), (h3, .inl (cC, 40, .inl u.1.2.1.1)), (h4, .inl (cI, 40, .inl u.1.2.1.2.1)), (h5, .inr (2, [.ref h6, .ref h7, .int u.1.2.2.2.2.1, .int u.1.2.2.2.2.2])), (h6, .inl (cI, 8, .inl u.1.2.2.1)), (h7, .inl (cJ, 8, .inr (.inl u.1.2.2.2.1))), (h8, .inl (cJ, 1, .inr (.inl u.2)))] := hD
  have q1 := hts (.classLink RL 13 "java/lang/IndexOutOfBoundsException") (by decide +kernel)
  have q2 := hts (.classLink RL 98 "java/lang/ArithmeticException") (by decide +kernel)
  have htab : c.exceptionTable.toList = tableOf [(0, 9, 12, 13), (0, 9, 16, 98)] := vx_table (x := yL_power) B (hts _ List.mem_cons_self)
  have hl := lv_entry ([.ref h0, .int a1, .int a2, .ref h8]) (n := 5) (Nat.le_of_ble_eq_true rfl)
  rw [lg_entry_eq]
  generalize (lg_sl ([.ref h0, .int a1, .int a2, .ref h8]) ++ List.replicate (5 - (lg_sl ([.ref h0, .int a1, .int a2, .ref h8])).length) Slot.unset).toArray = ls at hl ⊢
  have hl : lv_has ls 5 [(0, .ref h0), (1, .int a1), (2, .int a2), (3, .ref h8)] := hl
  unfold f_L_power at hf
  refine lv_aload_n hx hb dL_power_0 rfl (lv_at hl 3 rfl) ?_
  refine lv_iconst (v := 0) hx hb dL_power_1 (by decide) ?_
  refine lv_aload_n hx hb dL_power_2 rfl (lv_at hl 0 rfl) ?_
  refine lv_iload_n hx hb dL_power_3 rfl (lv_at hl 1 rfl) ?_
  refine lv_iload_n hx hb dL_power_4 rfl (lv_at hl 2 rfl) ?_
  obtain ⟨z1, ez1, hx9, hf⟩ := xh_e hf
  refine my_callXMl (As := [.int a1, .int a2]) (n := 2) (rest := [.int 0, .ref h8]) (wr := [(h8, .inl (cJ, 1, .inr (.inl u.2)))]) ⟨hx, hb, hml, hown, hts⟩ hK hP hD hS hA hXK [0, 1, 2, 3, 4, 5, 6, 7] [8] rfl rfl (by decide) (by decide) (by decide) (m_X5_power l hl0 D cC cI cJ h0 h1 h2 h3 h4 h5 h6 h7 u.1 s.heap.size a1 a2 _ ez1) gL_power_X5_power rfl ⟨rfl, rfl⟩ (ci := 4) rfl rfl (by decide +kernel) ⟨Nat.le_of_ble_eq_true rfl, Nat.le_of_ble_eq_true rfl⟩ ⟨Nat.le_of_ble_eq_true rfl, Nat.le_of_ble_eq_true rfl⟩ hl.1 rfl rfl (Nat.le_of_ble_eq_true rfl) dL_power_5 (fun E ce q9 H locs hE hk1 hS hce hcv hcl => ?_) (fun r9 u9 H locs hw hP hD hS => ?_)
  · have hf := hx9 E hE
    have hP := my_keep hP hk1
    by_cases c2 : E = "java/lang/IndexOutOfBoundsException"
    · rw [if_pos c2] at hf
      subst c2
      refine my_catch (hp := []) (z := (0, 9, 12, 13)) (hq0 := [(0, 9, 16, 98)]) (name := "java/lang/IndexOutOfBoundsException") hown htab (fun w hw => absurd hw List.not_mem_nil) (by decide) (by decide) q1 (hXK.2.2.1 _ (by decide +kernel)) hce hcv hcl ?_
      refine lv_astore (lv' := [(4, .ref q9), (0, .ref h0), (1, .int a1), (2, .int a2), (3, .ref h8)]) hx hb dL_power_12 hl (by decide) rfl (fun ls hl => ?_)
      refine lv_iconst (v := 1) hx hb dL_power_14 (by decide) ?_
      have hP9 : va_P D vwCl (wH cC cI cJ h0 h1 h2 h3 h4 h5 h6 h7 h8 u) _ := hP
      have hD9 : va_D A (wH cC cI cJ h0 h1 h2 h3 h4 h5 h6 h7 h8 u) := hD
      have hf := Option.some.inj hf
      have hf1 := congrArg Prod.fst hf
      have hf2 := congrArg Prod.snd hf
      exact W.iret (v := 1) hx hb hr (fun t ht hW => ⟨⟨1, u, rfl, ⟨hf1, hf2⟩, by rw [ht]; exact hP9, va_K.moved hW.alike hK, hD9⟩, hS.F ht⟩) hS.2.2 dL_power_15
    · rw [if_neg c2] at hf
      by_cases c3 : E = "java/lang/ArithmeticException"
      · rw [if_pos c3] at hf
        subst c3
        refine my_catch (hp := [(0, 9, 12, 13)]) (z := (0, 9, 16, 98)) (hq0 := []) (name := "java/lang/ArithmeticException") hown htab (fun w hw => by
          simp only [List.mem_cons, List.not_mem_nil, or_false] at hw
          rcases hw with rfl
          · exact ⟨by decide, "java/lang/IndexOutOfBoundsException", q1, hXK.2.2.2.2 ("java/lang/ArithmeticException", "java/lang/IndexOutOfBoundsException") (by decide +kernel)⟩) (by decide) (by decide) q2 (hXK.2.2.1 _ (by decide +kernel)) hce hcv hcl ?_
        refine lv_astore (lv' := [(4, .ref q9), (0, .ref h0), (1, .int a1), (2, .int a2), (3, .ref h8)]) hx hb dL_power_16 hl (by decide) rfl (fun ls hl => ?_)
        refine lv_iconst (v := 2) hx hb dL_power_18 (by decide) ?_
        have hP9 : va_P D vwCl (wH cC cI cJ h0 h1 h2 h3 h4 h5 h6 h7 h8 u) _ := hP
        have hD9 : va_D A (wH cC cI cJ h0 h1 h2 h3 h4 h5 h6 h7 h8 u) := hD
        have hf := Option.some.inj hf
        have hf1 := congrArg Prod.fst hf
        have hf2 := congrArg Prod.snd hf
        exact W.iret (v := 2) hx hb hr (fun t ht hW => ⟨⟨2, u, rfl, ⟨hf1, hf2⟩, by rw [ht]; exact hP9, va_K.moved hW.alike hK, hD9⟩, hS.F ht⟩) hS.2.2 dL_power_19
      · rw [if_neg c3] at hf
        cases hf
  · obtain ⟨z1, rfl, rfl, hz⟩ := hw
    have hf := hf _ hz
    have hP : va_P D vwCl [(h0, .inr (4, [.ref h1, .ref h2, .ref h5])), (h1, .inl (cJ, 8, .inr (.inl z1.2.1))), (h2, .inr (3, [.ref h3, .ref h4, .int z1.2.2.1.2.2])), (h3, .inl (cC, 40, .inl z1.2.2.1.1)), (h4, .inl (cI, 40, .inl z1.2.2.1.2.1)), (h5, .inr (2, [.ref h6, .ref h7, .int z1.2.2.2.2.2.1, .int z1.2.2.2.2.2.2])), (h6, .inl (cI, 8, .inl z1.2.2.2.1)), (h7, .inl (cJ, 8, .inr (.inl z1.2.2.2.2.1))), (h8, .inl (cJ, 1, .inr (.inl u.2)))] H := hP.sub [1, 2, 3, 4, 5, 6, 7, 8, 0] rfl
    have hD : va_D A [(h0, .inr (4, [.ref h1, .ref h2, .ref h5])), (h1, .inl (cJ, 8, .inr (.inl z1.2.1))), (h2, .inr (3, [.ref h3, .ref h4, .int z1.2.2.1.2.2])), (h3, .inl (cC, 40, .inl z1.2.2.1.1)), (h4, .inl (cI, 40, .inl z1.2.2.1.2.1)), (h5, .inr (2, [.ref h6, .ref h7, .int z1.2.2.2.2.2.1, .int z1.2.2.2.2.2.2])), (h6, .inl (cI, 8, .inl z1.2.2.2.1)), (h7, .inl (cJ, 8, .inr (.inl z1.2.2.2.2.1))), (h8, .inl (cJ, 1, .inr (.inl u.2)))] := hD.sub [1, 2, 3, 4, 5, 6, 7, 8, 0] (by decide) rfl
    refine va_last hx hb hK hP hD hS 8 2 rfl rfl (show ¬ ((0 : Int32) < 0 ∨ 1 ≤ (0 : Int32).toNatClampNeg) by decide) dL_power_8 (fun H locs hP hD hS => ?_)
    have hP : va_P D vwCl [(h0, .inr (4, [.ref h1, .ref h2, .ref h5])), (h1, .inl (cJ, 8, .inr (.inl z1.2.1))), (h2, .inr (3, [.ref h3, .ref h4, .int z1.2.2.1.2.2])), (h3, .inl (cC, 40, .inl z1.2.2.1.1)), (h4, .inl (cI, 40, .inl z1.2.2.1.2.1)), (h5, .inr (2, [.ref h6, .ref h7, .int z1.2.2.2.2.2.1, .int z1.2.2.2.2.2.2])), (h6, .inl (cI, 8, .inl z1.2.2.2.1)), (h7, .inl (cJ, 8, .inr (.inl z1.2.2.2.2.1))), (h8, .inl (cJ, 1, .inr (.inl (vp_updL u.2 (0 : Int32).toNatClampNeg z1.1))))] H := hP
    have hD : va_D A [(h0, .inr (4, [.ref h1, .ref h2, .ref h5])), (h1, .inl (cJ, 8, .inr (.inl z1.2.1))), (h2, .inr (3, [.ref h3, .ref h4, .int z1.2.2.1.2.2])), (h3, .inl (cC, 40, .inl z1.2.2.1.1)), (h4, .inl (cI, 40, .inl z1.2.2.1.2.1)), (h5, .inr (2, [.ref h6, .ref h7, .int z1.2.2.2.2.2.1, .int z1.2.2.2.2.2.2])), (h6, .inl (cI, 8, .inl z1.2.2.2.1)), (h7, .inl (cJ, 8, .inr (.inl z1.2.2.2.2.1))), (h8, .inl (cJ, 1, .inr (.inl (vp_updL u.2 (0 : Int32).toNatClampNeg z1.1))))] := hD
    refine lv_goto (tgt := 20) hx hb dL_power_9 (by decide) ?_
    refine lv_iconst (v := 0) hx hb dL_power_20 (by decide) ?_
    have hP9 : va_P D vwCl (wH cC cI cJ h0 h1 h2 h3 h4 h5 h6 h7 h8 (z1.2, (vp_updL u.2 (0 : Int32).toNatClampNeg z1.1))) _ := hP
    have hD9 : va_D A (wH cC cI cJ h0 h1 h2 h3 h4 h5 h6 h7 h8 (z1.2, (vp_updL u.2 (0 : Int32).toNatClampNeg z1.1))) := hD
    have hf := Option.some.inj hf
    have hf1 := congrArg Prod.fst hf
    have hf2 := congrArg Prod.snd hf
    exact W.iret (v := 0) hx hb hr (fun t ht hW => ⟨⟨0, (z1.2, (vp_updL u.2 (0 : Int32).toNatClampNeg z1.1)), rfl, ⟨hf1, hf2⟩, by rw [ht]; exact hP9, va_K.moved hW.alike hK, hD9⟩, hS.F ht⟩) hS.2.2 dL_power_21

set_option maxHeartbeats 4000000 in
set_option maxRecDepth 100000 in
theorem m_L_grains (l : Launch) (hl0 : l.stackTraces = false) (D : va_G) (cC cI cJ : ClassId) (h0 h1 h2 h3 h4 h5 h6 h7 h8 : Nat) (u : SH) (sz : Nat) (a1 : Int32) (a2 : Int32) (res : Int32 × SH) (hf : f_L_grains u a1 a2 = some res) : Met l yL_grains wsL_grains rmL_grains (my_PcTM D vwCl (KT cC cI cJ) sz (wH cC cI cJ h0 h1 h2 h3 h4 h5 h6 h7 h8 u) [.ref h0, .int a1, .int a2, .ref h8]) (va_Qi (fun r v => r = res.1 ∧ v = res.2) (my_B D vwCl (KT cC cI cJ) (va_A (wH cC cI cJ h0 h1 h2 h3 h4 h5 h6 h7 h8 u) sz) (fun v : SH => (wH cC cI cJ h0 h1 h2 h3 h4 h5 h6 h7 h8 v))) (va_A (wH cC cI cJ h0 h1 h2 h3 h4 h5 h6 h7 h8 u) sz)) 3 18 (va_A (wH cC cI cJ h0 h1 h2 h3 h4 h5 h6 h7 h8 u) sz) := by
  refine va_MetW (cc := cL_grains) (maxL := 5) (ret := (some .int)) (by decide) rfl ?_
  intro p e s m args below meth c s₁ B hml hv
  obtain ⟨rfl, hsz, hP, hK, hD0, hXK⟩ := hv
  have hx := B.exec
  have hb := B.bytes
  have hr := B.returns
  have hts : ∀ w ∈ wsL_grains, w.before ([.ref h0, .int a1, .int a2, .ref h8] : List Value).toArray s = true := atoms_spec (ws := wsL_grains) B.pre
  have hown : s.vm.findClass RL = some m.cls := findClass_of_methodNamed B.named
  have hlk : meth.locks = false := B.notSynchronized
  subst hsz
  have hD := hD0.self (sz := s.heap.size)
  generalize hAe : va_A (wH cC cI cJ h0 h1 h2 h3 h4 h5 h6 h7 h8 u) s.heap.size = A at hD ⊢
  have hA : ∀ q : Nat, s.heap.size ≤ q → A q := fun q h => by rw [← hAe]; exact Or.inr h
  have hS : va_S A s.heap s.heap [] := va_S.rf
  have hP : va_P D vwCl [(h0, .inr (4, [.ref h1, .ref h2, .ref h5])), (h1, .inl (cJ, 8, .inr (.inl u.1.1))), (h2, .inr (3, [.ref h3, .ref h4, .int u.1.2.1.2.2])), (h3, .inl (cC, 40, .inl u.1.2.1.1)), (h4, .inl (cI, 40, .inl u.1.2.1.2.1)), (h5, .inr (2, [.ref h6, .ref h7, .int u.1.2.2.2.2.1, .int u.1.2.2.2.2.2])), (h6, .inl (cI, 8, .inl u.1.2.2.1)), (h7, .inl (cJ, 8, .inr (.inl u.1.2.2.2.1))), (h8, .inl (cJ, 1, .inr (.inl u.2)))] s.heap := hP
  have hD : va_D A [(h0, .inr (4, [.ref h1, .ref h2, .ref h5])), (h1, .inl (cJ, 8, .inr (.inl u.1.1))), (h2, .inr (3, [.ref h3, .ref h4, .int u.1.2.1.2.2])), (h3, .inl (cC, 40, .inl u.1.2.1.1)), (h4, .inl (cI, 40, .inl u.1.2.1.2.1)), (h5, .inr (2, [.ref h6, .ref h7, .int u.1.2.2.2.2.1, .int u.1.2.2.2.2.2])), (h6, .inl (cI, 8, .inl u.1.2.2.1)), (h7, .inl (cJ, 8, .inr (.inl u.1.2.2.2.1))), (h8, .inl (cJ, 1, .inr (.inl u.2)))] := hD
  have q1 := hts (.classLink RL 13 "java/lang/IndexOutOfBoundsException") (by decide +kernel)
  have q2 := hts (.classLink RL 15 "java/lang/IllegalArgumentException") (by decide +kernel)
  have q3 := hts (.classLink RL 109 "java/lang/IllegalStateException") (by decide +kernel)
  have htab : c.exceptionTable.toList = tableOf [(0, 10, 13, 13), (0, 10, 17, 15), (0, 10, 21, 109)] := vx_table (x := yL_grains) B (hts _ List.mem_cons_self)
  have hl := lv_entry ([.ref h0, .int a1, .int a2, .ref h8]) (n := 5) (Nat.le_of_ble_eq_true rfl)
  rw [lg_entry_eq]
  generalize (lg_sl ([.ref h0, .int a1, .int a2, .ref h8]) ++ List.replicate (5 - (lg_sl ([.ref h0, .int a1, .int a2, .ref h8])).length) Slot.unset).toArray = ls at hl ⊢
  have hl : lv_has ls 5 [(0, .ref h0), (1, .int a1), (2, .int a2), (3, .ref h8)] := hl
  unfold f_L_grains at hf
  refine lv_aload_n hx hb dL_grains_0 rfl (lv_at hl 3 rfl) ?_
  refine lv_iconst (v := 0) hx hb dL_grains_1 (by decide) ?_
  refine lv_aload_n hx hb dL_grains_2 rfl (lv_at hl 0 rfl) ?_
  refine lv_iload_n hx hb dL_grains_3 rfl (lv_at hl 1 rfl) ?_
  refine lv_iload_n hx hb dL_grains_4 rfl (lv_at hl 2 rfl) ?_
  obtain ⟨z1, ez1, hx9, hf⟩ := xh_e hf
  refine my_callXRi (As := [.int a1, .int a2]) (n := 2) (rest := [.int 0, .ref h8]) (wc := (wX cC cI cJ h0 h1 h2 h3 h4 h5 h6 h7 u.1)) ⟨hx, hb, hml, hown, hts⟩ hK hP hS hA hXK [0, 1, 2, 3, 4, 5, 6, 7] rfl (m_X5_grains l hl0 D cC cI cJ h0 h1 h2 h3 h4 h5 h6 h7 u.1 s.heap.size a1 a2 _ ez1) gL_grains_X5_grains rfl ⟨rfl, rfl⟩ (ci := 4) rfl rfl (by decide +kernel) ⟨Nat.le_of_ble_eq_true rfl, Nat.le_of_ble_eq_true rfl⟩ ⟨Nat.le_of_ble_eq_true rfl, Nat.le_of_ble_eq_true rfl⟩ hl.1 rfl rfl (Nat.le_of_ble_eq_true rfl) dL_grains_5 (fun E ce q9 H locs hE hk1 hS hce hcv hcl => ?_) (fun r9 H locs hw hk1 hS => ?_)
  · have hf := hx9 E hE
    have hP := my_keep hP hk1
    by_cases c2 : E = "java/lang/IndexOutOfBoundsException"
    · rw [if_pos c2] at hf
      subst c2
      refine my_catch (hp := []) (z := (0, 10, 13, 13)) (hq0 := [(0, 10, 17, 15), (0, 10, 21, 109)]) (name := "java/lang/IndexOutOfBoundsException") hown htab (fun w hw => absurd hw List.not_mem_nil) (by decide) (by decide) q1 (hXK.2.2.1 _ (by decide +kernel)) hce hcv hcl ?_
      refine lv_astore (lv' := [(4, .ref q9), (0, .ref h0), (1, .int a1), (2, .int a2), (3, .ref h8)]) hx hb dL_grains_13 hl (by decide) rfl (fun ls hl => ?_)
      refine lv_iconst (v := 1) hx hb dL_grains_15 (by decide) ?_
      have hP9 : va_P D vwCl (wH cC cI cJ h0 h1 h2 h3 h4 h5 h6 h7 h8 u) _ := hP
      have hD9 : va_D A (wH cC cI cJ h0 h1 h2 h3 h4 h5 h6 h7 h8 u) := hD
      have hf := Option.some.inj hf
      have hf1 := congrArg Prod.fst hf
      have hf2 := congrArg Prod.snd hf
      exact W.iret (v := 1) hx hb hr (fun t ht hW => ⟨⟨1, u, rfl, ⟨hf1, hf2⟩, by rw [ht]; exact hP9, va_K.moved hW.alike hK, hD9⟩, hS.F ht⟩) hS.2.2 dL_grains_16
    · rw [if_neg c2] at hf
      by_cases c3 : E = "java/lang/IllegalArgumentException"
      · rw [if_pos c3] at hf
        subst c3
        refine my_catch (hp := [(0, 10, 13, 13)]) (z := (0, 10, 17, 15)) (hq0 := [(0, 10, 21, 109)]) (name := "java/lang/IllegalArgumentException") hown htab (fun w hw => by
          simp only [List.mem_cons, List.not_mem_nil, or_false] at hw
          rcases hw with rfl
          · exact ⟨by decide, "java/lang/IndexOutOfBoundsException", q1, hXK.2.2.2.2 ("java/lang/IllegalArgumentException", "java/lang/IndexOutOfBoundsException") (by decide +kernel)⟩) (by decide) (by decide) q2 (hXK.2.2.1 _ (by decide +kernel)) hce hcv hcl ?_
        refine lv_astore (lv' := [(4, .ref q9), (0, .ref h0), (1, .int a1), (2, .int a2), (3, .ref h8)]) hx hb dL_grains_17 hl (by decide) rfl (fun ls hl => ?_)
        refine lv_iconst (v := 2) hx hb dL_grains_19 (by decide) ?_
        have hP9 : va_P D vwCl (wH cC cI cJ h0 h1 h2 h3 h4 h5 h6 h7 h8 u) _ := hP
        have hD9 : va_D A (wH cC cI cJ h0 h1 h2 h3 h4 h5 h6 h7 h8 u) := hD
        have hf := Option.some.inj hf
        have hf1 := congrArg Prod.fst hf
        have hf2 := congrArg Prod.snd hf
        exact W.iret (v := 2) hx hb hr (fun t ht hW => ⟨⟨2, u, rfl, ⟨hf1, hf2⟩, by rw [ht]; exact hP9, va_K.moved hW.alike hK, hD9⟩, hS.F ht⟩) hS.2.2 dL_grains_20
      · rw [if_neg c3] at hf
        by_cases c4 : E = "java/lang/IllegalStateException"
        · rw [if_pos c4] at hf
          subst c4
          refine my_catch (hp := [(0, 10, 13, 13), (0, 10, 17, 15)]) (z := (0, 10, 21, 109)) (hq0 := []) (name := "java/lang/IllegalStateException") hown htab (fun w hw => by
            simp only [List.mem_cons, List.not_mem_nil, or_false] at hw
            rcases hw with rfl | rfl
            · exact ⟨by decide, "java/lang/IndexOutOfBoundsException", q1, hXK.2.2.2.2 ("java/lang/IllegalStateException", "java/lang/IndexOutOfBoundsException") (by decide +kernel)⟩
            · exact ⟨by decide, "java/lang/IllegalArgumentException", q2, hXK.2.2.2.2 ("java/lang/IllegalStateException", "java/lang/IllegalArgumentException") (by decide +kernel)⟩) (by decide) (by decide) q3 (hXK.2.2.1 _ (by decide +kernel)) hce hcv hcl ?_
          refine lv_astore (lv' := [(4, .ref q9), (0, .ref h0), (1, .int a1), (2, .int a2), (3, .ref h8)]) hx hb dL_grains_21 hl (by decide) rfl (fun ls hl => ?_)
          refine lv_iconst (v := 3) hx hb dL_grains_23 (by decide) ?_
          have hP9 : va_P D vwCl (wH cC cI cJ h0 h1 h2 h3 h4 h5 h6 h7 h8 u) _ := hP
          have hD9 : va_D A (wH cC cI cJ h0 h1 h2 h3 h4 h5 h6 h7 h8 u) := hD
          have hf := Option.some.inj hf
          have hf1 := congrArg Prod.fst hf
          have hf2 := congrArg Prod.snd hf
          exact W.iret (v := 3) hx hb hr (fun t ht hW => ⟨⟨3, u, rfl, ⟨hf1, hf2⟩, by rw [ht]; exact hP9, va_K.moved hW.alike hK, hD9⟩, hS.F ht⟩) hS.2.2 dL_grains_24
        · rw [if_neg c4] at hf
          cases hf
  · obtain ⟨z1, hr9, hz⟩ := hw
    obtain rfl := hr9.symm
    have hf := hf _ hz
    have hP := my_keep hP hk1
    refine lv_i2l (v := (z1.toInt64)) hx hb dL_grains_8 rfl ?_
    refine va_last hx hb hK hP hD hS 8 2 rfl rfl (show ¬ ((0 : Int32) < 0 ∨ 1 ≤ (0 : Int32).toNatClampNeg) by decide) dL_grains_9 (fun H locs hP hD hS => ?_)
    have hP : va_P D vwCl [(h0, .inr (4, [.ref h1, .ref h2, .ref h5])), (h1, .inl (cJ, 8, .inr (.inl u.1.1))), (h2, .inr (3, [.ref h3, .ref h4, .int u.1.2.1.2.2])), (h3, .inl (cC, 40, .inl u.1.2.1.1)), (h4, .inl (cI, 40, .inl u.1.2.1.2.1)), (h5, .inr (2, [.ref h6, .ref h7, .int u.1.2.2.2.2.1, .int u.1.2.2.2.2.2])), (h6, .inl (cI, 8, .inl u.1.2.2.1)), (h7, .inl (cJ, 8, .inr (.inl u.1.2.2.2.1))), (h8, .inl (cJ, 1, .inr (.inl (vp_updL u.2 (0 : Int32).toNatClampNeg (z1.toInt64)))))] H := hP
    have hD : va_D A [(h0, .inr (4, [.ref h1, .ref h2, .ref h5])), (h1, .inl (cJ, 8, .inr (.inl u.1.1))), (h2, .inr (3, [.ref h3, .ref h4, .int u.1.2.1.2.2])), (h3, .inl (cC, 40, .inl u.1.2.1.1)), (h4, .inl (cI, 40, .inl u.1.2.1.2.1)), (h5, .inr (2, [.ref h6, .ref h7, .int u.1.2.2.2.2.1, .int u.1.2.2.2.2.2])), (h6, .inl (cI, 8, .inl u.1.2.2.1)), (h7, .inl (cJ, 8, .inr (.inl u.1.2.2.2.1))), (h8, .inl (cJ, 1, .inr (.inl (vp_updL u.2 (0 : Int32).toNatClampNeg (z1.toInt64)))))] := hD
    refine lv_goto (tgt := 25) hx hb dL_grains_10 (by decide) ?_
    refine lv_iconst (v := 0) hx hb dL_grains_25 (by decide) ?_
    have hP9 : va_P D vwCl (wH cC cI cJ h0 h1 h2 h3 h4 h5 h6 h7 h8 (u.1, (vp_updL u.2 (0 : Int32).toNatClampNeg (z1.toInt64)))) _ := hP
    have hD9 : va_D A (wH cC cI cJ h0 h1 h2 h3 h4 h5 h6 h7 h8 (u.1, (vp_updL u.2 (0 : Int32).toNatClampNeg (z1.toInt64)))) := hD
    have hf := Option.some.inj hf
    have hf1 := congrArg Prod.fst hf
    have hf2 := congrArg Prod.snd hf
    exact W.iret (v := 0) hx hb hr (fun t ht hW => ⟨⟨0, (u.1, (vp_updL u.2 (0 : Int32).toNatClampNeg (z1.toInt64))), rfl, ⟨hf1, hf2⟩, by rw [ht]; exact hP9, va_K.moved hW.alike hK, hD9⟩, hS.F ht⟩) hS.2.2 dL_grains_26

set_option maxHeartbeats 4000000 in
set_option maxRecDepth 100000 in
theorem m_L_gap (l : Launch) (hl0 : l.stackTraces = false) (D : va_G) (cC cI cJ : ClassId) (h0 h1 h2 h3 h4 h5 h6 h7 h8 : Nat) (u : SH) (sz : Nat) (a1 : Int32) (a2 : Int32) (a3 : Int32) (res : Int32 × SH) (hf : f_L_gap u a1 a2 a3 = some res) : Met l yL_gap wsL_gap rmL_gap (my_PcTM D vwCl (KT cC cI cJ) sz (wH cC cI cJ h0 h1 h2 h3 h4 h5 h6 h7 h8 u) [.ref h0, .int a1, .int a2, .int a3, .ref h8]) (va_Qi (fun r v => r = res.1 ∧ v = res.2) (my_B D vwCl (KT cC cI cJ) (va_A (wH cC cI cJ h0 h1 h2 h3 h4 h5 h6 h7 h8 u) sz) (fun v : SH => (wH cC cI cJ h0 h1 h2 h3 h4 h5 h6 h7 h8 v))) (va_A (wH cC cI cJ h0 h1 h2 h3 h4 h5 h6 h7 h8 u) sz)) 5 30 (va_A (wH cC cI cJ h0 h1 h2 h3 h4 h5 h6 h7 h8 u) sz) := by
  refine va_MetW (cc := cL_gap) (maxL := 6) (ret := (some .int)) (by decide) rfl ?_
  intro p e s m args below meth c s₁ B hml hv
  obtain ⟨rfl, hsz, hP, hK, hD0, hXK⟩ := hv
  have hx := B.exec
  have hb := B.bytes
  have hr := B.returns
  have hts : ∀ w ∈ wsL_gap, w.before ([.ref h0, .int a1, .int a2, .int a3, .ref h8] : List Value).toArray s = true := atoms_spec (ws := wsL_gap) B.pre
  have hown : s.vm.findClass RL = some m.cls := findClass_of_methodNamed B.named
  have hlk : meth.locks = false := B.notSynchronized
  subst hsz
  have hD := hD0.self (sz := s.heap.size)
  generalize hAe : va_A (wH cC cI cJ h0 h1 h2 h3 h4 h5 h6 h7 h8 u) s.heap.size = A at hD ⊢
  have hA : ∀ q : Nat, s.heap.size ≤ q → A q := fun q h => by rw [← hAe]; exact Or.inr h
  have hS : va_S A s.heap s.heap [] := va_S.rf
  have hP : va_P D vwCl [(h0, .inr (4, [.ref h1, .ref h2, .ref h5])), (h1, .inl (cJ, 8, .inr (.inl u.1.1))), (h2, .inr (3, [.ref h3, .ref h4, .int u.1.2.1.2.2])), (h3, .inl (cC, 40, .inl u.1.2.1.1)), (h4, .inl (cI, 40, .inl u.1.2.1.2.1)), (h5, .inr (2, [.ref h6, .ref h7, .int u.1.2.2.2.2.1, .int u.1.2.2.2.2.2])), (h6, .inl (cI, 8, .inl u.1.2.2.1)), (h7, .inl (cJ, 8, .inr (.inl u.1.2.2.2.1))), (h8, .inl (cJ, 1, .inr (.inl u.2)))] s.heap := hP
  have hD : va_D A [(h0, .inr (4, [.ref h1, .ref h2, .ref h5])), (h1, .inl (cJ, 8, .inr (.inl u.1.1))), (h2, .inr (3, [.ref h3, .ref h4, .int u.1.2.1.2.2])), (h3, .inl (cC, 40, .inl u.1.2.1.1)), (h4, .inl (cI, 40, .inl u.1.2.1.2.1)), (h5, .inr (2, [.ref h6, .ref h7, .int u.1.2.2.2.2.1, .int u.1.2.2.2.2.2])), (h6, .inl (cI, 8, .inl u.1.2.2.1)), (h7, .inl (cJ, 8, .inr (.inl u.1.2.2.2.1))), (h8, .inl (cJ, 1, .inr (.inl u.2)))] := hD
  have q1 := hts (.classLink RL 13 "java/lang/IndexOutOfBoundsException") (by decide +kernel)
  have q2 := hts (.classLink RL 15 "java/lang/IllegalArgumentException") (by decide +kernel)
  have q3 := hts (.classLink RL 109 "java/lang/IllegalStateException") (by decide +kernel)
  have htab : c.exceptionTable.toList = tableOf [(0, 12, 15, 13), (0, 12, 19, 15), (0, 12, 23, 109)] := vx_table (x := yL_gap) B (hts _ List.mem_cons_self)
  have hl := lv_entry ([.ref h0, .int a1, .int a2, .int a3, .ref h8]) (n := 6) (Nat.le_of_ble_eq_true rfl)
  rw [lg_entry_eq]
  generalize (lg_sl ([.ref h0, .int a1, .int a2, .int a3, .ref h8]) ++ List.replicate (6 - (lg_sl ([.ref h0, .int a1, .int a2, .int a3, .ref h8])).length) Slot.unset).toArray = ls at hl ⊢
  have hl : lv_has ls 6 [(0, .ref h0), (1, .int a1), (2, .int a2), (3, .int a3), (4, .ref h8)] := hl
  unfold f_L_gap at hf
  refine lv_aload hx hb dL_gap_0 (lv_at hl 4 rfl) ?_
  refine lv_iconst (v := 0) hx hb dL_gap_2 (by decide) ?_
  refine lv_aload_n hx hb dL_gap_3 rfl (lv_at hl 0 rfl) ?_
  refine lv_iload_n hx hb dL_gap_4 rfl (lv_at hl 1 rfl) ?_
  refine lv_iload_n hx hb dL_gap_5 rfl (lv_at hl 2 rfl) ?_
  refine lv_iload_n hx hb dL_gap_6 rfl (lv_at hl 3 rfl) ?_
  obtain ⟨z1, ez1, hx9, hf⟩ := xh_e hf
  refine my_callXRi (As := [.int a1, .int a2, .int a3]) (n := 3) (rest := [.int 0, .ref h8]) (wc := (wX cC cI cJ h0 h1 h2 h3 h4 h5 h6 h7 u.1)) ⟨hx, hb, hml, hown, hts⟩ hK hP hS hA hXK [0, 1, 2, 3, 4, 5, 6, 7] rfl (m_X5_gap l hl0 D cC cI cJ h0 h1 h2 h3 h4 h5 h6 h7 u.1 s.heap.size a1 a2 a3 _ ez1) gL_gap_X5_gap rfl ⟨rfl, rfl⟩ (ci := 4) rfl rfl (by decide +kernel) ⟨Nat.le_of_ble_eq_true rfl, Nat.le_of_ble_eq_true rfl⟩ ⟨Nat.le_of_ble_eq_true rfl, Nat.le_of_ble_eq_true rfl⟩ hl.1 rfl rfl (Nat.le_of_ble_eq_true rfl) dL_gap_7 (fun E ce q9 H locs hE hk1 hS hce hcv hcl => ?_) (fun r9 H locs hw hk1 hS => ?_)
  · have hf := hx9 E hE
    have hP := my_keep hP hk1
    by_cases c2 : E = "java/lang/IndexOutOfBoundsException"
    · rw [if_pos c2] at hf
      subst c2
      refine my_catch (hp := []) (z := (0, 12, 15, 13)) (hq0 := [(0, 12, 19, 15), (0, 12, 23, 109)]) (name := "java/lang/IndexOutOfBoundsException") hown htab (fun w hw => absurd hw List.not_mem_nil) (by decide) (by decide) q1 (hXK.2.2.1 _ (by decide +kernel)) hce hcv hcl ?_
      refine lv_astore (lv' := [(5, .ref q9), (0, .ref h0), (1, .int a1), (2, .int a2), (3, .int a3), (4, .ref h8)]) hx hb dL_gap_15 hl (by decide) rfl (fun ls hl => ?_)
      refine lv_iconst (v := 1) hx hb dL_gap_17 (by decide) ?_
      have hP9 : va_P D vwCl (wH cC cI cJ h0 h1 h2 h3 h4 h5 h6 h7 h8 u) _ := hP
      have hD9 : va_D A (wH cC cI cJ h0 h1 h2 h3 h4 h5 h6 h7 h8 u) := hD
      have hf := Option.some.inj hf
      have hf1 := congrArg Prod.fst hf
      have hf2 := congrArg Prod.snd hf
      exact W.iret (v := 1) hx hb hr (fun t ht hW => ⟨⟨1, u, rfl, ⟨hf1, hf2⟩, by rw [ht]; exact hP9, va_K.moved hW.alike hK, hD9⟩, hS.F ht⟩) hS.2.2 dL_gap_18
    · rw [if_neg c2] at hf
      by_cases c3 : E = "java/lang/IllegalArgumentException"
      · rw [if_pos c3] at hf
        subst c3
        refine my_catch (hp := [(0, 12, 15, 13)]) (z := (0, 12, 19, 15)) (hq0 := [(0, 12, 23, 109)]) (name := "java/lang/IllegalArgumentException") hown htab (fun w hw => by
          simp only [List.mem_cons, List.not_mem_nil, or_false] at hw
          rcases hw with rfl
          · exact ⟨by decide, "java/lang/IndexOutOfBoundsException", q1, hXK.2.2.2.2 ("java/lang/IllegalArgumentException", "java/lang/IndexOutOfBoundsException") (by decide +kernel)⟩) (by decide) (by decide) q2 (hXK.2.2.1 _ (by decide +kernel)) hce hcv hcl ?_
        refine lv_astore (lv' := [(5, .ref q9), (0, .ref h0), (1, .int a1), (2, .int a2), (3, .int a3), (4, .ref h8)]) hx hb dL_gap_19 hl (by decide) rfl (fun ls hl => ?_)
        refine lv_iconst (v := 2) hx hb dL_gap_21 (by decide) ?_
        have hP9 : va_P D vwCl (wH cC cI cJ h0 h1 h2 h3 h4 h5 h6 h7 h8 u) _ := hP
        have hD9 : va_D A (wH cC cI cJ h0 h1 h2 h3 h4 h5 h6 h7 h8 u) := hD
        have hf := Option.some.inj hf
        have hf1 := congrArg Prod.fst hf
        have hf2 := congrArg Prod.snd hf
        exact W.iret (v := 2) hx hb hr (fun t ht hW => ⟨⟨2, u, rfl, ⟨hf1, hf2⟩, by rw [ht]; exact hP9, va_K.moved hW.alike hK, hD9⟩, hS.F ht⟩) hS.2.2 dL_gap_22
      · rw [if_neg c3] at hf
        by_cases c4 : E = "java/lang/IllegalStateException"
        · rw [if_pos c4] at hf
          subst c4
          refine my_catch (hp := [(0, 12, 15, 13), (0, 12, 19, 15)]) (z := (0, 12, 23, 109)) (hq0 := []) (name := "java/lang/IllegalStateException") hown htab (fun w hw => by
            simp only [List.mem_cons, List.not_mem_nil, or_false] at hw
            rcases hw with rfl | rfl
            · exact ⟨by decide, "java/lang/IndexOutOfBoundsException", q1, hXK.2.2.2.2 ("java/lang/IllegalStateException", "java/lang/IndexOutOfBoundsException") (by decide +kernel)⟩
            · exact ⟨by decide, "java/lang/IllegalArgumentException", q2, hXK.2.2.2.2 ("java/lang/IllegalStateException", "java/lang/IllegalArgumentException") (by decide +kernel)⟩) (by decide) (by decide) q3 (hXK.2.2.1 _ (by decide +kernel)) hce hcv hcl ?_
          refine lv_astore (lv' := [(5, .ref q9), (0, .ref h0), (1, .int a1), (2, .int a2), (3, .int a3), (4, .ref h8)]) hx hb dL_gap_23 hl (by decide) rfl (fun ls hl => ?_)
          refine lv_iconst (v := 3) hx hb dL_gap_25 (by decide) ?_
          have hP9 : va_P D vwCl (wH cC cI cJ h0 h1 h2 h3 h4 h5 h6 h7 h8 u) _ := hP
          have hD9 : va_D A (wH cC cI cJ h0 h1 h2 h3 h4 h5 h6 h7 h8 u) := hD
          have hf := Option.some.inj hf
          have hf1 := congrArg Prod.fst hf
          have hf2 := congrArg Prod.snd hf
          exact W.iret (v := 3) hx hb hr (fun t ht hW => ⟨⟨3, u, rfl, ⟨hf1, hf2⟩, by rw [ht]; exact hP9, va_K.moved hW.alike hK, hD9⟩, hS.F ht⟩) hS.2.2 dL_gap_26
        · rw [if_neg c4] at hf
          cases hf
  · obtain ⟨z1, hr9, hz⟩ := hw
    obtain rfl := hr9.symm
    have hf := hf _ hz
    have hP := my_keep hP hk1
    refine lv_i2l (v := (z1.toInt64)) hx hb dL_gap_10 rfl ?_
    refine va_last hx hb hK hP hD hS 8 2 rfl rfl (show ¬ ((0 : Int32) < 0 ∨ 1 ≤ (0 : Int32).toNatClampNeg) by decide) dL_gap_11 (fun H locs hP hD hS => ?_)
    have hP : va_P D vwCl [(h0, .inr (4, [.ref h1, .ref h2, .ref h5])), (h1, .inl (cJ, 8, .inr (.inl u.1.1))), (h2, .inr (3, [.ref h3, .ref h4, .int u.1.2.1.2.2])), (h3, .inl (cC, 40, .inl u.1.2.1.1)), (h4, .inl (cI, 40, .inl u.1.2.1.2.1)), (h5, .inr (2, [.ref h6, .ref h7, .int u.1.2.2.2.2.1, .int u.1.2.2.2.2.2])), (h6, .inl (cI, 8, .inl u.1.2.2.1)), (h7, .inl (cJ, 8, .inr (.inl u.1.2.2.2.1))), (h8, .inl (cJ, 1, .inr (.inl (vp_updL u.2 (0 : Int32).toNatClampNeg (z1.toInt64)))))] H := hP
    have hD : va_D A [(h0, .inr (4, [.ref h1, .ref h2, .ref h5])), (h1, .inl (cJ, 8, .inr (.inl u.1.1))), (h2, .inr (3, [.ref h3, .ref h4, .int u.1.2.1.2.2])), (h3, .inl (cC, 40, .inl u.1.2.1.1)), (h4, .inl (cI, 40, .inl u.1.2.1.2.1)), (h5, .inr (2, [.ref h6, .ref h7, .int u.1.2.2.2.2.1, .int u.1.2.2.2.2.2])), (h6, .inl (cI, 8, .inl u.1.2.2.1)), (h7, .inl (cJ, 8, .inr (.inl u.1.2.2.2.1))), (h8, .inl (cJ, 1, .inr (.inl (vp_updL u.2 (0 : Int32).toNatClampNeg (z1.toInt64)))))] := hD
    refine lv_goto (tgt := 27) hx hb dL_gap_12 (by decide) ?_
    refine lv_iconst (v := 0) hx hb dL_gap_27 (by decide) ?_
    have hP9 : va_P D vwCl (wH cC cI cJ h0 h1 h2 h3 h4 h5 h6 h7 h8 (u.1, (vp_updL u.2 (0 : Int32).toNatClampNeg (z1.toInt64)))) _ := hP
    have hD9 : va_D A (wH cC cI cJ h0 h1 h2 h3 h4 h5 h6 h7 h8 (u.1, (vp_updL u.2 (0 : Int32).toNatClampNeg (z1.toInt64)))) := hD
    have hf := Option.some.inj hf
    have hf1 := congrArg Prod.fst hf
    have hf2 := congrArg Prod.snd hf
    exact W.iret (v := 0) hx hb hr (fun t ht hW => ⟨⟨0, (u.1, (vp_updL u.2 (0 : Int32).toNatClampNeg (z1.toInt64))), rfl, ⟨hf1, hf2⟩, by rw [ht]; exact hP9, va_K.moved hW.alike hK, hD9⟩, hS.F ht⟩) hS.2.2 dL_gap_28

set_option maxHeartbeats 4000000 in
set_option maxRecDepth 100000 in
theorem m_L_compareGaps (l : Launch) (hl0 : l.stackTraces = false) (D : va_G) (cC cI cJ : ClassId) (h0 h1 h2 h3 h4 h5 h6 h7 h8 : Nat) (u : SH) (sz : Nat) (a1 : Int32) (a2 : Int32) (a3 : Int32) (a4 : Int32) (res : Int32 × SH) (hf : f_L_compareGaps u a1 a2 a3 a4 = some res) : Met l yL_compareGaps wsL_compareGaps rmL_compareGaps (my_PcTM D vwCl (KT cC cI cJ) sz (wH cC cI cJ h0 h1 h2 h3 h4 h5 h6 h7 h8 u) [.ref h0, .int a1, .int a2, .int a3, .int a4, .ref h8]) (va_Qi (fun r v => r = res.1 ∧ v = res.2) (my_B D vwCl (KT cC cI cJ) (va_A (wH cC cI cJ h0 h1 h2 h3 h4 h5 h6 h7 h8 u) sz) (fun v : SH => (wH cC cI cJ h0 h1 h2 h3 h4 h5 h6 h7 h8 v))) (va_A (wH cC cI cJ h0 h1 h2 h3 h4 h5 h6 h7 h8 u) sz)) 8 48 (va_A (wH cC cI cJ h0 h1 h2 h3 h4 h5 h6 h7 h8 u) sz) := by
  refine va_MetW (cc := cL_compareGaps) (maxL := 7) (ret := (some .int)) (by decide) rfl ?_
  intro p e s m args below meth c s₁ B hml hv
  obtain ⟨rfl, hsz, hP, hK, hD0, hXK⟩ := hv
  have hx := B.exec
  have hb := B.bytes
  have hr := B.returns
  have hts : ∀ w ∈ wsL_compareGaps, w.before ([.ref h0, .int a1, .int a2, .int a3, .int a4, .ref h8] : List Value).toArray s = true := atoms_spec (ws := wsL_compareGaps) B.pre
  have hown : s.vm.findClass RL = some m.cls := findClass_of_methodNamed B.named
  have hlk : meth.locks = false := B.notSynchronized
  subst hsz
  have hD := hD0.self (sz := s.heap.size)
  generalize hAe : va_A (wH cC cI cJ h0 h1 h2 h3 h4 h5 h6 h7 h8 u) s.heap.size = A at hD ⊢
  have hA : ∀ q : Nat, s.heap.size ≤ q → A q := fun q h => by rw [← hAe]; exact Or.inr h
  have hS : va_S A s.heap s.heap [] := va_S.rf
  have hP : va_P D vwCl [(h0, .inr (4, [.ref h1, .ref h2, .ref h5])), (h1, .inl (cJ, 8, .inr (.inl u.1.1))), (h2, .inr (3, [.ref h3, .ref h4, .int u.1.2.1.2.2])), (h3, .inl (cC, 40, .inl u.1.2.1.1)), (h4, .inl (cI, 40, .inl u.1.2.1.2.1)), (h5, .inr (2, [.ref h6, .ref h7, .int u.1.2.2.2.2.1, .int u.1.2.2.2.2.2])), (h6, .inl (cI, 8, .inl u.1.2.2.1)), (h7, .inl (cJ, 8, .inr (.inl u.1.2.2.2.1))), (h8, .inl (cJ, 1, .inr (.inl u.2)))] s.heap := hP
  have hD : va_D A [(h0, .inr (4, [.ref h1, .ref h2, .ref h5])), (h1, .inl (cJ, 8, .inr (.inl u.1.1))), (h2, .inr (3, [.ref h3, .ref h4, .int u.1.2.1.2.2])), (h3, .inl (cC, 40, .inl u.1.2.1.1)), (h4, .inl (cI, 40, .inl u.1.2.1.2.1)), (h5, .inr (2, [.ref h6, .ref h7, .int u.1.2.2.2.2.1, .int u.1.2.2.2.2.2])), (h6, .inl (cI, 8, .inl u.1.2.2.1)), (h7, .inl (cJ, 8, .inr (.inl u.1.2.2.2.1))), (h8, .inl (cJ, 1, .inr (.inl u.2)))] := hD
  have q1 := hts (.classLink RL 13 "java/lang/IndexOutOfBoundsException") (by decide +kernel)
  have q2 := hts (.classLink RL 109 "java/lang/IllegalStateException") (by decide +kernel)
  have htab : c.exceptionTable.toList = tableOf [(0, 14, 17, 13), (0, 14, 21, 109)] := vx_table (x := yL_compareGaps) B (hts _ List.mem_cons_self)
  have hl := lv_entry ([.ref h0, .int a1, .int a2, .int a3, .int a4, .ref h8]) (n := 7) (Nat.le_of_ble_eq_true rfl)
  rw [lg_entry_eq]
  generalize (lg_sl ([.ref h0, .int a1, .int a2, .int a3, .int a4, .ref h8]) ++ List.replicate (7 - (lg_sl ([.ref h0, .int a1, .int a2, .int a3, .int a4, .ref h8])).length) Slot.unset).toArray = ls at hl ⊢
  have hl : lv_has ls 7 [(0, .ref h0), (1, .int a1), (2, .int a2), (3, .int a3), (4, .int a4), (5, .ref h8)] := hl
  unfold f_L_compareGaps at hf
  refine lv_aload hx hb dL_compareGaps_0 (lv_at hl 5 rfl) ?_
  refine lv_iconst (v := 0) hx hb dL_compareGaps_2 (by decide) ?_
  refine lv_aload_n hx hb dL_compareGaps_3 rfl (lv_at hl 0 rfl) ?_
  refine lv_iload_n hx hb dL_compareGaps_4 rfl (lv_at hl 1 rfl) ?_
  refine lv_iload_n hx hb dL_compareGaps_5 rfl (lv_at hl 2 rfl) ?_
  refine lv_iload_n hx hb dL_compareGaps_6 rfl (lv_at hl 3 rfl) ?_
  refine lv_iload hx hb dL_compareGaps_7 (lv_at hl 4 rfl) ?_
  obtain ⟨z1, ez1, hx9, hf⟩ := xh_e hf
  refine my_callXRi (As := [.int a1, .int a2, .int a3, .int a4]) (n := 4) (rest := [.int 0, .ref h8]) (wc := (wX cC cI cJ h0 h1 h2 h3 h4 h5 h6 h7 u.1)) ⟨hx, hb, hml, hown, hts⟩ hK hP hS hA hXK [0, 1, 2, 3, 4, 5, 6, 7] rfl (m_X5_compareGaps l hl0 D cC cI cJ h0 h1 h2 h3 h4 h5 h6 h7 u.1 s.heap.size a1 a2 a3 a4 _ ez1) gL_compareGaps_X5_compareGaps rfl ⟨rfl, rfl⟩ (ci := 4) rfl rfl (by decide +kernel) ⟨Nat.le_of_ble_eq_true rfl, Nat.le_of_ble_eq_true rfl⟩ ⟨Nat.le_of_ble_eq_true rfl, Nat.le_of_ble_eq_true rfl⟩ hl.1 rfl rfl (Nat.le_of_ble_eq_true rfl) dL_compareGaps_9 (fun E ce q9 H locs hE hk1 hS hce hcv hcl => ?_) (fun r9 H locs hw hk1 hS => ?_)
  · have hf := hx9 E hE
    have hP := my_keep hP hk1
    by_cases c2 : E = "java/lang/IndexOutOfBoundsException"
    · rw [if_pos c2] at hf
      subst c2
      refine my_catch (hp := []) (z := (0, 14, 17, 13)) (hq0 := [(0, 14, 21, 109)]) (name := "java/lang/IndexOutOfBoundsException") hown htab (fun w hw => absurd hw List.not_mem_nil) (by decide) (by decide) q1 (hXK.2.2.1 _ (by decide +kernel)) hce hcv hcl ?_
      refine lv_astore (lv' := [(6, .ref q9), (0, .ref h0), (1, .int a1), (2, .int a2), (3, .int a3), (4, .int a4), (5, .ref h8)]) hx hb dL_compareGaps_17 hl (by decide) rfl (fun ls hl => ?_)
      refine lv_iconst (v := 1) hx hb dL_compareGaps_19 (by decide) ?_
      have hP9 : va_P D vwCl (wH cC cI cJ h0 h1 h2 h3 h4 h5 h6 h7 h8 u) _ := hP
      have hD9 : va_D A (wH cC cI cJ h0 h1 h2 h3 h4 h5 h6 h7 h8 u) := hD
      have hf := Option.some.inj hf
      have hf1 := congrArg Prod.fst hf
      have hf2 := congrArg Prod.snd hf
      exact W.iret (v := 1) hx hb hr (fun t ht hW => ⟨⟨1, u, rfl, ⟨hf1, hf2⟩, by rw [ht]; exact hP9, va_K.moved hW.alike hK, hD9⟩, hS.F ht⟩) hS.2.2 dL_compareGaps_20
    · rw [if_neg c2] at hf
      by_cases c3 : E = "java/lang/IllegalStateException"
      · rw [if_pos c3] at hf
        subst c3
        refine my_catch (hp := [(0, 14, 17, 13)]) (z := (0, 14, 21, 109)) (hq0 := []) (name := "java/lang/IllegalStateException") hown htab (fun w hw => by
          simp only [List.mem_cons, List.not_mem_nil, or_false] at hw
          rcases hw with rfl
          · exact ⟨by decide, "java/lang/IndexOutOfBoundsException", q1, hXK.2.2.2.2 ("java/lang/IllegalStateException", "java/lang/IndexOutOfBoundsException") (by decide +kernel)⟩) (by decide) (by decide) q2 (hXK.2.2.1 _ (by decide +kernel)) hce hcv hcl ?_
        refine lv_astore (lv' := [(6, .ref q9), (0, .ref h0), (1, .int a1), (2, .int a2), (3, .int a3), (4, .int a4), (5, .ref h8)]) hx hb dL_compareGaps_21 hl (by decide) rfl (fun ls hl => ?_)
        refine lv_iconst (v := 2) hx hb dL_compareGaps_23 (by decide) ?_
        have hP9 : va_P D vwCl (wH cC cI cJ h0 h1 h2 h3 h4 h5 h6 h7 h8 u) _ := hP
        have hD9 : va_D A (wH cC cI cJ h0 h1 h2 h3 h4 h5 h6 h7 h8 u) := hD
        have hf := Option.some.inj hf
        have hf1 := congrArg Prod.fst hf
        have hf2 := congrArg Prod.snd hf
        exact W.iret (v := 2) hx hb hr (fun t ht hW => ⟨⟨2, u, rfl, ⟨hf1, hf2⟩, by rw [ht]; exact hP9, va_K.moved hW.alike hK, hD9⟩, hS.F ht⟩) hS.2.2 dL_compareGaps_24
      · rw [if_neg c3] at hf
        cases hf
  · obtain ⟨z1, hr9, hz⟩ := hw
    obtain rfl := hr9.symm
    have hf := hf _ hz
    have hP := my_keep hP hk1
    refine lv_i2l (v := (z1.toInt64)) hx hb dL_compareGaps_12 rfl ?_
    refine va_last hx hb hK hP hD hS 8 2 rfl rfl (show ¬ ((0 : Int32) < 0 ∨ 1 ≤ (0 : Int32).toNatClampNeg) by decide) dL_compareGaps_13 (fun H locs hP hD hS => ?_)
    have hP : va_P D vwCl [(h0, .inr (4, [.ref h1, .ref h2, .ref h5])), (h1, .inl (cJ, 8, .inr (.inl u.1.1))), (h2, .inr (3, [.ref h3, .ref h4, .int u.1.2.1.2.2])), (h3, .inl (cC, 40, .inl u.1.2.1.1)), (h4, .inl (cI, 40, .inl u.1.2.1.2.1)), (h5, .inr (2, [.ref h6, .ref h7, .int u.1.2.2.2.2.1, .int u.1.2.2.2.2.2])), (h6, .inl (cI, 8, .inl u.1.2.2.1)), (h7, .inl (cJ, 8, .inr (.inl u.1.2.2.2.1))), (h8, .inl (cJ, 1, .inr (.inl (vp_updL u.2 (0 : Int32).toNatClampNeg (z1.toInt64)))))] H := hP
    have hD : va_D A [(h0, .inr (4, [.ref h1, .ref h2, .ref h5])), (h1, .inl (cJ, 8, .inr (.inl u.1.1))), (h2, .inr (3, [.ref h3, .ref h4, .int u.1.2.1.2.2])), (h3, .inl (cC, 40, .inl u.1.2.1.1)), (h4, .inl (cI, 40, .inl u.1.2.1.2.1)), (h5, .inr (2, [.ref h6, .ref h7, .int u.1.2.2.2.2.1, .int u.1.2.2.2.2.2])), (h6, .inl (cI, 8, .inl u.1.2.2.1)), (h7, .inl (cJ, 8, .inr (.inl u.1.2.2.2.1))), (h8, .inl (cJ, 1, .inr (.inl (vp_updL u.2 (0 : Int32).toNatClampNeg (z1.toInt64)))))] := hD
    refine lv_goto (tgt := 25) hx hb dL_compareGaps_14 (by decide) ?_
    refine lv_iconst (v := 0) hx hb dL_compareGaps_25 (by decide) ?_
    have hP9 : va_P D vwCl (wH cC cI cJ h0 h1 h2 h3 h4 h5 h6 h7 h8 (u.1, (vp_updL u.2 (0 : Int32).toNatClampNeg (z1.toInt64)))) _ := hP
    have hD9 : va_D A (wH cC cI cJ h0 h1 h2 h3 h4 h5 h6 h7 h8 (u.1, (vp_updL u.2 (0 : Int32).toNatClampNeg (z1.toInt64)))) := hD
    have hf := Option.some.inj hf
    have hf1 := congrArg Prod.fst hf
    have hf2 := congrArg Prod.snd hf
    exact W.iret (v := 0) hx hb hr (fun t ht hW => ⟨⟨0, (u.1, (vp_updL u.2 (0 : Int32).toNatClampNeg (z1.toInt64))), rfl, ⟨hf1, hf2⟩, by rw [ht]; exact hP9, va_K.moved hW.alike hK, hD9⟩, hS.F ht⟩) hS.2.2 dL_compareGaps_26

set_option maxHeartbeats 4000000 in
set_option maxRecDepth 100000 in
theorem m_L_say (l : Launch) (hl0 : l.stackTraces = false) (D : va_G) (cC cI cJ : ClassId) (h0 h1 h2 h3 h4 h5 h6 h7 h8 : Nat) (u : SH) (sz : Nat) (a1 : Int32) (a2 : Int32) (res : Int32 × SH) (hf : f_L_say u a1 a2 = some res) : Met l yL_say wsL_say rmL_say (my_PcTM D vwCl (KT cC cI cJ) sz (wH cC cI cJ h0 h1 h2 h3 h4 h5 h6 h7 h8 u) [.ref h0, .int a1, .int a2, .ref h8]) (va_Qi (fun r v => r = res.1 ∧ v = res.2) (my_B D vwCl (KT cC cI cJ) (va_A (wH cC cI cJ h0 h1 h2 h3 h4 h5 h6 h7 h8 u) sz) (fun v : SH => (wH cC cI cJ h0 h1 h2 h3 h4 h5 h6 h7 h8 v))) (va_A (wH cC cI cJ h0 h1 h2 h3 h4 h5 h6 h7 h8 u) sz)) 1 6 (va_A (wH cC cI cJ h0 h1 h2 h3 h4 h5 h6 h7 h8 u) sz) := by
  refine va_MetW (cc := cL_say) (maxL := 5) (ret := (some .int)) (by decide) rfl ?_
  intro p e s m args below meth c s₁ B hml hv
  obtain ⟨rfl, hsz, hP, hK, hD0, hXK⟩ := hv
  have hx := B.exec
  have hb := B.bytes
  have hr := B.returns
  have hts : ∀ w ∈ wsL_say, w.before ([.ref h0, .int a1, .int a2, .ref h8] : List Value).toArray s = true := atoms_spec (ws := wsL_say) B.pre
  have hown : s.vm.findClass RL = some m.cls := findClass_of_methodNamed B.named
  have hlk : meth.locks = false := B.notSynchronized
  subst hsz
  have hD := hD0.self (sz := s.heap.size)
  generalize hAe : va_A (wH cC cI cJ h0 h1 h2 h3 h4 h5 h6 h7 h8 u) s.heap.size = A at hD ⊢
  have hA : ∀ q : Nat, s.heap.size ≤ q → A q := fun q h => by rw [← hAe]; exact Or.inr h
  have hS : va_S A s.heap s.heap [] := va_S.rf
  have hP : va_P D vwCl [(h0, .inr (4, [.ref h1, .ref h2, .ref h5])), (h1, .inl (cJ, 8, .inr (.inl u.1.1))), (h2, .inr (3, [.ref h3, .ref h4, .int u.1.2.1.2.2])), (h3, .inl (cC, 40, .inl u.1.2.1.1)), (h4, .inl (cI, 40, .inl u.1.2.1.2.1)), (h5, .inr (2, [.ref h6, .ref h7, .int u.1.2.2.2.2.1, .int u.1.2.2.2.2.2])), (h6, .inl (cI, 8, .inl u.1.2.2.1)), (h7, .inl (cJ, 8, .inr (.inl u.1.2.2.2.1))), (h8, .inl (cJ, 1, .inr (.inl u.2)))] s.heap := hP
  have hD : va_D A [(h0, .inr (4, [.ref h1, .ref h2, .ref h5])), (h1, .inl (cJ, 8, .inr (.inl u.1.1))), (h2, .inr (3, [.ref h3, .ref h4, .int u.1.2.1.2.2])), (h3, .inl (cC, 40, .inl u.1.2.1.1)), (h4, .inl (cI, 40, .inl u.1.2.1.2.1)), (h5, .inr (2, [.ref h6, .ref h7, .int u.1.2.2.2.2.1, .int u.1.2.2.2.2.2])), (h6, .inl (cI, 8, .inl u.1.2.2.1)), (h7, .inl (cJ, 8, .inr (.inl u.1.2.2.2.1))), (h8, .inl (cJ, 1, .inr (.inl u.2)))] := hD
  have q1 := hts (.classLink RL 15 "java/lang/IllegalArgumentException") (by decide +kernel)
  have q2 := hts (.classLink RL 109 "java/lang/IllegalStateException") (by decide +kernel)
  have htab : c.exceptionTable.toList = tableOf [(0, 10, 13, 15), (0, 10, 17, 109)] := vx_table (x := yL_say) B (hts _ List.mem_cons_self)
  have hl := lv_entry ([.ref h0, .int a1, .int a2, .ref h8]) (n := 5) (Nat.le_of_ble_eq_true rfl)
  rw [lg_entry_eq]
  generalize (lg_sl ([.ref h0, .int a1, .int a2, .ref h8]) ++ List.replicate (5 - (lg_sl ([.ref h0, .int a1, .int a2, .ref h8])).length) Slot.unset).toArray = ls at hl ⊢
  have hl : lv_has ls 5 [(0, .ref h0), (1, .int a1), (2, .int a2), (3, .ref h8)] := hl
  unfold f_L_say at hf
  refine lv_aload_n hx hb dL_say_0 rfl (lv_at hl 3 rfl) ?_
  refine lv_iconst (v := 0) hx hb dL_say_1 (by decide) ?_
  refine lv_aload_n hx hb dL_say_2 rfl (lv_at hl 0 rfl) ?_
  refine lv_iload_n hx hb dL_say_3 rfl (lv_at hl 1 rfl) ?_
  refine lv_iload_n hx hb dL_say_4 rfl (lv_at hl 2 rfl) ?_
  obtain ⟨z1, ez1, hx9, hf⟩ := xh_e hf
  refine my_callXMi (As := [.int a1, .int a2]) (n := 2) (rest := [.int 0, .ref h8]) (wr := [(h8, .inl (cJ, 1, .inr (.inl u.2)))]) ⟨hx, hb, hml, hown, hts⟩ hK hP hD hS hA hXK [0, 1, 2, 3, 4, 5, 6, 7] [8] rfl rfl (by decide) (by decide) (by decide) (m_X5_say l hl0 D cC cI cJ h0 h1 h2 h3 h4 h5 h6 h7 u.1 s.heap.size a1 a2 _ ez1) gL_say_X5_say rfl ⟨rfl, rfl⟩ (ci := 4) rfl rfl (by decide +kernel) ⟨Nat.le_of_ble_eq_true rfl, Nat.le_of_ble_eq_true rfl⟩ ⟨Nat.le_of_ble_eq_true rfl, Nat.le_of_ble_eq_true rfl⟩ hl.1 rfl rfl (Nat.le_of_ble_eq_true rfl) dL_say_5 (fun E ce q9 H locs hE hk1 hS hce hcv hcl => ?_) (fun r9 u9 H locs hw hP hD hS => ?_)
  · have hf := hx9 E hE
    have hP := my_keep hP hk1
    by_cases c2 : E = "java/lang/IllegalArgumentException"
    · rw [if_pos c2] at hf
      subst c2
      refine my_catch (hp := []) (z := (0, 10, 13, 15)) (hq0 := [(0, 10, 17, 109)]) (name := "java/lang/IllegalArgumentException") hown htab (fun w hw => absurd hw List.not_mem_nil) (by decide) (by decide) q1 (hXK.2.2.1 _ (by decide +kernel)) hce hcv hcl ?_
      refine lv_astore (lv' := [(4, .ref q9), (0, .ref h0), (1, .int a1), (2, .int a2), (3, .ref h8)]) hx hb dL_say_13 hl (by decide) rfl (fun ls hl => ?_)
      refine lv_iconst (v := 1) hx hb dL_say_15 (by decide) ?_
      have hP9 : va_P D vwCl (wH cC cI cJ h0 h1 h2 h3 h4 h5 h6 h7 h8 u) _ := hP
      have hD9 : va_D A (wH cC cI cJ h0 h1 h2 h3 h4 h5 h6 h7 h8 u) := hD
      have hf := Option.some.inj hf
      have hf1 := congrArg Prod.fst hf
      have hf2 := congrArg Prod.snd hf
      exact W.iret (v := 1) hx hb hr (fun t ht hW => ⟨⟨1, u, rfl, ⟨hf1, hf2⟩, by rw [ht]; exact hP9, va_K.moved hW.alike hK, hD9⟩, hS.F ht⟩) hS.2.2 dL_say_16
    · rw [if_neg c2] at hf
      by_cases c3 : E = "java/lang/IllegalStateException"
      · rw [if_pos c3] at hf
        subst c3
        refine my_catch (hp := [(0, 10, 13, 15)]) (z := (0, 10, 17, 109)) (hq0 := []) (name := "java/lang/IllegalStateException") hown htab (fun w hw => by
          simp only [List.mem_cons, List.not_mem_nil, or_false] at hw
          rcases hw with rfl
          · exact ⟨by decide, "java/lang/IllegalArgumentException", q1, hXK.2.2.2.2 ("java/lang/IllegalStateException", "java/lang/IllegalArgumentException") (by decide +kernel)⟩) (by decide) (by decide) q2 (hXK.2.2.1 _ (by decide +kernel)) hce hcv hcl ?_
        refine lv_astore (lv' := [(4, .ref q9), (0, .ref h0), (1, .int a1), (2, .int a2), (3, .ref h8)]) hx hb dL_say_17 hl (by decide) rfl (fun ls hl => ?_)
        refine lv_iconst (v := 2) hx hb dL_say_19 (by decide) ?_
        have hP9 : va_P D vwCl (wH cC cI cJ h0 h1 h2 h3 h4 h5 h6 h7 h8 u) _ := hP
        have hD9 : va_D A (wH cC cI cJ h0 h1 h2 h3 h4 h5 h6 h7 h8 u) := hD
        have hf := Option.some.inj hf
        have hf1 := congrArg Prod.fst hf
        have hf2 := congrArg Prod.snd hf
        exact W.iret (v := 2) hx hb hr (fun t ht hW => ⟨⟨2, u, rfl, ⟨hf1, hf2⟩, by rw [ht]; exact hP9, va_K.moved hW.alike hK, hD9⟩, hS.F ht⟩) hS.2.2 dL_say_20
      · rw [if_neg c3] at hf
        cases hf
  · obtain ⟨z1, rfl, rfl, hz⟩ := hw
    have hf := hf _ hz
    have hP : va_P D vwCl [(h0, .inr (4, [.ref h1, .ref h2, .ref h5])), (h1, .inl (cJ, 8, .inr (.inl z1.2.1))), (h2, .inr (3, [.ref h3, .ref h4, .int z1.2.2.1.2.2])), (h3, .inl (cC, 40, .inl z1.2.2.1.1)), (h4, .inl (cI, 40, .inl z1.2.2.1.2.1)), (h5, .inr (2, [.ref h6, .ref h7, .int z1.2.2.2.2.2.1, .int z1.2.2.2.2.2.2])), (h6, .inl (cI, 8, .inl z1.2.2.2.1)), (h7, .inl (cJ, 8, .inr (.inl z1.2.2.2.2.1))), (h8, .inl (cJ, 1, .inr (.inl u.2)))] H := hP.sub [1, 2, 3, 4, 5, 6, 7, 8, 0] rfl
    have hD : va_D A [(h0, .inr (4, [.ref h1, .ref h2, .ref h5])), (h1, .inl (cJ, 8, .inr (.inl z1.2.1))), (h2, .inr (3, [.ref h3, .ref h4, .int z1.2.2.1.2.2])), (h3, .inl (cC, 40, .inl z1.2.2.1.1)), (h4, .inl (cI, 40, .inl z1.2.2.1.2.1)), (h5, .inr (2, [.ref h6, .ref h7, .int z1.2.2.2.2.2.1, .int z1.2.2.2.2.2.2])), (h6, .inl (cI, 8, .inl z1.2.2.2.1)), (h7, .inl (cJ, 8, .inr (.inl z1.2.2.2.2.1))), (h8, .inl (cJ, 1, .inr (.inl u.2)))] := hD.sub [1, 2, 3, 4, 5, 6, 7, 8, 0] (by decide) rfl
    refine lv_i2l (v := (z1.1.toInt64)) hx hb dL_say_8 rfl ?_
    refine va_last hx hb hK hP hD hS 8 2 rfl rfl (show ¬ ((0 : Int32) < 0 ∨ 1 ≤ (0 : Int32).toNatClampNeg) by decide) dL_say_9 (fun H locs hP hD hS => ?_)
    have hP : va_P D vwCl [(h0, .inr (4, [.ref h1, .ref h2, .ref h5])), (h1, .inl (cJ, 8, .inr (.inl z1.2.1))), (h2, .inr (3, [.ref h3, .ref h4, .int z1.2.2.1.2.2])), (h3, .inl (cC, 40, .inl z1.2.2.1.1)), (h4, .inl (cI, 40, .inl z1.2.2.1.2.1)), (h5, .inr (2, [.ref h6, .ref h7, .int z1.2.2.2.2.2.1, .int z1.2.2.2.2.2.2])), (h6, .inl (cI, 8, .inl z1.2.2.2.1)), (h7, .inl (cJ, 8, .inr (.inl z1.2.2.2.2.1))), (h8, .inl (cJ, 1, .inr (.inl (vp_updL u.2 (0 : Int32).toNatClampNeg (z1.1.toInt64)))))] H := hP
    have hD : va_D A [(h0, .inr (4, [.ref h1, .ref h2, .ref h5])), (h1, .inl (cJ, 8, .inr (.inl z1.2.1))), (h2, .inr (3, [.ref h3, .ref h4, .int z1.2.2.1.2.2])), (h3, .inl (cC, 40, .inl z1.2.2.1.1)), (h4, .inl (cI, 40, .inl z1.2.2.1.2.1)), (h5, .inr (2, [.ref h6, .ref h7, .int z1.2.2.2.2.2.1, .int z1.2.2.2.2.2.2])), (h6, .inl (cI, 8, .inl z1.2.2.2.1)), (h7, .inl (cJ, 8, .inr (.inl z1.2.2.2.2.1))), (h8, .inl (cJ, 1, .inr (.inl (vp_updL u.2 (0 : Int32).toNatClampNeg (z1.1.toInt64)))))] := hD
    refine lv_goto (tgt := 21) hx hb dL_say_10 (by decide) ?_
    refine lv_iconst (v := 0) hx hb dL_say_21 (by decide) ?_
    have hP9 : va_P D vwCl (wH cC cI cJ h0 h1 h2 h3 h4 h5 h6 h7 h8 (z1.2, (vp_updL u.2 (0 : Int32).toNatClampNeg (z1.1.toInt64)))) _ := hP
    have hD9 : va_D A (wH cC cI cJ h0 h1 h2 h3 h4 h5 h6 h7 h8 (z1.2, (vp_updL u.2 (0 : Int32).toNatClampNeg (z1.1.toInt64)))) := hD
    have hf := Option.some.inj hf
    have hf1 := congrArg Prod.fst hf
    have hf2 := congrArg Prod.snd hf
    exact W.iret (v := 0) hx hb hr (fun t ht hW => ⟨⟨0, (z1.2, (vp_updL u.2 (0 : Int32).toNatClampNeg (z1.1.toInt64))), rfl, ⟨hf1, hf2⟩, by rw [ht]; exact hP9, va_K.moved hW.alike hK, hD9⟩, hS.F ht⟩) hS.2.2 dL_say_22

set_option maxHeartbeats 4000000 in
set_option maxRecDepth 100000 in
theorem m_L_play (l : Launch) (hl0 : l.stackTraces = false) (D : va_G) (cC cI cJ : ClassId) (h0 h1 h2 h3 h4 h5 h6 h7 h8 : Nat) (u : SH) (sz : Nat) (a1 : Int32) (a2 : Int32) (res : Int32 × SH) (hf : f_L_play u a1 a2 = some res) : Met l yL_play wsL_play rmL_play (my_PcTM D vwCl (KT cC cI cJ) sz (wH cC cI cJ h0 h1 h2 h3 h4 h5 h6 h7 h8 u) [.ref h0, .int a1, .int a2, .ref h8]) (va_Qi (fun r v => r = res.1 ∧ v = res.2) (my_B D vwCl (KT cC cI cJ) (va_A (wH cC cI cJ h0 h1 h2 h3 h4 h5 h6 h7 h8 u) sz) (fun v : SH => (wH cC cI cJ h0 h1 h2 h3 h4 h5 h6 h7 h8 v))) (va_A (wH cC cI cJ h0 h1 h2 h3 h4 h5 h6 h7 h8 u) sz)) 2 12 (va_A (wH cC cI cJ h0 h1 h2 h3 h4 h5 h6 h7 h8 u) sz) := by
  refine va_MetW (cc := cL_play) (maxL := 5) (ret := (some .int)) (by decide) rfl ?_
  intro p e s m args below meth c s₁ B hml hv
  obtain ⟨rfl, hsz, hP, hK, hD0, hXK⟩ := hv
  have hx := B.exec
  have hb := B.bytes
  have hr := B.returns
  have hts : ∀ w ∈ wsL_play, w.before ([.ref h0, .int a1, .int a2, .ref h8] : List Value).toArray s = true := atoms_spec (ws := wsL_play) B.pre
  have hown : s.vm.findClass RL = some m.cls := findClass_of_methodNamed B.named
  have hlk : meth.locks = false := B.notSynchronized
  subst hsz
  have hD := hD0.self (sz := s.heap.size)
  generalize hAe : va_A (wH cC cI cJ h0 h1 h2 h3 h4 h5 h6 h7 h8 u) s.heap.size = A at hD ⊢
  have hA : ∀ q : Nat, s.heap.size ≤ q → A q := fun q h => by rw [← hAe]; exact Or.inr h
  have hS : va_S A s.heap s.heap [] := va_S.rf
  have hP : va_P D vwCl [(h0, .inr (4, [.ref h1, .ref h2, .ref h5])), (h1, .inl (cJ, 8, .inr (.inl u.1.1))), (h2, .inr (3, [.ref h3, .ref h4, .int u.1.2.1.2.2])), (h3, .inl (cC, 40, .inl u.1.2.1.1)), (h4, .inl (cI, 40, .inl u.1.2.1.2.1)), (h5, .inr (2, [.ref h6, .ref h7, .int u.1.2.2.2.2.1, .int u.1.2.2.2.2.2])), (h6, .inl (cI, 8, .inl u.1.2.2.1)), (h7, .inl (cJ, 8, .inr (.inl u.1.2.2.2.1))), (h8, .inl (cJ, 1, .inr (.inl u.2)))] s.heap := hP
  have hD : va_D A [(h0, .inr (4, [.ref h1, .ref h2, .ref h5])), (h1, .inl (cJ, 8, .inr (.inl u.1.1))), (h2, .inr (3, [.ref h3, .ref h4, .int u.1.2.1.2.2])), (h3, .inl (cC, 40, .inl u.1.2.1.1)), (h4, .inl (cI, 40, .inl u.1.2.1.2.1)), (h5, .inr (2, [.ref h6, .ref h7, .int u.1.2.2.2.2.1, .int u.1.2.2.2.2.2])), (h6, .inl (cI, 8, .inl u.1.2.2.1)), (h7, .inl (cJ, 8, .inr (.inl u.1.2.2.2.1))), (h8, .inl (cJ, 1, .inr (.inl u.2)))] := hD
  have q1 := hts (.classLink RL 13 "java/lang/IndexOutOfBoundsException") (by decide +kernel)
  have htab : c.exceptionTable.toList = tableOf [(0, 9, 12, 13)] := vx_table (x := yL_play) B (hts _ List.mem_cons_self)
  have hl := lv_entry ([.ref h0, .int a1, .int a2, .ref h8]) (n := 5) (Nat.le_of_ble_eq_true rfl)
  rw [lg_entry_eq]
  generalize (lg_sl ([.ref h0, .int a1, .int a2, .ref h8]) ++ List.replicate (5 - (lg_sl ([.ref h0, .int a1, .int a2, .ref h8])).length) Slot.unset).toArray = ls at hl ⊢
  have hl : lv_has ls 5 [(0, .ref h0), (1, .int a1), (2, .int a2), (3, .ref h8)] := hl
  unfold f_L_play at hf
  refine lv_aload_n hx hb dL_play_0 rfl (lv_at hl 3 rfl) ?_
  refine lv_iconst (v := 0) hx hb dL_play_1 (by decide) ?_
  refine lv_aload_n hx hb dL_play_2 rfl (lv_at hl 0 rfl) ?_
  refine lv_iload_n hx hb dL_play_3 rfl (lv_at hl 1 rfl) ?_
  refine lv_iload_n hx hb dL_play_4 rfl (lv_at hl 2 rfl) ?_
  obtain ⟨z1, ez1, hx9, hf⟩ := xh_e hf
  refine my_callXMl (As := [.int a1, .int a2]) (n := 2) (rest := [.int 0, .ref h8]) (wr := [(h8, .inl (cJ, 1, .inr (.inl u.2)))]) ⟨hx, hb, hml, hown, hts⟩ hK hP hD hS hA hXK [0, 1, 2, 3, 4, 5, 6, 7] [8] rfl rfl (by decide) (by decide) (by decide) (m_X5_play l hl0 D cC cI cJ h0 h1 h2 h3 h4 h5 h6 h7 u.1 s.heap.size a1 a2 _ ez1) gL_play_X5_play rfl ⟨rfl, rfl⟩ (ci := 4) rfl rfl (by decide +kernel) ⟨Nat.le_of_ble_eq_true rfl, Nat.le_of_ble_eq_true rfl⟩ ⟨Nat.le_of_ble_eq_true rfl, Nat.le_of_ble_eq_true rfl⟩ hl.1 rfl rfl (Nat.le_of_ble_eq_true rfl) dL_play_5 (fun E ce q9 H locs hE hk1 hS hce hcv hcl => ?_) (fun r9 u9 H locs hw hP hD hS => ?_)
  · have hf := hx9 E hE
    have hP := my_keep hP hk1
    by_cases c2 : E = "java/lang/IndexOutOfBoundsException"
    · rw [if_pos c2] at hf
      subst c2
      refine my_catch (hp := []) (z := (0, 9, 12, 13)) (hq0 := []) (name := "java/lang/IndexOutOfBoundsException") hown htab (fun w hw => absurd hw List.not_mem_nil) (by decide) (by decide) q1 (hXK.2.2.1 _ (by decide +kernel)) hce hcv hcl ?_
      refine lv_astore (lv' := [(4, .ref q9), (0, .ref h0), (1, .int a1), (2, .int a2), (3, .ref h8)]) hx hb dL_play_12 hl (by decide) rfl (fun ls hl => ?_)
      refine lv_iconst (v := 1) hx hb dL_play_14 (by decide) ?_
      have hP9 : va_P D vwCl (wH cC cI cJ h0 h1 h2 h3 h4 h5 h6 h7 h8 u) _ := hP
      have hD9 : va_D A (wH cC cI cJ h0 h1 h2 h3 h4 h5 h6 h7 h8 u) := hD
      have hf := Option.some.inj hf
      have hf1 := congrArg Prod.fst hf
      have hf2 := congrArg Prod.snd hf
      exact W.iret (v := 1) hx hb hr (fun t ht hW => ⟨⟨1, u, rfl, ⟨hf1, hf2⟩, by rw [ht]; exact hP9, va_K.moved hW.alike hK, hD9⟩, hS.F ht⟩) hS.2.2 dL_play_15
    · rw [if_neg c2] at hf
      cases hf
  · obtain ⟨z1, rfl, rfl, hz⟩ := hw
    have hf := hf _ hz
    have hP : va_P D vwCl [(h0, .inr (4, [.ref h1, .ref h2, .ref h5])), (h1, .inl (cJ, 8, .inr (.inl z1.2.1))), (h2, .inr (3, [.ref h3, .ref h4, .int z1.2.2.1.2.2])), (h3, .inl (cC, 40, .inl z1.2.2.1.1)), (h4, .inl (cI, 40, .inl z1.2.2.1.2.1)), (h5, .inr (2, [.ref h6, .ref h7, .int z1.2.2.2.2.2.1, .int z1.2.2.2.2.2.2])), (h6, .inl (cI, 8, .inl z1.2.2.2.1)), (h7, .inl (cJ, 8, .inr (.inl z1.2.2.2.2.1))), (h8, .inl (cJ, 1, .inr (.inl u.2)))] H := hP.sub [1, 2, 3, 4, 5, 6, 7, 8, 0] rfl
    have hD : va_D A [(h0, .inr (4, [.ref h1, .ref h2, .ref h5])), (h1, .inl (cJ, 8, .inr (.inl z1.2.1))), (h2, .inr (3, [.ref h3, .ref h4, .int z1.2.2.1.2.2])), (h3, .inl (cC, 40, .inl z1.2.2.1.1)), (h4, .inl (cI, 40, .inl z1.2.2.1.2.1)), (h5, .inr (2, [.ref h6, .ref h7, .int z1.2.2.2.2.2.1, .int z1.2.2.2.2.2.2])), (h6, .inl (cI, 8, .inl z1.2.2.2.1)), (h7, .inl (cJ, 8, .inr (.inl z1.2.2.2.2.1))), (h8, .inl (cJ, 1, .inr (.inl u.2)))] := hD.sub [1, 2, 3, 4, 5, 6, 7, 8, 0] (by decide) rfl
    refine va_last hx hb hK hP hD hS 8 2 rfl rfl (show ¬ ((0 : Int32) < 0 ∨ 1 ≤ (0 : Int32).toNatClampNeg) by decide) dL_play_8 (fun H locs hP hD hS => ?_)
    have hP : va_P D vwCl [(h0, .inr (4, [.ref h1, .ref h2, .ref h5])), (h1, .inl (cJ, 8, .inr (.inl z1.2.1))), (h2, .inr (3, [.ref h3, .ref h4, .int z1.2.2.1.2.2])), (h3, .inl (cC, 40, .inl z1.2.2.1.1)), (h4, .inl (cI, 40, .inl z1.2.2.1.2.1)), (h5, .inr (2, [.ref h6, .ref h7, .int z1.2.2.2.2.2.1, .int z1.2.2.2.2.2.2])), (h6, .inl (cI, 8, .inl z1.2.2.2.1)), (h7, .inl (cJ, 8, .inr (.inl z1.2.2.2.2.1))), (h8, .inl (cJ, 1, .inr (.inl (vp_updL u.2 (0 : Int32).toNatClampNeg z1.1))))] H := hP
    have hD : va_D A [(h0, .inr (4, [.ref h1, .ref h2, .ref h5])), (h1, .inl (cJ, 8, .inr (.inl z1.2.1))), (h2, .inr (3, [.ref h3, .ref h4, .int z1.2.2.1.2.2])), (h3, .inl (cC, 40, .inl z1.2.2.1.1)), (h4, .inl (cI, 40, .inl z1.2.2.1.2.1)), (h5, .inr (2, [.ref h6, .ref h7, .int z1.2.2.2.2.2.1, .int z1.2.2.2.2.2.2])), (h6, .inl (cI, 8, .inl z1.2.2.2.1)), (h7, .inl (cJ, 8, .inr (.inl z1.2.2.2.2.1))), (h8, .inl (cJ, 1, .inr (.inl (vp_updL u.2 (0 : Int32).toNatClampNeg z1.1))))] := hD
    refine lv_goto (tgt := 16) hx hb dL_play_9 (by decide) ?_
    refine lv_iconst (v := 0) hx hb dL_play_16 (by decide) ?_
    have hP9 : va_P D vwCl (wH cC cI cJ h0 h1 h2 h3 h4 h5 h6 h7 h8 (z1.2, (vp_updL u.2 (0 : Int32).toNatClampNeg z1.1))) _ := hP
    have hD9 : va_D A (wH cC cI cJ h0 h1 h2 h3 h4 h5 h6 h7 h8 (z1.2, (vp_updL u.2 (0 : Int32).toNatClampNeg z1.1))) := hD
    have hf := Option.some.inj hf
    have hf1 := congrArg Prod.fst hf
    have hf2 := congrArg Prod.snd hf
    exact W.iret (v := 0) hx hb hr (fun t ht hW => ⟨⟨0, (z1.2, (vp_updL u.2 (0 : Int32).toNatClampNeg z1.1)), rfl, ⟨hf1, hf2⟩, by rw [ht]; exact hP9, va_K.moved hW.alike hK, hD9⟩, hS.F ht⟩) hS.2.2 dL_play_17

set_option maxHeartbeats 4000000 in
set_option maxRecDepth 100000 in
theorem m_L_playBack (l : Launch) (hl0 : l.stackTraces = false) (D : va_G) (cC cI cJ : ClassId) (h0 h1 h2 h3 h4 h5 h6 h7 h8 : Nat) (u : SH) (sz : Nat) (a1 : Int32) (a2 : Int32) (res : Int32 × SH) (hf : f_L_playBack u a1 a2 = some res) : Met l yL_playBack wsL_playBack rmL_playBack (my_PcTM D vwCl (KT cC cI cJ) sz (wH cC cI cJ h0 h1 h2 h3 h4 h5 h6 h7 h8 u) [.ref h0, .int a1, .int a2, .ref h8]) (va_Qi (fun r v => r = res.1 ∧ v = res.2) (my_B D vwCl (KT cC cI cJ) (va_A (wH cC cI cJ h0 h1 h2 h3 h4 h5 h6 h7 h8 u) sz) (fun v : SH => (wH cC cI cJ h0 h1 h2 h3 h4 h5 h6 h7 h8 v))) (va_A (wH cC cI cJ h0 h1 h2 h3 h4 h5 h6 h7 h8 u) sz)) 2 12 (va_A (wH cC cI cJ h0 h1 h2 h3 h4 h5 h6 h7 h8 u) sz) := by
  refine va_MetW (cc := cL_playBack) (maxL := 5) (ret := (some .int)) (by decide) rfl ?_
  intro p e s m args below meth c s₁ B hml hv
  obtain ⟨rfl, hsz, hP, hK, hD0, hXK⟩ := hv
  have hx := B.exec
  have hb := B.bytes
  have hr := B.returns
  have hts : ∀ w ∈ wsL_playBack, w.before ([.ref h0, .int a1, .int a2, .ref h8] : List Value).toArray s = true := atoms_spec (ws := wsL_playBack) B.pre
  have hown : s.vm.findClass RL = some m.cls := findClass_of_methodNamed B.named
  have hlk : meth.locks = false := B.notSynchronized
  subst hsz
  have hD := hD0.self (sz := s.heap.size)
  generalize hAe : va_A (wH cC cI cJ h0 h1 h2 h3 h4 h5 h6 h7 h8 u) s.heap.size = A at hD ⊢
  have hA : ∀ q : Nat, s.heap.size ≤ q → A q := fun q h => by rw [← hAe]; exact Or.inr h
  have hS : va_S A s.heap s.heap [] := va_S.rf
  have hP : va_P D vwCl [(h0, .inr (4, [.ref h1, .ref h2, .ref h5])), (h1, .inl (cJ, 8, .inr (.inl u.1.1))), (h2, .inr (3, [.ref h3, .ref h4, .int u.1.2.1.2.2])), (h3, .inl (cC, 40, .inl u.1.2.1.1)), (h4, .inl (cI, 40, .inl u.1.2.1.2.1)), (h5, .inr (2, [.ref h6, .ref h7, .int u.1.2.2.2.2.1, .int u.1.2.2.2.2.2])), (h6, .inl (cI, 8, .inl u.1.2.2.1)), (h7, .inl (cJ, 8, .inr (.inl u.1.2.2.2.1))), (h8, .inl (cJ, 1, .inr (.inl u.2)))] s.heap := hP
  have hD : va_D A [(h0, .inr (4, [.ref h1, .ref h2, .ref h5])), (h1, .inl (cJ, 8, .inr (.inl u.1.1))), (h2, .inr (3, [.ref h3, .ref h4, .int u.1.2.1.2.2])), (h3, .inl (cC, 40, .inl u.1.2.1.1)), (h4, .inl (cI, 40, .inl u.1.2.1.2.1)), (h5, .inr (2, [.ref h6, .ref h7, .int u.1.2.2.2.2.1, .int u.1.2.2.2.2.2])), (h6, .inl (cI, 8, .inl u.1.2.2.1)), (h7, .inl (cJ, 8, .inr (.inl u.1.2.2.2.1))), (h8, .inl (cJ, 1, .inr (.inl u.2)))] := hD
  have q1 := hts (.classLink RL 13 "java/lang/IndexOutOfBoundsException") (by decide +kernel)
  have htab : c.exceptionTable.toList = tableOf [(0, 9, 12, 13)] := vx_table (x := yL_playBack) B (hts _ List.mem_cons_self)
  have hl := lv_entry ([.ref h0, .int a1, .int a2, .ref h8]) (n := 5) (Nat.le_of_ble_eq_true rfl)
  rw [lg_entry_eq]
  generalize (lg_sl ([.ref h0, .int a1, .int a2, .ref h8]) ++ List.replicate (5 - (lg_sl ([.ref h0, .int a1, .int a2, .ref h8])).length) Slot.unset).toArray = ls at hl ⊢
  have hl : lv_has ls 5 [(0, .ref h0), (1, .int a1), (2, .int a2), (3, .ref h8)] := hl
  unfold f_L_playBack at hf
  refine lv_aload_n hx hb dL_playBack_0 rfl (lv_at hl 3 rfl) ?_
  refine lv_iconst (v := 0) hx hb dL_playBack_1 (by decide) ?_
  refine lv_aload_n hx hb dL_playBack_2 rfl (lv_at hl 0 rfl) ?_
  refine lv_iload_n hx hb dL_playBack_3 rfl (lv_at hl 1 rfl) ?_
  refine lv_iload_n hx hb dL_playBack_4 rfl (lv_at hl 2 rfl) ?_
  obtain ⟨z1, ez1, hx9, hf⟩ := xh_e hf
  refine my_callXMl (As := [.int a1, .int a2]) (n := 2) (rest := [.int 0, .ref h8]) (wr := [(h8, .inl (cJ, 1, .inr (.inl u.2)))]) ⟨hx, hb, hml, hown, hts⟩ hK hP hD hS hA hXK [0, 1, 2, 3, 4, 5, 6, 7] [8] rfl rfl (by decide) (by decide) (by decide) (m_X5_playBack l hl0 D cC cI cJ h0 h1 h2 h3 h4 h5 h6 h7 u.1 s.heap.size a1 a2 _ ez1) gL_playBack_X5_playBack rfl ⟨rfl, rfl⟩ (ci := 4) rfl rfl (by decide +kernel) ⟨Nat.le_of_ble_eq_true rfl, Nat.le_of_ble_eq_true rfl⟩ ⟨Nat.le_of_ble_eq_true rfl, Nat.le_of_ble_eq_true rfl⟩ hl.1 rfl rfl (Nat.le_of_ble_eq_true rfl) dL_playBack_5 (fun E ce q9 H locs hE hk1 hS hce hcv hcl => ?_) (fun r9 u9 H locs hw hP hD hS => ?_)
  · have hf := hx9 E hE
    have hP := my_keep hP hk1
    by_cases c2 : E = "java/lang/IndexOutOfBoundsException"
    · rw [if_pos c2] at hf
      subst c2
      refine my_catch (hp := []) (z := (0, 9, 12, 13)) (hq0 := []) (name := "java/lang/IndexOutOfBoundsException") hown htab (fun w hw => absurd hw List.not_mem_nil) (by decide) (by decide) q1 (hXK.2.2.1 _ (by decide +kernel)) hce hcv hcl ?_
      refine lv_astore (lv' := [(4, .ref q9), (0, .ref h0), (1, .int a1), (2, .int a2), (3, .ref h8)]) hx hb dL_playBack_12 hl (by decide) rfl (fun ls hl => ?_)
      refine lv_iconst (v := 1) hx hb dL_playBack_14 (by decide) ?_
      have hP9 : va_P D vwCl (wH cC cI cJ h0 h1 h2 h3 h4 h5 h6 h7 h8 u) _ := hP
      have hD9 : va_D A (wH cC cI cJ h0 h1 h2 h3 h4 h5 h6 h7 h8 u) := hD
      have hf := Option.some.inj hf
      have hf1 := congrArg Prod.fst hf
      have hf2 := congrArg Prod.snd hf
      exact W.iret (v := 1) hx hb hr (fun t ht hW => ⟨⟨1, u, rfl, ⟨hf1, hf2⟩, by rw [ht]; exact hP9, va_K.moved hW.alike hK, hD9⟩, hS.F ht⟩) hS.2.2 dL_playBack_15
    · rw [if_neg c2] at hf
      cases hf
  · obtain ⟨z1, rfl, rfl, hz⟩ := hw
    have hf := hf _ hz
    have hP : va_P D vwCl [(h0, .inr (4, [.ref h1, .ref h2, .ref h5])), (h1, .inl (cJ, 8, .inr (.inl z1.2.1))), (h2, .inr (3, [.ref h3, .ref h4, .int z1.2.2.1.2.2])), (h3, .inl (cC, 40, .inl z1.2.2.1.1)), (h4, .inl (cI, 40, .inl z1.2.2.1.2.1)), (h5, .inr (2, [.ref h6, .ref h7, .int z1.2.2.2.2.2.1, .int z1.2.2.2.2.2.2])), (h6, .inl (cI, 8, .inl z1.2.2.2.1)), (h7, .inl (cJ, 8, .inr (.inl z1.2.2.2.2.1))), (h8, .inl (cJ, 1, .inr (.inl u.2)))] H := hP.sub [1, 2, 3, 4, 5, 6, 7, 8, 0] rfl
    have hD : va_D A [(h0, .inr (4, [.ref h1, .ref h2, .ref h5])), (h1, .inl (cJ, 8, .inr (.inl z1.2.1))), (h2, .inr (3, [.ref h3, .ref h4, .int z1.2.2.1.2.2])), (h3, .inl (cC, 40, .inl z1.2.2.1.1)), (h4, .inl (cI, 40, .inl z1.2.2.1.2.1)), (h5, .inr (2, [.ref h6, .ref h7, .int z1.2.2.2.2.2.1, .int z1.2.2.2.2.2.2])), (h6, .inl (cI, 8, .inl z1.2.2.2.1)), (h7, .inl (cJ, 8, .inr (.inl z1.2.2.2.2.1))), (h8, .inl (cJ, 1, .inr (.inl u.2)))] := hD.sub [1, 2, 3, 4, 5, 6, 7, 8, 0] (by decide) rfl
    refine va_last hx hb hK hP hD hS 8 2 rfl rfl (show ¬ ((0 : Int32) < 0 ∨ 1 ≤ (0 : Int32).toNatClampNeg) by decide) dL_playBack_8 (fun H locs hP hD hS => ?_)
    have hP : va_P D vwCl [(h0, .inr (4, [.ref h1, .ref h2, .ref h5])), (h1, .inl (cJ, 8, .inr (.inl z1.2.1))), (h2, .inr (3, [.ref h3, .ref h4, .int z1.2.2.1.2.2])), (h3, .inl (cC, 40, .inl z1.2.2.1.1)), (h4, .inl (cI, 40, .inl z1.2.2.1.2.1)), (h5, .inr (2, [.ref h6, .ref h7, .int z1.2.2.2.2.2.1, .int z1.2.2.2.2.2.2])), (h6, .inl (cI, 8, .inl z1.2.2.2.1)), (h7, .inl (cJ, 8, .inr (.inl z1.2.2.2.2.1))), (h8, .inl (cJ, 1, .inr (.inl (vp_updL u.2 (0 : Int32).toNatClampNeg z1.1))))] H := hP
    have hD : va_D A [(h0, .inr (4, [.ref h1, .ref h2, .ref h5])), (h1, .inl (cJ, 8, .inr (.inl z1.2.1))), (h2, .inr (3, [.ref h3, .ref h4, .int z1.2.2.1.2.2])), (h3, .inl (cC, 40, .inl z1.2.2.1.1)), (h4, .inl (cI, 40, .inl z1.2.2.1.2.1)), (h5, .inr (2, [.ref h6, .ref h7, .int z1.2.2.2.2.2.1, .int z1.2.2.2.2.2.2])), (h6, .inl (cI, 8, .inl z1.2.2.2.1)), (h7, .inl (cJ, 8, .inr (.inl z1.2.2.2.2.1))), (h8, .inl (cJ, 1, .inr (.inl (vp_updL u.2 (0 : Int32).toNatClampNeg z1.1))))] := hD
    refine lv_goto (tgt := 16) hx hb dL_playBack_9 (by decide) ?_
    refine lv_iconst (v := 0) hx hb dL_playBack_16 (by decide) ?_
    have hP9 : va_P D vwCl (wH cC cI cJ h0 h1 h2 h3 h4 h5 h6 h7 h8 (z1.2, (vp_updL u.2 (0 : Int32).toNatClampNeg z1.1))) _ := hP
    have hD9 : va_D A (wH cC cI cJ h0 h1 h2 h3 h4 h5 h6 h7 h8 (z1.2, (vp_updL u.2 (0 : Int32).toNatClampNeg z1.1))) := hD
    have hf := Option.some.inj hf
    have hf1 := congrArg Prod.fst hf
    have hf2 := congrArg Prod.snd hf
    exact W.iret (v := 0) hx hb hr (fun t ht hW => ⟨⟨0, (z1.2, (vp_updL u.2 (0 : Int32).toNatClampNeg z1.1)), rfl, ⟨hf1, hf2⟩, by rw [ht]; exact hP9, va_K.moved hW.alike hK, hD9⟩, hS.F ht⟩) hS.2.2 dL_playBack_17

set_option maxHeartbeats 4000000 in
set_option maxRecDepth 100000 in
theorem m_L_isHome (l : Launch) (hl0 : l.stackTraces = false) (D : va_G) (cC cI cJ : ClassId) (h0 h1 h2 h3 h4 h5 h6 h7 h8 : Nat) (u : SH) (sz : Nat) (a1 : Int32) (res : Int32 × SH) (hf : f_L_isHome u a1 = some res) : Met l yL_isHome wsL_isHome rmL_isHome (my_PcTM D vwCl (KT cC cI cJ) sz (wH cC cI cJ h0 h1 h2 h3 h4 h5 h6 h7 h8 u) [.ref h0, .int a1, .ref h8]) (va_Qi (fun r v => r = res.1 ∧ v = res.2) (my_B D vwCl (KT cC cI cJ) (va_A (wH cC cI cJ h0 h1 h2 h3 h4 h5 h6 h7 h8 u) sz) (fun v : SH => (wH cC cI cJ h0 h1 h2 h3 h4 h5 h6 h7 h8 v))) (va_A (wH cC cI cJ h0 h1 h2 h3 h4 h5 h6 h7 h8 u) sz)) 1 6 (va_A (wH cC cI cJ h0 h1 h2 h3 h4 h5 h6 h7 h8 u) sz) := by
  refine va_MetW (cc := cL_isHome) (maxL := 4) (ret := (some .int)) (by decide) rfl ?_
  intro p e s m args below meth c s₁ B hml hv
  obtain ⟨rfl, hsz, hP, hK, hD0, hXK⟩ := hv
  have hx := B.exec
  have hb := B.bytes
  have hr := B.returns
  have hts : ∀ w ∈ wsL_isHome, w.before ([.ref h0, .int a1, .ref h8] : List Value).toArray s = true := atoms_spec (ws := wsL_isHome) B.pre
  have hown : s.vm.findClass RL = some m.cls := findClass_of_methodNamed B.named
  have hlk : meth.locks = false := B.notSynchronized
  subst hsz
  have hD := hD0.self (sz := s.heap.size)
  generalize hAe : va_A (wH cC cI cJ h0 h1 h2 h3 h4 h5 h6 h7 h8 u) s.heap.size = A at hD ⊢
  have hA : ∀ q : Nat, s.heap.size ≤ q → A q := fun q h => by rw [← hAe]; exact Or.inr h
  have hS : va_S A s.heap s.heap [] := va_S.rf
  have hP : va_P D vwCl [(h0, .inr (4, [.ref h1, .ref h2, .ref h5])), (h1, .inl (cJ, 8, .inr (.inl u.1.1))), (h2, .inr (3, [.ref h3, .ref h4, .int u.1.2.1.2.2])), (h3, .inl (cC, 40, .inl u.1.2.1.1)), (h4, .inl (cI, 40, .inl u.1.2.1.2.1)), (h5, .inr (2, [.ref h6, .ref h7, .int u.1.2.2.2.2.1, .int u.1.2.2.2.2.2])), (h6, .inl (cI, 8, .inl u.1.2.2.1)), (h7, .inl (cJ, 8, .inr (.inl u.1.2.2.2.1))), (h8, .inl (cJ, 1, .inr (.inl u.2)))] s.heap := hP
  have hD : va_D A [(h0, .inr (4, [.ref h1, .ref h2, .ref h5])), (h1, .inl (cJ, 8, .inr (.inl u.1.1))), (h2, .inr (3, [.ref h3, .ref h4, .int u.1.2.1.2.2])), (h3, .inl (cC, 40, .inl u.1.2.1.1)), (h4, .inl (cI, 40, .inl u.1.2.1.2.1)), (h5, .inr (2, [.ref h6, .ref h7, .int u.1.2.2.2.2.1, .int u.1.2.2.2.2.2])), (h6, .inl (cI, 8, .inl u.1.2.2.1)), (h7, .inl (cJ, 8, .inr (.inl u.1.2.2.2.1))), (h8, .inl (cJ, 1, .inr (.inl u.2)))] := hD
  have q1 := hts (.classLink RL 13 "java/lang/IndexOutOfBoundsException") (by decide +kernel)
  have htab : c.exceptionTable.toList = tableOf [(0, 16, 19, 13)] := vx_table (x := yL_isHome) B (hts _ List.mem_cons_self)
  have hl := lv_entry ([.ref h0, .int a1, .ref h8]) (n := 4) (Nat.le_of_ble_eq_true rfl)
  rw [lg_entry_eq]
  generalize (lg_sl ([.ref h0, .int a1, .ref h8]) ++ List.replicate (4 - (lg_sl ([.ref h0, .int a1, .ref h8])).length) Slot.unset).toArray = ls at hl ⊢
  have hl : lv_has ls 4 [(0, .ref h0), (1, .int a1), (2, .ref h8)] := hl
  unfold f_L_isHome at hf
  refine lv_aload_n hx hb dL_isHome_0 rfl (lv_at hl 2 rfl) ?_
  refine lv_iconst (v := 0) hx hb dL_isHome_1 (by decide) ?_
  refine lv_aload_n hx hb dL_isHome_2 rfl (lv_at hl 0 rfl) ?_
  refine lv_iload_n hx hb dL_isHome_3 rfl (lv_at hl 1 rfl) ?_
  obtain ⟨z1, ez1, hx9, hf⟩ := xh_e hf
  refine my_callXRi (As := [.int a1]) (n := 1) (rest := [.int 0, .ref h8]) (wc := (wX cC cI cJ h0 h1 h2 h3 h4 h5 h6 h7 u.1)) ⟨hx, hb, hml, hown, hts⟩ hK hP hS hA hXK [0, 1, 2, 3, 4, 5, 6, 7] rfl (m_X5_isHome l hl0 D cC cI cJ h0 h1 h2 h3 h4 h5 h6 h7 u.1 s.heap.size a1 _ ez1) gL_isHome_X5_isHome rfl ⟨rfl, rfl⟩ (ci := 4) rfl rfl (by decide +kernel) ⟨Nat.le_of_ble_eq_true rfl, Nat.le_of_ble_eq_true rfl⟩ ⟨Nat.le_of_ble_eq_true rfl, Nat.le_of_ble_eq_true rfl⟩ hl.1 rfl rfl (Nat.le_of_ble_eq_true rfl) dL_isHome_4 (fun E ce q9 H locs hE hk1 hS hce hcv hcl => ?_) (fun r9 H locs hw hk1 hS => ?_)
  · have hf := hx9 E hE
    have hP := my_keep hP hk1
    by_cases c2 : E = "java/lang/IndexOutOfBoundsException"
    · rw [if_pos c2] at hf
      subst c2
      refine my_catch (hp := []) (z := (0, 16, 19, 13)) (hq0 := []) (name := "java/lang/IndexOutOfBoundsException") hown htab (fun w hw => absurd hw List.not_mem_nil) (by decide) (by decide) q1 (hXK.2.2.1 _ (by decide +kernel)) hce hcv hcl ?_
      refine lv_astore_n (lv' := [(3, .ref q9), (0, .ref h0), (1, .int a1), (2, .ref h8)]) hx hb dL_isHome_19 rfl hl (by decide) rfl (fun ls hl => ?_)
      refine lv_iconst (v := 1) hx hb dL_isHome_20 (by decide) ?_
      have hP9 : va_P D vwCl (wH cC cI cJ h0 h1 h2 h3 h4 h5 h6 h7 h8 u) _ := hP
      have hD9 : va_D A (wH cC cI cJ h0 h1 h2 h3 h4 h5 h6 h7 h8 u) := hD
      have hf := Option.some.inj hf
      have hf1 := congrArg Prod.fst hf
      have hf2 := congrArg Prod.snd hf
      exact W.iret (v := 1) hx hb hr (fun t ht hW => ⟨⟨1, u, rfl, ⟨hf1, hf2⟩, by rw [ht]; exact hP9, va_K.moved hW.alike hK, hD9⟩, hS.F ht⟩) hS.2.2 dL_isHome_21
    · rw [if_neg c2] at hf
      cases hf
  · obtain ⟨z1, hr9, hz⟩ := hw
    obtain rfl := hr9.symm
    have hf := hf _ hz
    have hP := my_keep hP hk1
    refine my_bz_eq (x := z1) (tgt := 14) hx hb dL_isHome_7 (by decide) (fun c3 => ?_) (fun c3 => ?_)
    · rw [if_pos c3] at hf
      refine lv_lconst (v := 0) hx hb dL_isHome_14 (by decide) ?_
      refine va_last hx hb hK hP hD hS 8 2 rfl rfl (show ¬ ((0 : Int32) < 0 ∨ 1 ≤ (0 : Int32).toNatClampNeg) by decide) dL_isHome_15 (fun H locs hP hD hS => ?_)
      have hP : va_P D vwCl [(h0, .inr (4, [.ref h1, .ref h2, .ref h5])), (h1, .inl (cJ, 8, .inr (.inl u.1.1))), (h2, .inr (3, [.ref h3, .ref h4, .int u.1.2.1.2.2])), (h3, .inl (cC, 40, .inl u.1.2.1.1)), (h4, .inl (cI, 40, .inl u.1.2.1.2.1)), (h5, .inr (2, [.ref h6, .ref h7, .int u.1.2.2.2.2.1, .int u.1.2.2.2.2.2])), (h6, .inl (cI, 8, .inl u.1.2.2.1)), (h7, .inl (cJ, 8, .inr (.inl u.1.2.2.2.1))), (h8, .inl (cJ, 1, .inr (.inl (vp_updL u.2 (0 : Int32).toNatClampNeg 0))))] H := hP
      have hD : va_D A [(h0, .inr (4, [.ref h1, .ref h2, .ref h5])), (h1, .inl (cJ, 8, .inr (.inl u.1.1))), (h2, .inr (3, [.ref h3, .ref h4, .int u.1.2.1.2.2])), (h3, .inl (cC, 40, .inl u.1.2.1.1)), (h4, .inl (cI, 40, .inl u.1.2.1.2.1)), (h5, .inr (2, [.ref h6, .ref h7, .int u.1.2.2.2.2.1, .int u.1.2.2.2.2.2])), (h6, .inl (cI, 8, .inl u.1.2.2.1)), (h7, .inl (cJ, 8, .inr (.inl u.1.2.2.2.1))), (h8, .inl (cJ, 1, .inr (.inl (vp_updL u.2 (0 : Int32).toNatClampNeg 0))))] := hD
      refine lv_goto (tgt := 22) hx hb dL_isHome_16 (by decide) ?_
      refine lv_iconst (v := 0) hx hb dL_isHome_22 (by decide) ?_
      have hP9 : va_P D vwCl (wH cC cI cJ h0 h1 h2 h3 h4 h5 h6 h7 h8 (u.1, (vp_updL u.2 (0 : Int32).toNatClampNeg 0))) _ := hP
      have hD9 : va_D A (wH cC cI cJ h0 h1 h2 h3 h4 h5 h6 h7 h8 (u.1, (vp_updL u.2 (0 : Int32).toNatClampNeg 0))) := hD
      have hf := Option.some.inj hf
      have hf1 := congrArg Prod.fst hf
      have hf2 := congrArg Prod.snd hf
      exact W.iret (v := 0) hx hb hr (fun t ht hW => ⟨⟨0, (u.1, (vp_updL u.2 (0 : Int32).toNatClampNeg 0)), rfl, ⟨hf1, hf2⟩, by rw [ht]; exact hP9, va_K.moved hW.alike hK, hD9⟩, hS.F ht⟩) hS.2.2 dL_isHome_23
    · rw [if_neg c3] at hf
      refine lv_lconst (v := 1) hx hb dL_isHome_10 (by decide) ?_
      refine lv_goto (tgt := 15) hx hb dL_isHome_11 (by decide) ?_
      refine va_last hx hb hK hP hD hS 8 2 rfl rfl (show ¬ ((0 : Int32) < 0 ∨ 1 ≤ (0 : Int32).toNatClampNeg) by decide) dL_isHome_15 (fun H locs hP hD hS => ?_)
      have hP : va_P D vwCl [(h0, .inr (4, [.ref h1, .ref h2, .ref h5])), (h1, .inl (cJ, 8, .inr (.inl u.1.1))), (h2, .inr (3, [.ref h3, .ref h4, .int u.1.2.1.2.2])), (h3, .inl (cC, 40, .inl u.1.2.1.1)), (h4, .inl (cI, 40, .inl u.1.2.1.2.1)), (h5, .inr (2, [.ref h6, .ref h7, .int u.1.2.2.2.2.1, .int u.1.2.2.2.2.2])), (h6, .inl (cI, 8, .inl u.1.2.2.1)), (h7, .inl (cJ, 8, .inr (.inl u.1.2.2.2.1))), (h8, .inl (cJ, 1, .inr (.inl (vp_updL u.2 (0 : Int32).toNatClampNeg 1))))] H := hP
      have hD : va_D A [(h0, .inr (4, [.ref h1, .ref h2, .ref h5])), (h1, .inl (cJ, 8, .inr (.inl u.1.1))), (h2, .inr (3, [.ref h3, .ref h4, .int u.1.2.1.2.2])), (h3, .inl (cC, 40, .inl u.1.2.1.1)), (h4, .inl (cI, 40, .inl u.1.2.1.2.1)), (h5, .inr (2, [.ref h6, .ref h7, .int u.1.2.2.2.2.1, .int u.1.2.2.2.2.2])), (h6, .inl (cI, 8, .inl u.1.2.2.1)), (h7, .inl (cJ, 8, .inr (.inl u.1.2.2.2.1))), (h8, .inl (cJ, 1, .inr (.inl (vp_updL u.2 (0 : Int32).toNatClampNeg 1))))] := hD
      refine lv_goto (tgt := 22) hx hb dL_isHome_16 (by decide) ?_
      refine lv_iconst (v := 0) hx hb dL_isHome_22 (by decide) ?_
      have hP9 : va_P D vwCl (wH cC cI cJ h0 h1 h2 h3 h4 h5 h6 h7 h8 (u.1, (vp_updL u.2 (0 : Int32).toNatClampNeg 1))) _ := hP
      have hD9 : va_D A (wH cC cI cJ h0 h1 h2 h3 h4 h5 h6 h7 h8 (u.1, (vp_updL u.2 (0 : Int32).toNatClampNeg 1))) := hD
      have hf := Option.some.inj hf
      have hf1 := congrArg Prod.fst hf
      have hf2 := congrArg Prod.snd hf
      exact W.iret (v := 0) hx hb hr (fun t ht hW => ⟨⟨0, (u.1, (vp_updL u.2 (0 : Int32).toNatClampNeg 1)), rfl, ⟨hf1, hf2⟩, by rw [ht]; exact hP9, va_K.moved hW.alike hK, hD9⟩, hS.F ht⟩) hS.2.2 dL_isHome_23

set_option maxHeartbeats 4000000 in
set_option maxRecDepth 100000 in
theorem m_L_losses (l : Launch) (hl0 : l.stackTraces = false) (D : va_G) (cC cI cJ : ClassId) (h0 h1 h2 h3 h4 h5 h6 h7 h8 : Nat) (u : SH) (sz : Nat) (a1 : Int32) (res : Int32 × SH) (hf : f_L_losses u a1 = some res) : Met l yL_losses wsL_losses rmL_losses (my_PcTM D vwCl (KT cC cI cJ) sz (wH cC cI cJ h0 h1 h2 h3 h4 h5 h6 h7 h8 u) [.ref h0, .int a1, .ref h8]) (va_Qi (fun r v => r = res.1 ∧ v = res.2) (my_B D vwCl (KT cC cI cJ) (va_A (wH cC cI cJ h0 h1 h2 h3 h4 h5 h6 h7 h8 u) sz) (fun v : SH => (wH cC cI cJ h0 h1 h2 h3 h4 h5 h6 h7 h8 v))) (va_A (wH cC cI cJ h0 h1 h2 h3 h4 h5 h6 h7 h8 u) sz)) 1 6 (va_A (wH cC cI cJ h0 h1 h2 h3 h4 h5 h6 h7 h8 u) sz) := by
  refine va_MetW (cc := cL_losses) (maxL := 4) (ret := (some .int)) (by decide) rfl ?_
  intro p e s m args below meth c s₁ B hml hv
  obtain ⟨rfl, hsz, hP, hK, hD0, hXK⟩ := hv
  have hx := B.exec
  have hb := B.bytes
  have hr := B.returns
  have hts : ∀ w ∈ wsL_losses, w.before ([.ref h0, .int a1, .ref h8] : List Value).toArray s = true := atoms_spec (ws := wsL_losses) B.pre
  have hown : s.vm.findClass RL = some m.cls := findClass_of_methodNamed B.named
  have hlk : meth.locks = false := B.notSynchronized
  subst hsz
  have hD := hD0.self (sz := s.heap.size)
  generalize hAe : va_A (wH cC cI cJ h0 h1 h2 h3 h4 h5 h6 h7 h8 u) s.heap.size = A at hD ⊢
  have hA : ∀ q : Nat, s.heap.size ≤ q → A q := fun q h => by rw [← hAe]; exact Or.inr h
  have hS : va_S A s.heap s.heap [] := va_S.rf
  have hP : va_P D vwCl [(h0, .inr (4, [.ref h1, .ref h2, .ref h5])), (h1, .inl (cJ, 8, .inr (.inl u.1.1))), (h2, .inr (3, [.ref h3, .ref h4, .int u.1.2.1.2.2])), (h3, .inl (cC, 40, .inl u.1.2.1.1)), (h4, .inl (cI, 40, .inl u.1.2.1.2.1)), (h5, .inr (2, [.ref h6, .ref h7, .int u.1.2.2.2.2.1, .int u.1.2.2.2.2.2])), (h6, .inl (cI, 8, .inl u.1.2.2.1)), (h7, .inl (cJ, 8, .inr (.inl u.1.2.2.2.1))), (h8, .inl (cJ, 1, .inr (.inl u.2)))] s.heap := hP
  have hD : va_D A [(h0, .inr (4, [.ref h1, .ref h2, .ref h5])), (h1, .inl (cJ, 8, .inr (.inl u.1.1))), (h2, .inr (3, [.ref h3, .ref h4, .int u.1.2.1.2.2])), (h3, .inl (cC, 40, .inl u.1.2.1.1)), (h4, .inl (cI, 40, .inl u.1.2.1.2.1)), (h5, .inr (2, [.ref h6, .ref h7, .int u.1.2.2.2.2.1, .int u.1.2.2.2.2.2])), (h6, .inl (cI, 8, .inl u.1.2.2.1)), (h7, .inl (cJ, 8, .inr (.inl u.1.2.2.2.1))), (h8, .inl (cJ, 1, .inr (.inl u.2)))] := hD
  have q1 := hts (.classLink RL 13 "java/lang/IndexOutOfBoundsException") (by decide +kernel)
  have htab : c.exceptionTable.toList = tableOf [(0, 9, 12, 13)] := vx_table (x := yL_losses) B (hts _ List.mem_cons_self)
  have hl := lv_entry ([.ref h0, .int a1, .ref h8]) (n := 4) (Nat.le_of_ble_eq_true rfl)
  rw [lg_entry_eq]
  generalize (lg_sl ([.ref h0, .int a1, .ref h8]) ++ List.replicate (4 - (lg_sl ([.ref h0, .int a1, .ref h8])).length) Slot.unset).toArray = ls at hl ⊢
  have hl : lv_has ls 4 [(0, .ref h0), (1, .int a1), (2, .ref h8)] := hl
  unfold f_L_losses at hf
  refine lv_aload_n hx hb dL_losses_0 rfl (lv_at hl 2 rfl) ?_
  refine lv_iconst (v := 0) hx hb dL_losses_1 (by decide) ?_
  refine lv_aload_n hx hb dL_losses_2 rfl (lv_at hl 0 rfl) ?_
  refine lv_iload_n hx hb dL_losses_3 rfl (lv_at hl 1 rfl) ?_
  obtain ⟨z1, ez1, hx9, hf⟩ := xh_e hf
  refine my_callXRi (As := [.int a1]) (n := 1) (rest := [.int 0, .ref h8]) (wc := (wX cC cI cJ h0 h1 h2 h3 h4 h5 h6 h7 u.1)) ⟨hx, hb, hml, hown, hts⟩ hK hP hS hA hXK [0, 1, 2, 3, 4, 5, 6, 7] rfl (m_X5_losses l hl0 D cC cI cJ h0 h1 h2 h3 h4 h5 h6 h7 u.1 s.heap.size a1 _ ez1) gL_losses_X5_losses rfl ⟨rfl, rfl⟩ (ci := 4) rfl rfl (by decide +kernel) ⟨Nat.le_of_ble_eq_true rfl, Nat.le_of_ble_eq_true rfl⟩ ⟨Nat.le_of_ble_eq_true rfl, Nat.le_of_ble_eq_true rfl⟩ hl.1 rfl rfl (Nat.le_of_ble_eq_true rfl) dL_losses_4 (fun E ce q9 H locs hE hk1 hS hce hcv hcl => ?_) (fun r9 H locs hw hk1 hS => ?_)
  · have hf := hx9 E hE
    have hP := my_keep hP hk1
    by_cases c2 : E = "java/lang/IndexOutOfBoundsException"
    · rw [if_pos c2] at hf
      subst c2
      refine my_catch (hp := []) (z := (0, 9, 12, 13)) (hq0 := []) (name := "java/lang/IndexOutOfBoundsException") hown htab (fun w hw => absurd hw List.not_mem_nil) (by decide) (by decide) q1 (hXK.2.2.1 _ (by decide +kernel)) hce hcv hcl ?_
      refine lv_astore_n (lv' := [(3, .ref q9), (0, .ref h0), (1, .int a1), (2, .ref h8)]) hx hb dL_losses_12 rfl hl (by decide) rfl (fun ls hl => ?_)
      refine lv_iconst (v := 1) hx hb dL_losses_13 (by decide) ?_
      have hP9 : va_P D vwCl (wH cC cI cJ h0 h1 h2 h3 h4 h5 h6 h7 h8 u) _ := hP
      have hD9 : va_D A (wH cC cI cJ h0 h1 h2 h3 h4 h5 h6 h7 h8 u) := hD
      have hf := Option.some.inj hf
      have hf1 := congrArg Prod.fst hf
      have hf2 := congrArg Prod.snd hf
      exact W.iret (v := 1) hx hb hr (fun t ht hW => ⟨⟨1, u, rfl, ⟨hf1, hf2⟩, by rw [ht]; exact hP9, va_K.moved hW.alike hK, hD9⟩, hS.F ht⟩) hS.2.2 dL_losses_14
    · rw [if_neg c2] at hf
      cases hf
  · obtain ⟨z1, hr9, hz⟩ := hw
    obtain rfl := hr9.symm
    have hf := hf _ hz
    have hP := my_keep hP hk1
    refine lv_i2l (v := (z1.toInt64)) hx hb dL_losses_7 rfl ?_
    refine va_last hx hb hK hP hD hS 8 2 rfl rfl (show ¬ ((0 : Int32) < 0 ∨ 1 ≤ (0 : Int32).toNatClampNeg) by decide) dL_losses_8 (fun H locs hP hD hS => ?_)
    have hP : va_P D vwCl [(h0, .inr (4, [.ref h1, .ref h2, .ref h5])), (h1, .inl (cJ, 8, .inr (.inl u.1.1))), (h2, .inr (3, [.ref h3, .ref h4, .int u.1.2.1.2.2])), (h3, .inl (cC, 40, .inl u.1.2.1.1)), (h4, .inl (cI, 40, .inl u.1.2.1.2.1)), (h5, .inr (2, [.ref h6, .ref h7, .int u.1.2.2.2.2.1, .int u.1.2.2.2.2.2])), (h6, .inl (cI, 8, .inl u.1.2.2.1)), (h7, .inl (cJ, 8, .inr (.inl u.1.2.2.2.1))), (h8, .inl (cJ, 1, .inr (.inl (vp_updL u.2 (0 : Int32).toNatClampNeg (z1.toInt64)))))] H := hP
    have hD : va_D A [(h0, .inr (4, [.ref h1, .ref h2, .ref h5])), (h1, .inl (cJ, 8, .inr (.inl u.1.1))), (h2, .inr (3, [.ref h3, .ref h4, .int u.1.2.1.2.2])), (h3, .inl (cC, 40, .inl u.1.2.1.1)), (h4, .inl (cI, 40, .inl u.1.2.1.2.1)), (h5, .inr (2, [.ref h6, .ref h7, .int u.1.2.2.2.2.1, .int u.1.2.2.2.2.2])), (h6, .inl (cI, 8, .inl u.1.2.2.1)), (h7, .inl (cJ, 8, .inr (.inl u.1.2.2.2.1))), (h8, .inl (cJ, 1, .inr (.inl (vp_updL u.2 (0 : Int32).toNatClampNeg (z1.toInt64)))))] := hD
    refine lv_goto (tgt := 15) hx hb dL_losses_9 (by decide) ?_
    refine lv_iconst (v := 0) hx hb dL_losses_15 (by decide) ?_
    have hP9 : va_P D vwCl (wH cC cI cJ h0 h1 h2 h3 h4 h5 h6 h7 h8 (u.1, (vp_updL u.2 (0 : Int32).toNatClampNeg (z1.toInt64)))) _ := hP
    have hD9 : va_D A (wH cC cI cJ h0 h1 h2 h3 h4 h5 h6 h7 h8 (u.1, (vp_updL u.2 (0 : Int32).toNatClampNeg (z1.toInt64)))) := hD
    have hf := Option.some.inj hf
    have hf1 := congrArg Prod.fst hf
    have hf2 := congrArg Prod.snd hf
    exact W.iret (v := 0) hx hb hr (fun t ht hW => ⟨⟨0, (u.1, (vp_updL u.2 (0 : Int32).toNatClampNeg (z1.toInt64))), rfl, ⟨hf1, hf2⟩, by rw [ht]; exact hP9, va_K.moved hW.alike hK, hD9⟩, hS.F ht⟩) hS.2.2 dL_losses_16

set_option maxHeartbeats 4000000 in
set_option maxRecDepth 100000 in
theorem m_L_undo (l : Launch) (hl0 : l.stackTraces = false) (D : va_G) (cC cI cJ : ClassId) (h0 h1 h2 h3 h4 h5 h6 h7 h8 : Nat) (u : SH) (sz : Nat)  (res : Int32 × SH) (hf : f_L_undo u = some res) : Met l yL_undo wsL_undo rmL_undo (my_PcTM D vwCl (KT cC cI cJ) sz (wH cC cI cJ h0 h1 h2 h3 h4 h5 h6 h7 h8 u) [.ref h0, .ref h8]) (va_Qi (fun r v => r = res.1 ∧ v = res.2) (my_B D vwCl (KT cC cI cJ) (va_A (wH cC cI cJ h0 h1 h2 h3 h4 h5 h6 h7 h8 u) sz) (fun v : SH => (wH cC cI cJ h0 h1 h2 h3 h4 h5 h6 h7 h8 v))) (va_A (wH cC cI cJ h0 h1 h2 h3 h4 h5 h6 h7 h8 u) sz)) 1 6 (va_A (wH cC cI cJ h0 h1 h2 h3 h4 h5 h6 h7 h8 u) sz) := by
  refine va_MetW (cc := cL_undo) (maxL := 3) (ret := (some .int)) (by decide) rfl ?_
  intro p e s m args below meth c s₁ B hml hv
  obtain ⟨rfl, hsz, hP, hK, hD0, hXK⟩ := hv
  have hx := B.exec
  have hb := B.bytes
  have hr := B.returns
  have hts : ∀ w ∈ wsL_undo, w.before ([.ref h0, .ref h8] : List Value).toArray s = true := atoms_spec (ws := wsL_undo) B.pre
  have hown : s.vm.findClass RL = some m.cls := findClass_of_methodNamed B.named
  have hlk : meth.locks = false := B.notSynchronized
  subst hsz
  have hD := hD0.self (sz := s.heap.size)
  generalize hAe : va_A (wH cC cI cJ h0 h1 h2 h3 h4 h5 h6 h7 h8 u) s.heap.size = A at hD ⊢
  have hA : ∀ q : Nat, s.heap.size ≤ q → A q := fun q h => by rw [← hAe]; exact Or.inr h
  have hS : va_S A s.heap s.heap [] := va_S.rf
  have hP : va_P D vwCl [(h0, .inr (4, [.ref h1, .ref h2, .ref h5])), (h1, .inl (cJ, 8, .inr (.inl u.1.1))), (h2, .inr (3, [.ref h3, .ref h4, .int u.1.2.1.2.2])), (h3, .inl (cC, 40, .inl u.1.2.1.1)), (h4, .inl (cI, 40, .inl u.1.2.1.2.1)), (h5, .inr (2, [.ref h6, .ref h7, .int u.1.2.2.2.2.1, .int u.1.2.2.2.2.2])), (h6, .inl (cI, 8, .inl u.1.2.2.1)), (h7, .inl (cJ, 8, .inr (.inl u.1.2.2.2.1))), (h8, .inl (cJ, 1, .inr (.inl u.2)))] s.heap := hP
  have hD : va_D A [(h0, .inr (4, [.ref h1, .ref h2, .ref h5])), (h1, .inl (cJ, 8, .inr (.inl u.1.1))), (h2, .inr (3, [.ref h3, .ref h4, .int u.1.2.1.2.2])), (h3, .inl (cC, 40, .inl u.1.2.1.1)), (h4, .inl (cI, 40, .inl u.1.2.1.2.1)), (h5, .inr (2, [.ref h6, .ref h7, .int u.1.2.2.2.2.1, .int u.1.2.2.2.2.2])), (h6, .inl (cI, 8, .inl u.1.2.2.1)), (h7, .inl (cJ, 8, .inr (.inl u.1.2.2.2.1))), (h8, .inl (cJ, 1, .inr (.inl u.2)))] := hD
  have q1 := hts (.classLink RL 138 "java/util/NoSuchElementException") (by decide +kernel)
  have htab : c.exceptionTable.toList = tableOf [(0, 8, 11, 138)] := vx_table (x := yL_undo) B (hts _ List.mem_cons_self)
  have hl := lv_entry ([.ref h0, .ref h8]) (n := 3) (Nat.le_of_ble_eq_true rfl)
  rw [lg_entry_eq]
  generalize (lg_sl ([.ref h0, .ref h8]) ++ List.replicate (3 - (lg_sl ([.ref h0, .ref h8])).length) Slot.unset).toArray = ls at hl ⊢
  have hl : lv_has ls 3 [(0, .ref h0), (1, .ref h8)] := hl
  unfold f_L_undo at hf
  refine lv_aload_n hx hb dL_undo_0 rfl (lv_at hl 1 rfl) ?_
  refine lv_iconst (v := 0) hx hb dL_undo_1 (by decide) ?_
  refine lv_aload_n hx hb dL_undo_2 rfl (lv_at hl 0 rfl) ?_
  obtain ⟨z1, ez1, hx9, hf⟩ := xh_e hf
  refine my_callXMi (As := []) (n := 0) (rest := [.int 0, .ref h8]) (wr := [(h8, .inl (cJ, 1, .inr (.inl u.2)))]) ⟨hx, hb, hml, hown, hts⟩ hK hP hD hS hA hXK [0, 1, 2, 3, 4, 5, 6, 7] [8] rfl rfl (by decide) (by decide) (by decide) (m_X5_undo l hl0 D cC cI cJ h0 h1 h2 h3 h4 h5 h6 h7 u.1 s.heap.size _ ez1) gL_undo_X5_undo rfl ⟨rfl, rfl⟩ (ci := 4) rfl rfl (by decide +kernel) ⟨Nat.le_of_ble_eq_true rfl, Nat.le_of_ble_eq_true rfl⟩ ⟨Nat.le_of_ble_eq_true rfl, Nat.le_of_ble_eq_true rfl⟩ hl.1 rfl rfl (Nat.le_of_ble_eq_true rfl) dL_undo_3 (fun E ce q9 H locs hE hk1 hS hce hcv hcl => ?_) (fun r9 u9 H locs hw hP hD hS => ?_)
  · have hf := hx9 E hE
    have hP := my_keep hP hk1
    by_cases c2 : E = "java/util/NoSuchElementException"
    · rw [if_pos c2] at hf
      subst c2
      refine my_catch (hp := []) (z := (0, 8, 11, 138)) (hq0 := []) (name := "java/util/NoSuchElementException") hown htab (fun w hw => absurd hw List.not_mem_nil) (by decide) (by decide) q1 (hXK.2.2.1 _ (by decide +kernel)) hce hcv hcl ?_
      refine lv_astore_n (lv' := [(2, .ref q9), (0, .ref h0), (1, .ref h8)]) hx hb dL_undo_11 rfl hl (by decide) rfl (fun ls hl => ?_)
      refine lv_iconst (v := 1) hx hb dL_undo_12 (by decide) ?_
      have hP9 : va_P D vwCl (wH cC cI cJ h0 h1 h2 h3 h4 h5 h6 h7 h8 u) _ := hP
      have hD9 : va_D A (wH cC cI cJ h0 h1 h2 h3 h4 h5 h6 h7 h8 u) := hD
      have hf := Option.some.inj hf
      have hf1 := congrArg Prod.fst hf
      have hf2 := congrArg Prod.snd hf
      exact W.iret (v := 1) hx hb hr (fun t ht hW => ⟨⟨1, u, rfl, ⟨hf1, hf2⟩, by rw [ht]; exact hP9, va_K.moved hW.alike hK, hD9⟩, hS.F ht⟩) hS.2.2 dL_undo_13
    · rw [if_neg c2] at hf
      cases hf
  · obtain ⟨z1, rfl, rfl, hz⟩ := hw
    have hf := hf _ hz
    have hP : va_P D vwCl [(h0, .inr (4, [.ref h1, .ref h2, .ref h5])), (h1, .inl (cJ, 8, .inr (.inl z1.2.1))), (h2, .inr (3, [.ref h3, .ref h4, .int z1.2.2.1.2.2])), (h3, .inl (cC, 40, .inl z1.2.2.1.1)), (h4, .inl (cI, 40, .inl z1.2.2.1.2.1)), (h5, .inr (2, [.ref h6, .ref h7, .int z1.2.2.2.2.2.1, .int z1.2.2.2.2.2.2])), (h6, .inl (cI, 8, .inl z1.2.2.2.1)), (h7, .inl (cJ, 8, .inr (.inl z1.2.2.2.2.1))), (h8, .inl (cJ, 1, .inr (.inl u.2)))] H := hP.sub [1, 2, 3, 4, 5, 6, 7, 8, 0] rfl
    have hD : va_D A [(h0, .inr (4, [.ref h1, .ref h2, .ref h5])), (h1, .inl (cJ, 8, .inr (.inl z1.2.1))), (h2, .inr (3, [.ref h3, .ref h4, .int z1.2.2.1.2.2])), (h3, .inl (cC, 40, .inl z1.2.2.1.1)), (h4, .inl (cI, 40, .inl z1.2.2.1.2.1)), (h5, .inr (2, [.ref h6, .ref h7, .int z1.2.2.2.2.2.1, .int z1.2.2.2.2.2.2])), (h6, .inl (cI, 8, .inl z1.2.2.2.1)), (h7, .inl (cJ, 8, .inr (.inl z1.2.2.2.2.1))), (h8, .inl (cJ, 1, .inr (.inl u.2)))] := hD.sub [1, 2, 3, 4, 5, 6, 7, 8, 0] (by decide) rfl
    refine lv_i2l (v := (z1.1.toInt64)) hx hb dL_undo_6 rfl ?_
    refine va_last hx hb hK hP hD hS 8 2 rfl rfl (show ¬ ((0 : Int32) < 0 ∨ 1 ≤ (0 : Int32).toNatClampNeg) by decide) dL_undo_7 (fun H locs hP hD hS => ?_)
    have hP : va_P D vwCl [(h0, .inr (4, [.ref h1, .ref h2, .ref h5])), (h1, .inl (cJ, 8, .inr (.inl z1.2.1))), (h2, .inr (3, [.ref h3, .ref h4, .int z1.2.2.1.2.2])), (h3, .inl (cC, 40, .inl z1.2.2.1.1)), (h4, .inl (cI, 40, .inl z1.2.2.1.2.1)), (h5, .inr (2, [.ref h6, .ref h7, .int z1.2.2.2.2.2.1, .int z1.2.2.2.2.2.2])), (h6, .inl (cI, 8, .inl z1.2.2.2.1)), (h7, .inl (cJ, 8, .inr (.inl z1.2.2.2.2.1))), (h8, .inl (cJ, 1, .inr (.inl (vp_updL u.2 (0 : Int32).toNatClampNeg (z1.1.toInt64)))))] H := hP
    have hD : va_D A [(h0, .inr (4, [.ref h1, .ref h2, .ref h5])), (h1, .inl (cJ, 8, .inr (.inl z1.2.1))), (h2, .inr (3, [.ref h3, .ref h4, .int z1.2.2.1.2.2])), (h3, .inl (cC, 40, .inl z1.2.2.1.1)), (h4, .inl (cI, 40, .inl z1.2.2.1.2.1)), (h5, .inr (2, [.ref h6, .ref h7, .int z1.2.2.2.2.2.1, .int z1.2.2.2.2.2.2])), (h6, .inl (cI, 8, .inl z1.2.2.2.1)), (h7, .inl (cJ, 8, .inr (.inl z1.2.2.2.2.1))), (h8, .inl (cJ, 1, .inr (.inl (vp_updL u.2 (0 : Int32).toNatClampNeg (z1.1.toInt64)))))] := hD
    refine lv_goto (tgt := 14) hx hb dL_undo_8 (by decide) ?_
    refine lv_iconst (v := 0) hx hb dL_undo_14 (by decide) ?_
    have hP9 : va_P D vwCl (wH cC cI cJ h0 h1 h2 h3 h4 h5 h6 h7 h8 (z1.2, (vp_updL u.2 (0 : Int32).toNatClampNeg (z1.1.toInt64)))) _ := hP
    have hD9 : va_D A (wH cC cI cJ h0 h1 h2 h3 h4 h5 h6 h7 h8 (z1.2, (vp_updL u.2 (0 : Int32).toNatClampNeg (z1.1.toInt64)))) := hD
    have hf := Option.some.inj hf
    have hf1 := congrArg Prod.fst hf
    have hf2 := congrArg Prod.snd hf
    exact W.iret (v := 0) hx hb hr (fun t ht hW => ⟨⟨0, (z1.2, (vp_updL u.2 (0 : Int32).toNatClampNeg (z1.1.toInt64))), rfl, ⟨hf1, hf2⟩, by rw [ht]; exact hP9, va_K.moved hW.alike hK, hD9⟩, hS.F ht⟩) hS.2.2 dL_undo_15
