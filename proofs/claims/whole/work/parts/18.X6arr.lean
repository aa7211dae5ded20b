set_option maxHeartbeats 4000000 in
set_option maxRecDepth 100000 in
theorem m_X6_digits (l : Launch) (D : va_G) (cC cI cJ : ClassId) (sz : Nat) (a0 : Int64) (res : Nat → Int64) (hf : f_X6_digits a0 = some res) : Met l yX6_digits wsX6_digits rmX6_digits (my_PcM D vwCl (KT cC cI cJ) sz ([] : va_W) [.long a0]) (va_Qr (fun v => v = res) (my_BA D vwCl (KT cC cI cJ) (va_A ([] : va_W) sz) (fun (v : Nat → Int64) a => [(a, .inl (cJ, 72, .inr (.inl v)))])) (va_A ([] : va_W) sz)) 1 72 (va_A ([] : va_W) sz) := by
  refine Met.ofW (cc := cX6_digits) (maxL := 6) (ret := (some (.array .long))) (by decide) rfl ?_
  intro p e s m args below meth c s₁ B hml hv
  obtain ⟨rfl, hsz, hP, hK, hD0⟩ := hv
  have hx := B.exec
  have hb := B.bytes
  have hr := B.returns
  have hts : ∀ w ∈ wsX6_digits, w.before ([.long a0] : List Value).toArray s = true := atoms_spec (ws := wsX6_digits) B.pre
  have hown : s.vm.findClass RX6 = some m.cls := findClass_of_methodNamed B.named
  have hlk : meth.locks = false := B.notSynchronized
  subst hsz
  have hD := hD0.self (sz := s.heap.size)
  generalize hAe : va_A ([] : va_W) s.heap.size = A at hD ⊢
  have hA : ∀ q : Nat, s.heap.size ≤ q → A q := fun q h => by rw [← hAe]; exact Or.inr h
  have hS : va_S A s.heap s.heap [] := va_S.rf
  have q1 := hts (.arrayClass .long) (by decide +kernel)
  have q2 := hts (.constantLong RX6 68 (2)) (by decide +kernel)
  have hl := lv_entry ([.long a0]) (n := 6) (Nat.le_of_ble_eq_true rfl)
  rw [lg_entry_eq]
  generalize (lg_sl ([.long a0]) ++ List.replicate (6 - (lg_sl ([.long a0])).length) Slot.unset).toArray = ls at hl ⊢
  have hl : lv_has ls 6 [(0, .long a0)] := hl
  unfold f_X6_digits at hf
  refine lv_bipush (v := 72) hx hb dX6_digits_0 (by decide) ?_
  refine my_newaJ hx hb q1 hK (t0 := 2) rfl hP hD hS hA (N := 72) (by decide) rfl (by decide) (Nat.le_of_ble_eq_true rfl) (Nat.le_of_ble_eq_true rfl) dX6_digits_2 (fun b1 H hP hD hS => ?_)
  have hP : va_P D vwCl [(b1, .inl (cJ, 72, .inr (.inl (fun _ => 0))))] H := hP
  have hD : va_D A [(b1, .inl (cJ, 72, .inr (.inl (fun _ => 0))))] := hD
  refine lv_astore_n (lv' := [(2, .ref b1), (0, .long a0)]) hx hb dX6_digits_4 rfl hl (by decide) rfl (fun ls hl => ?_)
  refine lv_lload_n hx hb dX6_digits_5 rfl (lv_at hl 1 rfl) ?_
  refine my_callPl (As := [.long a0]) (n := 1) (rest := []) ⟨hx, hb, hml, hown, hts⟩ (m_X6_whole l a0 _ rfl) gX6_digits_X6_whole rfl ⟨rfl, rfl⟩ (by decide +kernel) ⟨Nat.le_of_ble_eq_true rfl, Nat.le_of_ble_eq_true rfl⟩ ⟨Nat.le_of_ble_eq_true rfl, Nat.le_of_ble_eq_true rfl⟩ hl.1 rfl rfl (Nat.le_of_ble_eq_true rfl) dX6_digits_6 ?_
  refine lv_lstore_n (lv' := [(3, .long (f_X6_whole a0)), (2, .ref b1), (0, .long a0)]) hx hb dX6_digits_9 rfl hl (by decide) rfl (fun ls hl => ?_)
  refine lv_lload_n hx hb dX6_digits_10 rfl (lv_at hl 2 rfl) ?_
  refine my_callPi (As := [.long a0]) (n := 1) (rest := []) ⟨hx, hb, hml, hown, hts⟩ (m_X6_shift l a0 _ rfl) gX6_digits_X6_shift rfl ⟨rfl, rfl⟩ (by decide +kernel) ⟨Nat.le_of_ble_eq_true rfl, Nat.le_of_ble_eq_true rfl⟩ ⟨Nat.le_of_ble_eq_true rfl, Nat.le_of_ble_eq_true rfl⟩ hl.1 rfl rfl (Nat.le_of_ble_eq_true rfl) dX6_digits_11 ?_
  refine lv_istore (lv' := [(5, .int (f_X6_shift a0)), (3, .long (f_X6_whole a0)), (2, .ref b1), (0, .long a0)]) hx hb dX6_digits_14 hl (by decide) rfl (fun ls hl => ?_)
  have loop16 : ∀ (n16 : Nat) (v16_5 : Int32) (v16_3 : Int64) (s16_0 : (Nat → Int64)) (H : Heap) (locs : List Loc) (hP : va_P D vwCl [(b1, .inl (cJ, 72, .inr (.inl s16_0)))] H) (hD : va_D A [(b1, .inl (cJ, 72, .inr (.inl s16_0)))]) (hS : va_S A s.heap H locs) (ls : Array Slot), lv_has ls 6 [(5, .int v16_5), (3, .long v16_3), (2, .ref b1)] → f_X6_digits_L16 a0 n16 v16_5 v16_3 s16_0 = some res → W p l e (rmX6_digits) s m ([.long a0] : List Value).toArray below meth c H locs 1 72 (MQ below (va_Qr (fun v => v = res) (my_BA D vwCl (KT cC cI cJ) A (fun (v : Nat → Int64) a => [(a, .inl (cJ, 72, .inr (.inl v)))])) A) ([.long a0] : List Value).toArray s 1 72 A) (F0 m 16 ls []) := by
    intro n16
    induction n16 with
    | zero => intro v16_5 v16_3 s16_0 H locs hP hD hS ls hl hf; rw [f_X6_digits_L16] at hf; cases hf
    | succ n16 ih16 =>
      intro v16_5 v16_3 s16_0 H locs hP hD hS ls hl hf
      rw [f_X6_digits_L16] at hf
      refine lv_lload_n hx hb dX6_digits_16 rfl (lv_at hl 1 rfl) ?_
      refine lv_lconst (v := 0) hx hb dX6_digits_17 (by decide) ?_
      refine my_lc_le (tgt := 61) hx hb dX6_digits_18 dX6_digits_19 (by decide) (fun c2 => ?_) (fun c2 => ?_)
      · rw [if_neg c2] at hf
        refine lv_aload_n hx hb dX6_digits_61 rfl (lv_at hl 2 rfl) ?_
        have hP9 : va_P D vwCl [(b1, .inl (cJ, 72, .inr (.inl s16_0)))] _ := hP.sub [0] rfl
        have hD9 : va_D A [(b1, .inl (cJ, 72, .inr (.inl s16_0)))] := hD.sub [0] (by decide) rfl
        exact W.aret (v := .ref b1) (rt := .array .long) hx hb hr (Or.inr ⟨_, rfl⟩) (Or.inr ⟨_, rfl⟩) (fun t ht hW => ⟨⟨s16_0, b1, rfl, Option.some.inj hf, by rw [ht]; exact hP9, va_K.moved hW.alike hK, hD9⟩, hS.F ht⟩) hS.2.2 dX6_digits_62
      · rw [if_pos c2] at hf
        refine lv_lload_n hx hb dX6_digits_22 rfl (lv_at hl 1 rfl) ?_
        refine lv_ldc2 (v := 2) hx hb hown q2 dX6_digits_23 ?_
        refine lv_lrem hx hb dX6_digits_26 (by decide) ?_
        refine lv_lconst (v := 1) hx hb dX6_digits_27 (by decide) ?_
        refine my_lc_ne (tgt := 49) hx hb dX6_digits_28 dX6_digits_29 (by decide) (fun c3 => ?_) (fun c3 => ?_)
        · rw [if_neg c3] at hf
          refine lv_lload_n hx hb dX6_digits_49 rfl (lv_at hl 1 rfl) ?_
          refine lv_ldc2 (v := 2) hx hb hown q2 dX6_digits_50 ?_
          refine lv_ldiv hx hb dX6_digits_53 (by decide) ?_
          refine lv_lstore_n (lv' := [(3, .long (v16_3 / 2)), (5, .int v16_5), (2, .ref b1)]) hx hb dX6_digits_54 rfl hl (by decide) rfl (fun ls hl => ?_)
          refine lv_iinc (v := (v16_5 + 1)) (lv' := [(5, .int (v16_5 + 1)), (3, .long (v16_3 / 2)), (2, .ref b1)]) hx hb dX6_digits_55 hl (k := 1) rfl rfl (by decide) rfl (fun ls hl => ?_)
          refine lv_goto (tgt := 16) hx hb dX6_digits_58 (by decide) ?_
          exact ih16 (v16_5 + 1) (v16_3 / 2) s16_0 _ _ hP hD hS _ (lv_sub hl [0, 1, 2] rfl) hf
        · rw [if_pos c3] at hf
          refine lv_aload_n hx hb dX6_digits_32 rfl (lv_at hl 2 rfl) ?_
          refine lv_iload hx hb dX6_digits_33 (lv_at hl 0 rfl) ?_
          refine lv_bipush (v := 30) hx hb dX6_digits_35 (by decide) ?_
          refine lv_idiv hx hb dX6_digits_37 (by decide) ?_
          refine lv_dup2_11 hx hb dX6_digits_38 rfl rfl ?_
          obtain ⟨g4, hf⟩ := og_e hf
          refine va_lald hx hb hK hP 0 2 rfl rfl g4 dX6_digits_39 ?_
          refine lv_lconst (v := 1) hx hb dX6_digits_40 (by decide) ?_
          refine lv_iload hx hb dX6_digits_41 (lv_at hl 0 rfl) ?_
          refine lv_bipush (v := 30) hx hb dX6_digits_43 (by decide) ?_
          refine lv_irem hx hb dX6_digits_45 (by decide) ?_
          refine lv_lshl (v := (jshl 1 (v16_5 - v16_5 / 30 * 30))) hx hb dX6_digits_46 rfl ?_
          refine lv_ladd hx hb dX6_digits_47 ?_
          obtain ⟨g5, hf⟩ := og_e hf
          refine va_last hx hb hK hP hD hS 0 2 rfl rfl g5 dX6_digits_48 (fun H locs hP hD hS => ?_)
          have hP : va_P D vwCl [(b1, .inl (cJ, 72, .inr (.inl (vp_updL s16_0 (v16_5 / 30).toNatClampNeg ((s16_0 (v16_5 / 30).toNatClampNeg) + (jshl 1 (v16_5 - v16_5 / 30 * 30)))))))] H := hP
          have hD : va_D A [(b1, .inl (cJ, 72, .inr (.inl (vp_updL s16_0 (v16_5 / 30).toNatClampNeg ((s16_0 (v16_5 / 30).toNatClampNeg) + (jshl 1 (v16_5 - v16_5 / 30 * 30)))))))] := hD
          refine lv_lload_n hx hb dX6_digits_49 rfl (lv_at hl 1 rfl) ?_
          refine lv_ldc2 (v := 2) hx hb hown q2 dX6_digits_50 ?_
          refine lv_ldiv hx hb dX6_digits_53 (by decide) ?_
          refine lv_lstore_n (lv' := [(3, .long (v16_3 / 2)), (5, .int v16_5), (2, .ref b1)]) hx hb dX6_digits_54 rfl hl (by decide) rfl (fun ls hl => ?_)
          refine lv_iinc (v := (v16_5 + 1)) (lv' := [(5, .int (v16_5 + 1)), (3, .long (v16_3 / 2)), (2, .ref b1)]) hx hb dX6_digits_55 hl (k := 1) rfl rfl (by decide) rfl (fun ls hl => ?_)
          refine lv_goto (tgt := 16) hx hb dX6_digits_58 (by decide) ?_
          exact ih16 (v16_5 + 1) (v16_3 / 2) (vp_updL s16_0 (v16_5 / 30).toNatClampNeg ((s16_0 (v16_5 / 30).toNatClampNeg) + (jshl 1 (v16_5 - v16_5 / 30 * 30)))) _ _ hP hD hS _ (lv_sub hl [0, 1, 2] rfl) hf
  exact loop16 100 (f_X6_shift a0) (f_X6_whole a0) (fun _ => 0) _ _ hP hD hS _ (lv_sub hl [0, 1, 2] rfl) hf

set_option maxHeartbeats 4000000 in
set_option maxRecDepth 100000 in
theorem m_X6_sum (l : Launch) (D : va_G) (cC cI cJ : ClassId) (p0 : Nat) (p1 : Nat) (sz : Nat) (a0 : Nat → Int64) (a1 : Nat → Int64) (a2 : Int32) (res : Nat → Int64) (hf : f_X6_sum a0 a1 a2 = some res) : Met l yX6_sum wsX6_sum rmX6_sum (my_PcM D vwCl (KT cC cI cJ) sz [(p0, .inl (cJ, 72, .inr (.inl a0))), (p1, .inl (cJ, 72, .inr (.inl a1)))] [.ref p0, .ref p1, .int a2]) (va_Qr (fun v => v = res) (my_BA D vwCl (KT cC cI cJ) (va_A [(p0, .inl (cJ, 72, .inr (.inl a0))), (p1, .inl (cJ, 72, .inr (.inl a1)))] sz) (fun (v : Nat → Int64) a => [(p0, .inl (cJ, 72, .inr (.inl a0))), (p1, .inl (cJ, 72, .inr (.inl a1))), (a, .inl (cJ, 72, .inr (.inl v)))])) (va_A [(p0, .inl (cJ, 72, .inr (.inl a0))), (p1, .inl (cJ, 72, .inr (.inl a1)))] sz)) 1 72 (va_A [(p0, .inl (cJ, 72, .inr (.inl a0))), (p1, .inl (cJ, 72, .inr (.inl a1)))] sz) := by
  refine Met.ofW (cc := cX6_sum) (maxL := 9) (ret := (some (.array .long))) (by decide) rfl ?_
  intro p e s m args below meth c s₁ B hml hv
  obtain ⟨rfl, hsz, hP, hK, hD0⟩ := hv
  have hx := B.exec
  have hb := B.bytes
  have hr := B.returns
  have hts : ∀ w ∈ wsX6_sum, w.before ([.ref p0, .ref p1, .int a2] : List Value).toArray s = true := atoms_spec (ws := wsX6_sum) B.pre
  have hown : s.vm.findClass RX6 = some m.cls := findClass_of_methodNamed B.named
  have hlk : meth.locks = false := B.notSynchronized
  subst hsz
  have hD := hD0.self (sz := s.heap.size)
  generalize hAe : va_A [(p0, .inl (cJ, 72, .inr (.inl a0))), (p1, .inl (cJ, 72, .inr (.inl a1)))] s.heap.size = A at hD ⊢
  have hA : ∀ q : Nat, s.heap.size ≤ q → A q := fun q h => by rw [← hAe]; exact Or.inr h
  have hS : va_S A s.heap s.heap [] := va_S.rf
  have q1 := hts (.arrayClass .long) (by decide +kernel)
  have hl := lv_entry ([.ref p0, .ref p1, .int a2]) (n := 9) (Nat.le_of_ble_eq_true rfl)
  rw [lg_entry_eq]
  generalize (lg_sl ([.ref p0, .ref p1, .int a2]) ++ List.replicate (9 - (lg_sl ([.ref p0, .ref p1, .int a2])).length) Slot.unset).toArray = ls at hl ⊢
  have hl : lv_has ls 9 [(0, .ref p0), (1, .ref p1), (2, .int a2)] := hl
  unfold f_X6_sum at hf
  refine lv_bipush (v := 72) hx hb dX6_sum_0 (by decide) ?_
  refine my_newaJ hx hb q1 hK (t0 := 2) rfl hP hD hS hA (N := 72) (by decide) rfl (by decide) (Nat.le_of_ble_eq_true rfl) (Nat.le_of_ble_eq_true rfl) dX6_sum_2 (fun b1 H hP hD hS => ?_)
  have hP : va_P D vwCl [(p0, .inl (cJ, 72, .inr (.inl a0))), (p1, .inl (cJ, 72, .inr (.inl a1))), (b1, .inl (cJ, 72, .inr (.inl (fun _ => 0))))] H := hP
  have hD : va_D A [(p0, .inl (cJ, 72, .inr (.inl a0))), (p1, .inl (cJ, 72, .inr (.inl a1))), (b1, .inl (cJ, 72, .inr (.inl (fun _ => 0))))] := hD
  refine lv_astore_n (lv' := [(3, .ref b1), (0, .ref p0), (1, .ref p1), (2, .int a2)]) hx hb dX6_sum_4 rfl hl (by decide) rfl (fun ls hl => ?_)
  refine lv_lconst (v := 0) hx hb dX6_sum_5 (by decide) ?_
  refine lv_lstore (lv' := [(4, .long 0), (3, .ref b1), (0, .ref p0), (1, .ref p1), (2, .int a2)]) hx hb dX6_sum_6 hl (by decide) rfl (fun ls hl => ?_)
  refine lv_iconst (v := 0) hx hb dX6_sum_8 (by decide) ?_
  refine lv_istore (lv' := [(6, .int 0), (4, .long 0), (3, .ref b1), (0, .ref p0), (1, .ref p1), (2, .int a2)]) hx hb dX6_sum_9 hl (by decide) rfl (fun ls hl => ?_)
  have loop11 : ∀ (n11 : Nat) (v11_6 : Int32) (v11_4 : Int64) (s11_2 : (Nat → Int64)) (H : Heap) (locs : List Loc) (hP : va_P D vwCl [(p0, .inl (cJ, 72, .inr (.inl a0))), (p1, .inl (cJ, 72, .inr (.inl a1))), (b1, .inl (cJ, 72, .inr (.inl s11_2)))] H) (hD : va_D A [(p0, .inl (cJ, 72, .inr (.inl a0))), (p1, .inl (cJ, 72, .inr (.inl a1))), (b1, .inl (cJ, 72, .inr (.inl s11_2)))]) (hS : va_S A s.heap H locs) (ls : Array Slot), lv_has ls 9 [(6, .int v11_6), (4, .long v11_4), (3, .ref b1), (0, .ref p0), (1, .ref p1), (2, .int a2)] → f_X6_sum_L11 a0 a1 a2 n11 v11_6 v11_4 s11_2 = some res → W p l e (rmX6_sum) s m ([.ref p0, .ref p1, .int a2] : List Value).toArray below meth c H locs 1 72 (MQ below (va_Qr (fun v => v = res) (my_BA D vwCl (KT cC cI cJ) A (fun (v : Nat → Int64) a => [(p0, .inl (cJ, 72, .inr (.inl a0))), (p1, .inl (cJ, 72, .inr (.inl a1))), (a, .inl (cJ, 72, .inr (.inl v)))])) A) ([.ref p0, .ref p1, .int a2] : List Value).toArray s 1 72 A) (F0 m 11 ls []) := by
    intro n11
    induction n11 with
    | zero => intro v11_6 v11_4 s11_2 H locs hP hD hS ls hl hf; rw [f_X6_sum_L11] at hf; cases hf
    | succ n11 ih11 =>
      intro v11_6 v11_4 s11_2 H locs hP hD hS ls hl hf
      rw [f_X6_sum_L11] at hf
      refine lv_iload hx hb dX6_sum_11 (lv_at hl 0 rfl) ?_
      refine lv_bipush (v := 72) hx hb dX6_sum_13 (by decide) ?_
      refine my_ic_ge (tgt := 60) hx hb dX6_sum_15 (by decide) (fun c2 => ?_) (fun c2 => ?_)
      · rw [if_neg c2] at hf
        refine lv_aload_n hx hb dX6_sum_60 rfl (lv_at hl 2 rfl) ?_
        have hP9 : va_P D vwCl [(p0, .inl (cJ, 72, .inr (.inl a0))), (p1, .inl (cJ, 72, .inr (.inl a1))), (b1, .inl (cJ, 72, .inr (.inl s11_2)))] _ := hP.sub [0, 1, 2] rfl
        have hD9 : va_D A [(p0, .inl (cJ, 72, .inr (.inl a0))), (p1, .inl (cJ, 72, .inr (.inl a1))), (b1, .inl (cJ, 72, .inr (.inl s11_2)))] := hD.sub [0, 1, 2] (by decide) rfl
        exact W.aret (v := .ref b1) (rt := .array .long) hx hb hr (Or.inr ⟨_, rfl⟩) (Or.inr ⟨_, rfl⟩) (fun t ht hW => ⟨⟨s11_2, b1, rfl, Option.some.inj hf, by rw [ht]; exact hP9, va_K.moved hW.alike hK, hD9⟩, hS.F ht⟩) hS.2.2 dX6_sum_61
      · rw [if_pos c2] at hf
        refine lv_aload_n hx hb dX6_sum_18 rfl (lv_at hl 3 rfl) ?_
        refine lv_iload hx hb dX6_sum_19 (lv_at hl 0 rfl) ?_
        obtain ⟨g3, hf⟩ := og_e hf
        refine va_lald hx hb hK hP 0 2 rfl rfl g3 dX6_sum_21 ?_
        refine lv_iload_n hx hb dX6_sum_22 rfl (lv_at hl 5 rfl) ?_
        refine lv_i2l (v := (a2.toInt64)) hx hb dX6_sum_23 rfl ?_
        refine lv_aload_n hx hb dX6_sum_24 rfl (lv_at hl 4 rfl) ?_
        refine lv_iload hx hb dX6_sum_25 (lv_at hl 0 rfl) ?_
        obtain ⟨g4, hf⟩ := og_e hf
        refine va_lald hx hb hK hP 1 2 rfl rfl g4 dX6_sum_27 ?_
        refine lv_lmul hx hb dX6_sum_28 ?_
        refine lv_ladd hx hb dX6_sum_29 ?_
        refine lv_lload hx hb dX6_sum_30 (lv_at hl 1 rfl) ?_
        refine lv_ladd hx hb dX6_sum_32 ?_
        refine lv_lstore (lv' := [(7, .long (((a0 v11_6.toNatClampNeg) + ((a2.toInt64) * (a1 v11_6.toNatClampNeg))) + v11_4)), (6, .int v11_6), (4, .long v11_4), (3, .ref b1), (0, .ref p0), (1, .ref p1), (2, .int a2)]) hx hb dX6_sum_33 hl (by decide) rfl (fun ls hl => ?_)
        refine lv_lload hx hb dX6_sum_35 (lv_at hl 0 rfl) ?_
        refine lv_bipush (v := 30) hx hb dX6_sum_37 (by decide) ?_
        refine lv_lshr (v := (jshr (((a0 v11_6.toNatClampNeg) + ((a2.toInt64) * (a1 v11_6.toNatClampNeg))) + v11_4) 30)) hx hb dX6_sum_39 rfl ?_
        refine lv_lstore (lv' := [(4, .long (jshr (((a0 v11_6.toNatClampNeg) + ((a2.toInt64) * (a1 v11_6.toNatClampNeg))) + v11_4) 30)), (7, .long (((a0 v11_6.toNatClampNeg) + ((a2.toInt64) * (a1 v11_6.toNatClampNeg))) + v11_4)), (6, .int v11_6), (3, .ref b1), (0, .ref p0), (1, .ref p1), (2, .int a2)]) hx hb dX6_sum_40 hl (by decide) rfl (fun ls hl => ?_)
        refine lv_aload_n hx hb dX6_sum_42 rfl (lv_at hl 3 rfl) ?_
        refine lv_iload hx hb dX6_sum_43 (lv_at hl 2 rfl) ?_
        refine lv_lload hx hb dX6_sum_45 (lv_at hl 1 rfl) ?_
        refine lv_lload hx hb dX6_sum_47 (lv_at hl 0 rfl) ?_
        refine lv_bipush (v := 30) hx hb dX6_sum_49 (by decide) ?_
        refine lv_lshl (v := (jshl (jshr (((a0 v11_6.toNatClampNeg) + ((a2.toInt64) * (a1 v11_6.toNatClampNeg))) + v11_4) 30) 30)) hx hb dX6_sum_51 rfl ?_
        refine lv_lsub hx hb dX6_sum_52 ?_
        obtain ⟨g5, hf⟩ := og_e hf
        refine va_last hx hb hK hP hD hS 2 2 rfl rfl g5 dX6_sum_53 (fun H locs hP hD hS => ?_)
        have hP : va_P D vwCl [(p0, .inl (cJ, 72, .inr (.inl a0))), (p1, .inl (cJ, 72, .inr (.inl a1))), (b1, .inl (cJ, 72, .inr (.inl (vp_updL s11_2 v11_6.toNatClampNeg ((((a0 v11_6.toNatClampNeg) + ((a2.toInt64) * (a1 v11_6.toNatClampNeg))) + v11_4) - (jshl (jshr (((a0 v11_6.toNatClampNeg) + ((a2.toInt64) * (a1 v11_6.toNatClampNeg))) + v11_4) 30) 30))))))] H := hP
        have hD : va_D A [(p0, .inl (cJ, 72, .inr (.inl a0))), (p1, .inl (cJ, 72, .inr (.inl a1))), (b1, .inl (cJ, 72, .inr (.inl (vp_updL s11_2 v11_6.toNatClampNeg ((((a0 v11_6.toNatClampNeg) + ((a2.toInt64) * (a1 v11_6.toNatClampNeg))) + v11_4) - (jshl (jshr (((a0 v11_6.toNatClampNeg) + ((a2.toInt64) * (a1 v11_6.toNatClampNeg))) + v11_4) 30) 30))))))] := hD
        refine lv_iinc (v := (v11_6 + 1)) (lv' := [(6, .int (v11_6 + 1)), (4, .long (jshr (((a0 v11_6.toNatClampNeg) + ((a2.toInt64) * (a1 v11_6.toNatClampNeg))) + v11_4) 30)), (7, .long (((a0 v11_6.toNatClampNeg) + ((a2.toInt64) * (a1 v11_6.toNatClampNeg))) + v11_4)), (3, .ref b1), (0, .ref p0), (1, .ref p1), (2, .int a2)]) hx hb dX6_sum_54 hl (k := 2) rfl rfl (by decide) rfl (fun ls hl => ?_)
        refine lv_goto (tgt := 11) hx hb dX6_sum_57 (by decide) ?_
        exact ih11 (v11_6 + 1) (jshr (((a0 v11_6.toNatClampNeg) + ((a2.toInt64) * (a1 v11_6.toNatClampNeg))) + v11_4) 30) (vp_updL s11_2 v11_6.toNatClampNeg ((((a0 v11_6.toNatClampNeg) + ((a2.toInt64) * (a1 v11_6.toNatClampNeg))) + v11_4) - (jshl (jshr (((a0 v11_6.toNatClampNeg) + ((a2.toInt64) * (a1 v11_6.toNatClampNeg))) + v11_4) 30) 30))) _ _ hP hD hS _ (lv_sub hl [0, 1, 3, 4, 5, 6] rfl) hf
  exact loop11 100 0 0 (fun _ => 0) _ _ hP hD hS _ (lv_sub hl [0, 1, 2, 3, 4, 5] rfl) hf

set_option maxHeartbeats 4000000 in
set_option maxRecDepth 100000 in
theorem m_X6_far (l : Launch) (D : va_G) (cC cI cJ : ClassId) (sz : Nat) (a0 : Int64) (a1 : Int64) (res : Nat → Int64) (hf : f_X6_far a0 a1 = some res) : Met l yX6_far wsX6_far rmX6_far (my_PcM D vwCl (KT cC cI cJ) sz ([] : va_W) [.long a0, .long a1]) (va_Qr (fun v => v = res) (my_BA D vwCl (KT cC cI cJ) (va_A ([] : va_W) sz) (fun (v : Nat → Int64) a => [(a, .inl (cJ, 72, .inr (.inl v)))])) (va_A ([] : va_W) sz)) 3 216 (va_A ([] : va_W) sz) := by
  refine Met.ofW (cc := cX6_far) (maxL := 6) (ret := (some (.array .long))) (by decide) rfl ?_
  intro p e s m args below meth c s₁ B hml hv
  obtain ⟨rfl, hsz, hP, hK, hD0⟩ := hv
  have hx := B.exec
  have hb := B.bytes
  have hr := B.returns
  have hts : ∀ w ∈ wsX6_far, w.before ([.long a0, .long a1] : List Value).toArray s = true := atoms_spec (ws := wsX6_far) B.pre
  have hown : s.vm.findClass RX6 = some m.cls := findClass_of_methodNamed B.named
  have hlk : meth.locks = false := B.notSynchronized
  subst hsz
  have hD := hD0.self (sz := s.heap.size)
  generalize hAe : va_A ([] : va_W) s.heap.size = A at hD ⊢
  have hA : ∀ q : Nat, s.heap.size ≤ q → A q := fun q h => by rw [← hAe]; exact Or.inr h
  have hS : va_S A s.heap s.heap [] := va_S.rf
  have hl := lv_entry ([.long a0, .long a1]) (n := 6) (Nat.le_of_ble_eq_true rfl)
  rw [lg_entry_eq]
  generalize (lg_sl ([.long a0, .long a1]) ++ List.replicate (6 - (lg_sl ([.long a0, .long a1])).length) Slot.unset).toArray = ls at hl ⊢
  have hl : lv_has ls 6 [(0, .long a0), (2, .long a1)] := hl
  unfold f_X6_far at hf
  refine lv_lload_n hx hb dX6_far_0 rfl (lv_at hl 0 rfl) ?_
  refine my_callPl (As := [.long a0]) (n := 1) (rest := []) ⟨hx, hb, hml, hown, hts⟩ (m_X6_size l a0 _ rfl) gX6_far_X6_size rfl ⟨rfl, rfl⟩ (by decide +kernel) ⟨Nat.le_of_ble_eq_true rfl, Nat.le_of_ble_eq_true rfl⟩ ⟨Nat.le_of_ble_eq_true rfl, Nat.le_of_ble_eq_true rfl⟩ hl.1 rfl rfl (Nat.le_of_ble_eq_true rfl) dX6_far_1 ?_
  obtain ⟨z1, ez1, hf⟩ := ob_e hf
  refine my_callA (As := [.long (f_X6_size a0)]) (n := 1) (rest := []) (wc := []) (wr := []) ⟨hx, hb, hml, hown, hts⟩ hK hP hD hS hA [] [] rfl rfl (by decide) (by decide) (by decide) (m_X6_digits l D cC cI cJ  s.heap.size (f_X6_size a0) _ ez1) gX6_far_X6_digits rfl ⟨rfl, rfl⟩ (by decide +kernel) ⟨Nat.le_of_ble_eq_true rfl, Nat.le_of_ble_eq_true rfl⟩ ⟨Nat.le_of_ble_eq_true rfl, Nat.le_of_ble_eq_true rfl⟩ hl.1 rfl rfl (Nat.le_of_ble_eq_true rfl) dX6_far_4 (fun u9 b2 H locs hw hP hD hS => ?_)
  obtain rfl := hw.symm
  have hP : va_P D vwCl [(b2, .inl (cJ, 72, .inr (.inl z1)))] H := hP
  have hD : va_D A [(b2, .inl (cJ, 72, .inr (.inl z1)))] := hD
  refine lv_astore (lv' := [(4, .ref b2), (0, .long a0), (2, .long a1)]) hx hb dX6_far_7 hl (by decide) rfl (fun ls hl => ?_)
  refine lv_lload_n hx hb dX6_far_9 rfl (lv_at hl 2 rfl) ?_
  refine my_callPl (As := [.long a1]) (n := 1) (rest := []) ⟨hx, hb, hml, hown, hts⟩ (m_X6_size l a1 _ rfl) gX6_far_X6_size rfl ⟨rfl, rfl⟩ (by decide +kernel) ⟨Nat.le_of_ble_eq_true rfl, Nat.le_of_ble_eq_true rfl⟩ ⟨Nat.le_of_ble_eq_true rfl, Nat.le_of_ble_eq_true rfl⟩ hl.1 rfl rfl (Nat.le_of_ble_eq_true rfl) dX6_far_10 ?_
  obtain ⟨z3, ez3, hf⟩ := ob_e hf
  refine my_callA (As := [.long (f_X6_size a1)]) (n := 1) (rest := []) (wc := []) (wr := [(b2, .inl (cJ, 72, .inr (.inl z1)))]) ⟨hx, hb, hml, hown, hts⟩ hK hP hD hS hA [] [0] rfl rfl (by decide) (by decide) (by decide) (m_X6_digits l D cC cI cJ  H.size (f_X6_size a1) _ ez3) gX6_far_X6_digits rfl ⟨rfl, rfl⟩ (by decide +kernel) ⟨Nat.le_of_ble_eq_true rfl, Nat.le_of_ble_eq_true rfl⟩ ⟨Nat.le_of_ble_eq_true rfl, Nat.le_of_ble_eq_true rfl⟩ hl.1 rfl rfl (Nat.le_of_ble_eq_true rfl) dX6_far_13 (fun u9 b4 H locs hw hP hD hS => ?_)
  obtain rfl := hw.symm
  have hP : va_P D vwCl [(b2, .inl (cJ, 72, .inr (.inl z1))), (b4, .inl (cJ, 72, .inr (.inl z3)))] H := hP
  have hD : va_D A [(b2, .inl (cJ, 72, .inr (.inl z1))), (b4, .inl (cJ, 72, .inr (.inl z3)))] := hD
  refine lv_astore (lv' := [(5, .ref b4), (4, .ref b2), (0, .long a0), (2, .long a1)]) hx hb dX6_far_16 hl (by decide) rfl (fun ls hl => ?_)
  refine lv_lload_n hx hb dX6_far_18 rfl (lv_at hl 2 rfl) ?_
  refine lv_lconst (v := 0) hx hb dX6_far_19 (by decide) ?_
  refine my_lc_lt (tgt := 28) hx hb dX6_far_20 dX6_far_21 (by decide) (fun c5 => ?_) (fun c5 => ?_)
  · rw [if_pos c5] at hf
    refine lv_iconst (v := 0) hx hb dX6_far_28 (by decide) ?_
    refine lv_lload_n hx hb dX6_far_29 rfl (lv_at hl 3 rfl) ?_
    refine lv_lconst (v := 0) hx hb dX6_far_30 (by decide) ?_
    refine my_lc_lt (tgt := 39) hx hb dX6_far_31 dX6_far_32 (by decide) (fun c6 => ?_) (fun c6 => ?_)
    · rw [if_pos c6] at hf
      refine lv_iconst (v := 0) hx hb dX6_far_39 (by decide) ?_
      refine my_ic_eq (tgt := 52) hx hb dX6_far_40 (by decide) (fun _ => ?_) (fun h9 => absurd h9 (by decide))
      refine lv_lload_n hx hb dX6_far_52 rfl (lv_at hl 2 rfl) ?_
      refine my_callPl (As := [.long a0]) (n := 1) (rest := []) ⟨hx, hb, hml, hown, hts⟩ (m_X6_size l a0 _ rfl) gX6_far_X6_size rfl ⟨rfl, rfl⟩ (by decide +kernel) ⟨Nat.le_of_ble_eq_true rfl, Nat.le_of_ble_eq_true rfl⟩ ⟨Nat.le_of_ble_eq_true rfl, Nat.le_of_ble_eq_true rfl⟩ hl.1 rfl rfl (Nat.le_of_ble_eq_true rfl) dX6_far_53 ?_
      refine lv_lload_n hx hb dX6_far_56 rfl (lv_at hl 3 rfl) ?_
      refine my_callPl (As := [.long a1]) (n := 1) (rest := [.long (f_X6_size a0)]) ⟨hx, hb, hml, hown, hts⟩ (m_X6_size l a1 _ rfl) gX6_far_X6_size rfl ⟨rfl, rfl⟩ (by decide +kernel) ⟨Nat.le_of_ble_eq_true rfl, Nat.le_of_ble_eq_true rfl⟩ ⟨Nat.le_of_ble_eq_true rfl, Nat.le_of_ble_eq_true rfl⟩ hl.1 rfl rfl (Nat.le_of_ble_eq_true rfl) dX6_far_57 ?_
      refine my_lc_lt (tgt := 75) hx hb dX6_far_60 dX6_far_61 (by decide) (fun c7 => ?_) (fun c7 => ?_)
      · rw [if_pos c7] at hf
        refine lv_aload hx hb dX6_far_75 (lv_at hl 0 rfl) ?_
        refine lv_aload hx hb dX6_far_77 (lv_at hl 1 rfl) ?_
        refine lv_iconst (v := (-1)) hx hb dX6_far_79 (by decide) ?_
        obtain ⟨z8, ez8, hf⟩ := ob_e hf
        refine my_callA (As := [.ref b4, .ref b2, .int (-1)]) (n := 3) (rest := []) (wc := [(b4, .inl (cJ, 72, .inr (.inl z3))), (b2, .inl (cJ, 72, .inr (.inl z1)))]) (wr := []) ⟨hx, hb, hml, hown, hts⟩ hK hP hD hS hA [1, 0] [] rfl rfl (by decide) (by decide) (by decide) (m_X6_sum l D cC cI cJ b4 b2 H.size z3 z1 (-1) _ ez8) gX6_far_X6_sum rfl ⟨rfl, rfl⟩ (by decide +kernel) ⟨Nat.le_of_ble_eq_true rfl, Nat.le_of_ble_eq_true rfl⟩ ⟨Nat.le_of_ble_eq_true rfl, Nat.le_of_ble_eq_true rfl⟩ hl.1 rfl rfl (Nat.le_of_ble_eq_true rfl) dX6_far_80 (fun u9 b9 H locs hw hP hD hS => ?_)
        obtain rfl := hw.symm
        have hP : va_P D vwCl [(b4, .inl (cJ, 72, .inr (.inl z3))), (b2, .inl (cJ, 72, .inr (.inl z1))), (b9, .inl (cJ, 72, .inr (.inl z8)))] H := hP
        have hD : va_D A [(b4, .inl (cJ, 72, .inr (.inl z3))), (b2, .inl (cJ, 72, .inr (.inl z1))), (b9, .inl (cJ, 72, .inr (.inl z8)))] := hD
        have hP9 : va_P D vwCl [(b9, .inl (cJ, 72, .inr (.inl z8)))] _ := hP.sub [2] rfl
        have hD9 : va_D A [(b9, .inl (cJ, 72, .inr (.inl z8)))] := hD.sub [2] (by decide) rfl
        exact W.aret (v := .ref b9) (rt := .array .long) hx hb hr (Or.inr ⟨_, rfl⟩) (Or.inr ⟨_, rfl⟩) (fun t ht hW => ⟨⟨z8, b9, rfl, Option.some.inj hf, by rw [ht]; exact hP9, va_K.moved hW.alike hK, hD9⟩, hS.F ht⟩) hS.2.2 dX6_far_83
      · rw [if_neg c7] at hf
        refine lv_aload hx hb dX6_far_64 (lv_at hl 1 rfl) ?_
        refine lv_aload hx hb dX6_far_66 (lv_at hl 0 rfl) ?_
        refine lv_iconst (v := (-1)) hx hb dX6_far_68 (by decide) ?_
        obtain ⟨z10, ez10, hf⟩ := ob_e hf
        refine my_callA (As := [.ref b2, .ref b4, .int (-1)]) (n := 3) (rest := []) (wc := [(b2, .inl (cJ, 72, .inr (.inl z1))), (b4, .inl (cJ, 72, .inr (.inl z3)))]) (wr := []) ⟨hx, hb, hml, hown, hts⟩ hK hP hD hS hA [0, 1] [] rfl rfl (by decide) (by decide) (by decide) (m_X6_sum l D cC cI cJ b2 b4 H.size z1 z3 (-1) _ ez10) gX6_far_X6_sum rfl ⟨rfl, rfl⟩ (by decide +kernel) ⟨Nat.le_of_ble_eq_true rfl, Nat.le_of_ble_eq_true rfl⟩ ⟨Nat.le_of_ble_eq_true rfl, Nat.le_of_ble_eq_true rfl⟩ hl.1 rfl rfl (Nat.le_of_ble_eq_true rfl) dX6_far_69 (fun u9 b11 H locs hw hP hD hS => ?_)
        obtain rfl := hw.symm
        have hP : va_P D vwCl [(b2, .inl (cJ, 72, .inr (.inl z1))), (b4, .inl (cJ, 72, .inr (.inl z3))), (b11, .inl (cJ, 72, .inr (.inl z10)))] H := hP
        have hD : va_D A [(b2, .inl (cJ, 72, .inr (.inl z1))), (b4, .inl (cJ, 72, .inr (.inl z3))), (b11, .inl (cJ, 72, .inr (.inl z10)))] := hD
        refine lv_goto (tgt := 83) hx hb dX6_far_72 (by decide) ?_
        have hP9 : va_P D vwCl [(b11, .inl (cJ, 72, .inr (.inl z10)))] _ := hP.sub [2] rfl
        have hD9 : va_D A [(b11, .inl (cJ, 72, .inr (.inl z10)))] := hD.sub [2] (by decide) rfl
        exact W.aret (v := .ref b11) (rt := .array .long) hx hb hr (Or.inr ⟨_, rfl⟩) (Or.inr ⟨_, rfl⟩) (fun t ht hW => ⟨⟨z10, b11, rfl, Option.some.inj hf, by rw [ht]; exact hP9, va_K.moved hW.alike hK, hD9⟩, hS.F ht⟩) hS.2.2 dX6_far_83
    · rw [if_neg c6] at hf
      refine lv_iconst (v := 1) hx hb dX6_far_35 (by decide) ?_
      refine lv_goto (tgt := 40) hx hb dX6_far_36 (by decide) ?_
      refine my_ic_eq (tgt := 52) hx hb dX6_far_40 (by decide) (fun h9 => absurd h9 (by decide)) (fun _ => ?_)
      refine lv_aload hx hb dX6_far_43 (lv_at hl 1 rfl) ?_
      refine lv_aload hx hb dX6_far_45 (lv_at hl 0 rfl) ?_
      refine lv_iconst (v := 1) hx hb dX6_far_47 (by decide) ?_
      obtain ⟨z12, ez12, hf⟩ := ob_e hf
      refine my_callA (As := [.ref b2, .ref b4, .int 1]) (n := 3) (rest := []) (wc := [(b2, .inl (cJ, 72, .inr (.inl z1))), (b4, .inl (cJ, 72, .inr (.inl z3)))]) (wr := []) ⟨hx, hb, hml, hown, hts⟩ hK hP hD hS hA [0, 1] [] rfl rfl (by decide) (by decide) (by decide) (m_X6_sum l D cC cI cJ b2 b4 H.size z1 z3 1 _ ez12) gX6_far_X6_sum rfl ⟨rfl, rfl⟩ (by decide +kernel) ⟨Nat.le_of_ble_eq_true rfl, Nat.le_of_ble_eq_true rfl⟩ ⟨Nat.le_of_ble_eq_true rfl, Nat.le_of_ble_eq_true rfl⟩ hl.1 rfl rfl (Nat.le_of_ble_eq_true rfl) dX6_far_48 (fun u9 b13 H locs hw hP hD hS => ?_)
      obtain rfl := hw.symm
      have hP : va_P D vwCl [(b2, .inl (cJ, 72, .inr (.inl z1))), (b4, .inl (cJ, 72, .inr (.inl z3))), (b13, .inl (cJ, 72, .inr (.inl z12)))] H := hP
      have hD : va_D A [(b2, .inl (cJ, 72, .inr (.inl z1))), (b4, .inl (cJ, 72, .inr (.inl z3))), (b13, .inl (cJ, 72, .inr (.inl z12)))] := hD
      have hP9 : va_P D vwCl [(b13, .inl (cJ, 72, .inr (.inl z12)))] _ := hP.sub [2] rfl
      have hD9 : va_D A [(b13, .inl (cJ, 72, .inr (.inl z12)))] := hD.sub [2] (by decide) rfl
      exact W.aret (v := .ref b13) (rt := .array .long) hx hb hr (Or.inr ⟨_, rfl⟩) (Or.inr ⟨_, rfl⟩) (fun t ht hW => ⟨⟨z12, b13, rfl, Option.some.inj hf, by rw [ht]; exact hP9, va_K.moved hW.alike hK, hD9⟩, hS.F ht⟩) hS.2.2 dX6_far_51
  · rw [if_neg c5] at hf
    refine lv_iconst (v := 1) hx hb dX6_far_24 (by decide) ?_
    refine lv_goto (tgt := 29) hx hb dX6_far_25 (by decide) ?_
    refine lv_lload_n hx hb dX6_far_29 rfl (lv_at hl 3 rfl) ?_
    refine lv_lconst (v := 0) hx hb dX6_far_30 (by decide) ?_
    refine my_lc_lt (tgt := 39) hx hb dX6_far_31 dX6_far_32 (by decide) (fun c14 => ?_) (fun c14 => ?_)
    · rw [if_pos c14] at hf
      refine lv_iconst (v := 0) hx hb dX6_far_39 (by decide) ?_
      refine my_ic_eq (tgt := 52) hx hb dX6_far_40 (by decide) (fun h9 => absurd h9 (by decide)) (fun _ => ?_)
      refine lv_aload hx hb dX6_far_43 (lv_at hl 1 rfl) ?_
      refine lv_aload hx hb dX6_far_45 (lv_at hl 0 rfl) ?_
      refine lv_iconst (v := 1) hx hb dX6_far_47 (by decide) ?_
      obtain ⟨z15, ez15, hf⟩ := ob_e hf
      refine my_callA (As := [.ref b2, .ref b4, .int 1]) (n := 3) (rest := []) (wc := [(b2, .inl (cJ, 72, .inr (.inl z1))), (b4, .inl (cJ, 72, .inr (.inl z3)))]) (wr := []) ⟨hx, hb, hml, hown, hts⟩ hK hP hD hS hA [0, 1] [] rfl rfl (by decide) (by decide) (by decide) (m_X6_sum l D cC cI cJ b2 b4 H.size z1 z3 1 _ ez15) gX6_far_X6_sum rfl ⟨rfl, rfl⟩ (by decide +kernel) ⟨Nat.le_of_ble_eq_true rfl, Nat.le_of_ble_eq_true rfl⟩ ⟨Nat.le_of_ble_eq_true rfl, Nat.le_of_ble_eq_true rfl⟩ hl.1 rfl rfl (Nat.le_of_ble_eq_true rfl) dX6_far_48 (fun u9 b16 H locs hw hP hD hS => ?_)
      obtain rfl := hw.symm
      have hP : va_P D vwCl [(b2, .inl (cJ, 72, .inr (.inl z1))), (b4, .inl (cJ, 72, .inr (.inl z3))), (b16, .inl (cJ, 72, .inr (.inl z15)))] H := hP
      have hD : va_D A [(b2, .inl (cJ, 72, .inr (.inl z1))), (b4, .inl (cJ, 72, .inr (.inl z3))), (b16, .inl (cJ, 72, .inr (.inl z15)))] := hD
      have hP9 : va_P D vwCl [(b16, .inl (cJ, 72, .inr (.inl z15)))] _ := hP.sub [2] rfl
      have hD9 : va_D A [(b16, .inl (cJ, 72, .inr (.inl z15)))] := hD.sub [2] (by decide) rfl
      exact W.aret (v := .ref b16) (rt := .array .long) hx hb hr (Or.inr ⟨_, rfl⟩) (Or.inr ⟨_, rfl⟩) (fun t ht hW => ⟨⟨z15, b16, rfl, Option.some.inj hf, by rw [ht]; exact hP9, va_K.moved hW.alike hK, hD9⟩, hS.F ht⟩) hS.2.2 dX6_far_51
    · rw [if_neg c14] at hf
      refine lv_iconst (v := 1) hx hb dX6_far_35 (by decide) ?_
      refine lv_goto (tgt := 40) hx hb dX6_far_36 (by decide) ?_
      refine my_ic_eq (tgt := 52) hx hb dX6_far_40 (by decide) (fun _ => ?_) (fun h9 => absurd h9 (by decide))
      refine lv_lload_n hx hb dX6_far_52 rfl (lv_at hl 2 rfl) ?_
      refine my_callPl (As := [.long a0]) (n := 1) (rest := []) ⟨hx, hb, hml, hown, hts⟩ (m_X6_size l a0 _ rfl) gX6_far_X6_size rfl ⟨rfl, rfl⟩ (by decide +kernel) ⟨Nat.le_of_ble_eq_true rfl, Nat.le_of_ble_eq_true rfl⟩ ⟨Nat.le_of_ble_eq_true rfl, Nat.le_of_ble_eq_true rfl⟩ hl.1 rfl rfl (Nat.le_of_ble_eq_true rfl) dX6_far_53 ?_
      refine lv_lload_n hx hb dX6_far_56 rfl (lv_at hl 3 rfl) ?_
      refine my_callPl (As := [.long a1]) (n := 1) (rest := [.long (f_X6_size a0)]) ⟨hx, hb, hml, hown, hts⟩ (m_X6_size l a1 _ rfl) gX6_far_X6_size rfl ⟨rfl, rfl⟩ (by decide +kernel) ⟨Nat.le_of_ble_eq_true rfl, Nat.le_of_ble_eq_true rfl⟩ ⟨Nat.le_of_ble_eq_true rfl, Nat.le_of_ble_eq_true rfl⟩ hl.1 rfl rfl (Nat.le_of_ble_eq_true rfl) dX6_far_57 ?_
      refine my_lc_lt (tgt := 75) hx hb dX6_far_60 dX6_far_61 (by decide) (fun c17 => ?_) (fun c17 => ?_)
      · rw [if_pos c17] at hf
        refine lv_aload hx hb dX6_far_75 (lv_at hl 0 rfl) ?_
        refine lv_aload hx hb dX6_far_77 (lv_at hl 1 rfl) ?_
        refine lv_iconst (v := (-1)) hx hb dX6_far_79 (by decide) ?_
        obtain ⟨z18, ez18, hf⟩ := ob_e hf
        refine my_callA (As := [.ref b4, .ref b2, .int (-1)]) (n := 3) (rest := []) (wc := [(b4, .inl (cJ, 72, .inr (.inl z3))), (b2, .inl (cJ, 72, .inr (.inl z1)))]) (wr := []) ⟨hx, hb, hml, hown, hts⟩ hK hP hD hS hA [1, 0] [] rfl rfl (by decide) (by decide) (by decide) (m_X6_sum l D cC cI cJ b4 b2 H.size z3 z1 (-1) _ ez18) gX6_far_X6_sum rfl ⟨rfl, rfl⟩ (by decide +kernel) ⟨Nat.le_of_ble_eq_true rfl, Nat.le_of_ble_eq_true rfl⟩ ⟨Nat.le_of_ble_eq_true rfl, Nat.le_of_ble_eq_true rfl⟩ hl.1 rfl rfl (Nat.le_of_ble_eq_true rfl) dX6_far_80 (fun u9 b19 H locs hw hP hD hS => ?_)
        obtain rfl := hw.symm
        have hP : va_P D vwCl [(b4, .inl (cJ, 72, .inr (.inl z3))), (b2, .inl (cJ, 72, .inr (.inl z1))), (b19, .inl (cJ, 72, .inr (.inl z18)))] H := hP
        have hD : va_D A [(b4, .inl (cJ, 72, .inr (.inl z3))), (b2, .inl (cJ, 72, .inr (.inl z1))), (b19, .inl (cJ, 72, .inr (.inl z18)))] := hD
        have hP9 : va_P D vwCl [(b19, .inl (cJ, 72, .inr (.inl z18)))] _ := hP.sub [2] rfl
        have hD9 : va_D A [(b19, .inl (cJ, 72, .inr (.inl z18)))] := hD.sub [2] (by decide) rfl
        exact W.aret (v := .ref b19) (rt := .array .long) hx hb hr (Or.inr ⟨_, rfl⟩) (Or.inr ⟨_, rfl⟩) (fun t ht hW => ⟨⟨z18, b19, rfl, Option.some.inj hf, by rw [ht]; exact hP9, va_K.moved hW.alike hK, hD9⟩, hS.F ht⟩) hS.2.2 dX6_far_83
      · rw [if_neg c17] at hf
        refine lv_aload hx hb dX6_far_64 (lv_at hl 1 rfl) ?_
        refine lv_aload hx hb dX6_far_66 (lv_at hl 0 rfl) ?_
        refine lv_iconst (v := (-1)) hx hb dX6_far_68 (by decide) ?_
        obtain ⟨z20, ez20, hf⟩ := ob_e hf
        refine my_callA (As := [.ref b2, .ref b4, .int (-1)]) (n := 3) (rest := []) (wc := [(b2, .inl (cJ, 72, .inr (.inl z1))), (b4, .inl (cJ, 72, .inr (.inl z3)))]) (wr := []) ⟨hx, hb, hml, hown, hts⟩ hK hP hD hS hA [0, 1] [] rfl rfl (by decide) (by decide) (by decide) (m_X6_sum l D cC cI cJ b2 b4 H.size z1 z3 (-1) _ ez20) gX6_far_X6_sum rfl ⟨rfl, rfl⟩ (by decide +kernel) ⟨Nat.le_of_ble_eq_true rfl, Nat.le_of_ble_eq_true rfl⟩ ⟨Nat.le_of_ble_eq_true rfl, Nat.le_of_ble_eq_true rfl⟩ hl.1 rfl rfl (Nat.le_of_ble_eq_true rfl) dX6_far_69 (fun u9 b21 H locs hw hP hD hS => ?_)
        obtain rfl := hw.symm
        have hP : va_P D vwCl [(b2, .inl (cJ, 72, .inr (.inl z1))), (b4, .inl (cJ, 72, .inr (.inl z3))), (b21, .inl (cJ, 72, .inr (.inl z20)))] H := hP
        have hD : va_D A [(b2, .inl (cJ, 72, .inr (.inl z1))), (b4, .inl (cJ, 72, .inr (.inl z3))), (b21, .inl (cJ, 72, .inr (.inl z20)))] := hD
        refine lv_goto (tgt := 83) hx hb dX6_far_72 (by decide) ?_
        have hP9 : va_P D vwCl [(b21, .inl (cJ, 72, .inr (.inl z20)))] _ := hP.sub [2] rfl
        have hD9 : va_D A [(b21, .inl (cJ, 72, .inr (.inl z20)))] := hD.sub [2] (by decide) rfl
        exact W.aret (v := .ref b21) (rt := .array .long) hx hb hr (Or.inr ⟨_, rfl⟩) (Or.inr ⟨_, rfl⟩) (fun t ht hW => ⟨⟨z20, b21, rfl, Option.some.inj hf, by rw [ht]; exact hP9, va_K.moved hW.alike hK, hD9⟩, hS.F ht⟩) hS.2.2 dX6_far_83
