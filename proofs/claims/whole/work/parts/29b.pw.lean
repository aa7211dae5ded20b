theorem sl_in2 {i : Nat} (h : i < 8) : ¬ (nI i < 0 ∨ 8 ≤ i) := fun k => by
  rcases k with k | k
  · exact nI_pos (by omega) k
  · omega
theorem ok_power {v : SH} {w : StM} (h : Rel v.1 w) (a1 a2 : Int32) : Ok id (f_L_power v a1 a2) (f_X6_power w a1 a2) := by
  have h0 : Rel v.1 (wt w 0) := Rel_t h 0
  rcases sl_c a1 with ⟨i1, hi1, rfl⟩ | ⟨e1, e2⟩
  rotate_left
  · exact Ok_e h 1 (by decide) 0 (by unfold f_L_power f_X5_power; rw [e1]; rfl) (by unfold f_X6_power; rw [lkz_f _ e2]; rfl)
  rcases sl_c a2 with ⟨i2, hi2, rfl⟩ | ⟨e1, e2⟩
  rotate_left
  · exact Ok_e h 1 (by decide) 0 (by unfold f_L_power f_X5_power; rw [chk_ok hi1, e1]; rfl) (by unfold f_X6_power; rw [lkz_g hi1 e2]; rfl)
  obtain ⟨z1, o1, p1, q1⟩ := h.1 i1 hi1
  have o1' : z1.2 ≤ 9218868437227405312 := o1
  have ms : f_X6_size (cC z1) = lN z1.2 := m_size z1.1 o1
  have kc := chp o1
  have kl := lkz_t (w := w) hi1 hi2 o1 q1
  by_cases c : z1.2 = 0 ∨ z1.2 = 9218868437227405312
  · rw [if_pos c] at kc kl
    have key : f_X5_power v.1 (nI i1) (nI i2) = some (.inl "java/lang/ArithmeticException") := by
      unfold f_X5_power
      rw [chk_ok hi1, xb_r, chk_ok hi2, xb_r, if_neg (sl_in hi1), sl_cl hi1, p1, kc, xb_l]
    exact Ok_e h 2 (by decide) 0 (by unfold f_L_power; rw [key, xh_l, if_neg (show ¬ "java/lang/ArithmeticException" = "java/lang/IndexOutOfBoundsException" by decide +kernel), if_pos rfl]) (by unfold f_X6_power; rw [kl]; rfl)
  · rw [if_neg c] at kc kl
    have t := (v_lead o1 (by omega)).1
    have t2 := v_pow2 o1 (by omega)
    obtain ⟨v', w', eA, eB, hR, ht⟩ := v_become h0 hi2 (z := pow2 z1) (ok_pow2 z1)
    have key : f_X5_power v.1 (nI i1) (nI i2) = some (.inr (f_X0_placeOf (cB (pow2 z1)), v')) := by
      unfold f_X5_power
      rw [chk_ok hi1, xb_r, chk_ok hi2, xb_r, if_neg (sl_in hi1), sl_cl hi1, p1, kc, xb_r, if_neg (sl_in2 hi1), t2.1, eA, obs]
    have kM : f_X6_power w (nI i1) (nI i2) = some (f_X0_placeOf (cB (pow2 z1)), w') := by
      have t4 := t2.2
      generalize f_X0_leadOf (cB z1) = X at t t4
      unfold f_X6_power
      rw [kl, obs, if_pos ff_P, if_neg (sl_in hi1), sl_cl hi1]
      show ((f_X6_leadOf (f_X6_size (w.1 i1))).bind fun r4 => ((f_X6_made 1 (r4 + 1074)).bind fun r5 => ((f_X6_becomes (wt w 0) (nI i2) r5).bind fun z6 => some z6))) = _
      rw [q1, ms, t, obs, t4, obs, eB, obs]
    refine Ok_r v.2 (f_X0_placeOf (cB (pow2 z1))) (f_X0_placeOf (cB (pow2 z1))) hR ht rfl ?_ kM
    unfold f_L_power
    rw [key, xh_r]
theorem ok_isWhole {v : SH} {w : StM} (h : Rel v.1 w) (a1 : Int32) : Ok b2l (f_L_isWhole v a1) (f_X6_isWhole w a1) := by
  have h0 : Rel v.1 (wt w 0) := Rel_t h 0
  rcases sl_c a1 with ⟨i1, hi1, rfl⟩ | ⟨e1, e2⟩
  rotate_left
  · exact Ok_e h 1 (by decide) false (by unfold f_L_isWhole f_X5_isWhole; rw [e1]; rfl) (by unfold f_X6_isWhole; rw [lk1_f e2]; rfl)
  obtain ⟨z1, o1, p1, q1⟩ := h.1 i1 hi1
  have e0 : f_X0_isZero (cB z1) = decide (z1.2 = 0) := x_isZero z1.1 o1
  have e1 : f_X0_hasNoEnd (cB z1) = decide (z1.2 = 9218868437227405312) := x_noEnd z1.1 o1
  have e2 : f_X6_size (cC z1) = lN z1.2 := m_size z1.1 o1
  have o1' : z1.2 ≤ 9218868437227405312 := o1
  have key : f_X5_isWhole v.1 (nI i1) = some (.inr (f_X0_hasNoFraction (cB z1))) := by
    unfold f_X5_isWhole
    rw [chk_ok hi1, xb_r, if_neg (sl_in hi1), sl_cl hi1, p1]
  have M : f_X6_isWhole w (nI i1) = (if lN z1.2 = 0 then some (true, wt w 0) else (if lN z1.2 = 9218868437227405312 then some (false, wt w 0) else ((f_X6_tailOf (lN z1.2)).bind fun r6 => (if r6 < 0 then some (false, wt w 0) else some (true, wt w 0))))) := by
    unfold f_X6_isWhole
    rw [lk1_t hi1, obs, if_pos ff_P, if_neg (sl_in hi1), sl_cl hi1]
    show (if f_X6_size (w.1 i1) = 0 then some (true, wt w 0) else (if f_X6_size (w.1 i1) = 9218868437227405312 then some (false, wt w 0) else ((f_X6_tailOf (f_X6_size (w.1 i1))).bind fun r6 => (if r6 < 0 then some (false, wt w 0) else some (true, wt w 0))))) = _
    rw [q1, e2]
  have fin : ∀ b : Bool, f_X0_hasNoFraction (cB z1) = b → f_X6_isWhole w (nI i1) = some (b, wt w 0) → Ok b2l (f_L_isWhole v (nI i1)) (f_X6_isWhole w (nI i1)) := by
    intro b hb hm
    rw [hb] at key
    refine Ok_r v.2 (b2l b) b h0 rfl rfl ?_ hm
    unfold f_L_isWhole
    rw [key, xh_r]
    cases b <;> rfl
  by_cases c0 : z1.2 = 0
  · rw [decide_eq_true c0] at e0
    refine fin true ?_ ?_
    · unfold f_X0_hasNoFraction
      rw [e0, if_neg (show ¬ true = false by decide)]
    · rw [M, if_pos (show lN z1.2 = 0 by rw [c0]; rfl)]
  · rw [decide_eq_false c0] at e0
    rw [if_neg (show ¬ lN z1.2 = 0 from fun k => c0 ((L_eq (b := 0) (by omega) (by omega)).mp k))] at M
    by_cases c1 : z1.2 = 9218868437227405312
    · rw [decide_eq_true c1] at e1
      refine fin false ?_ ?_
      · unfold f_X0_hasNoFraction
        rw [e0, if_pos ff_P, e1, if_neg (show ¬ true = false by decide)]
      · rw [M, if_pos (show lN z1.2 = 9218868437227405312 by rw [c1]; rfl)]
    · rw [decide_eq_false c1] at e1
      rw [if_neg (show ¬ lN z1.2 = 9218868437227405312 from fun k => c1 ((L_eq (b := 9218868437227405312) (by omega) (by omega)).mp k))] at M
      have t : f_X6_tailOf (lN z1.2) = some (f_X0_tailOf (cB z1)) := (xm_tail z1.1 (S := z1.2) (by omega) o1').1
      have hf : f_X0_hasNoFraction (cB z1) = if f_X0_tailOf (cB z1) < 0 then false else true := by
        unfold f_X0_hasNoFraction
        rw [e0, if_pos ff_P, e1, if_pos ff_P]
      generalize f_X0_tailOf (cB z1) = tl at hf t
      rw [t, obs] at M
      by_cases c2 : tl < 0
      · rw [if_pos c2] at hf M
        exact fin false hf M
      · rw [if_neg c2] at hf M
        exact fin true hf M
