set_option maxHeartbeats 1000000 in
theorem ok_power {v : SH} {w : StM} (h : Rel v.1 w) (a1 a2 : Int32) : Ok id (f_L_power v a1 a2) (f_X6_power w a1 a2) := by
  have h0 : Rel v.1 (wt w 0) := Rel_t h 0
  rcases sl_c a1 with ⟨i1, hi1, rfl⟩ | ⟨e1, e2⟩
  rotate_left
  · exact Ok_e h 1 (by decide) 0 (by simp only [f_L_power, f_X5_power, e1, obs, wtt, xb_r, xb_l, xh_r, xh_l, wp1, wp2, wp3, wp4, wp5, wp6, wp7, wpf, tf_F, ff_T, ft_F, ne_ai, ne_si, ne_sa, ne_ri, reduceIte, Bool.not_true, Bool.not_false]) (by simp only [f_X6_power, lkz_f _ e2, obs, wtt, xb_r, xb_l, xh_r, xh_l, wp1, wp2, wp3, wp4, wp5, wp6, wp7, wpf, tf_F, ff_T, ft_F, ne_ai, ne_si, ne_sa, ne_ri, reduceIte, Bool.not_true, Bool.not_false])
  rcases sl_c a2 with ⟨i2, hi2, rfl⟩ | ⟨e1, e2⟩
  rotate_left
  · exact Ok_e h 1 (by decide) 0 (by simp only [f_L_power, f_X5_power, chk_ok hi1, e1, obs, wtt, xb_r, xb_l, xh_r, xh_l, wp1, wp2, wp3, wp4, wp5, wp6, wp7, wpf, tf_F, ff_T, ft_F, ne_ai, ne_si, ne_sa, ne_ri, reduceIte, Bool.not_true, Bool.not_false]) (by simp only [f_X6_power, lkz_g hi1 e2, obs, wtt, xb_r, xb_l, xh_r, xh_l, wp1, wp2, wp3, wp4, wp5, wp6, wp7, wpf, tf_F, ff_T, ft_F, ne_ai, ne_si, ne_sa, ne_ri, reduceIte, Bool.not_true, Bool.not_false])
  obtain ⟨z1, o1, p1, q1⟩ := h.1 i1 hi1
  have o1' : z1.2 ≤ 9218868437227405312 := o1
  have ms : f_X6_size (cC z1) = lN z1.2 := m_size z1.1 o1
  have kc := chp o1
  have kl := lkz_t (w := w) hi1 hi2 o1 q1
  by_cases c : z1.2 = 0 ∨ z1.2 = 9218868437227405312
  · rw [if_pos c] at kc kl
    exact Ok_e h 2 (by decide) 0 (by simp only [f_L_power, f_X5_power, chk_ok hi1, chk_ok hi2, obs, wtt, xb_r, xb_l, xh_r, xh_l, wp1, wp2, wp3, wp4, wp5, wp6, wp7, wpf, tf_F, ff_T, ft_F, ne_ai, ne_si, ne_sa, ne_ri, reduceIte, Bool.not_true, Bool.not_false, sl_cl hi1, sl_F hi1, p1, kc]) (by simp only [f_X6_power, kl, obs, wtt, xb_r, xb_l, xh_r, xh_l, wp1, wp2, wp3, wp4, wp5, wp6, wp7, wpf, tf_F, ff_T, ft_F, ne_ai, ne_si, ne_sa, ne_ri, reduceIte, Bool.not_true, Bool.not_false])
  · rw [if_neg c] at kc kl
    have t := (v_lead o1 (by omega)).1
    have t2 := v_pow2 o1 (by omega)
    have t3 := t2.1
    obtain ⟨v', w', eA, eB, hR, ht⟩ := v_become h0 hi2 (z := pow2 z1) (ok_pow2 z1)
    refine Ok_r v.2 (f_X0_placeOf (cB (pow2 z1))) (f_X0_placeOf (cB (pow2 z1))) hR ht rfl ?_ ?_
    · simp only [f_L_power, f_X5_power, chk_ok hi1, chk_ok hi2, obs, wtt, xb_r, xb_l, xh_r, xh_l, wp1, wp2, wp3, wp4, wp5, wp6, wp7, wpf, tf_F, ff_T, ft_F, ne_ai, ne_si, ne_sa, ne_ri, reduceIte, Bool.not_true, Bool.not_false, sl_cl hi1, sl_F hi1, p1, kc, t3, eA]
    · have t4 := t2.2
      generalize f_X0_leadOf (cB z1) = X at t t4
      simp only [f_X6_power, kl, obs, wtt, xb_r, xb_l, xh_r, xh_l, wp1, wp2, wp3, wp4, wp5, wp6, wp7, wpf, tf_F, ff_T, ft_F, ne_ai, ne_si, ne_sa, ne_ri, reduceIte, Bool.not_true, Bool.not_false, sl_cl hi1, sl_F hi1, q1, ms, t, t4, eB]
