set_option maxHeartbeats 1000000 in
theorem ok_lead {v : SH} {w : StM} (h : Rel v.1 w) (a1 : Int32) : Ok Int32.toInt64 (f_L_lead v a1) (f_X6_lead w a1) := by
  have h0 : Rel v.1 (wt w 0) := Rel_t h 0
  rcases sl_c a1 with ⟨i1, hi1, rfl⟩ | ⟨e1, e2⟩
  rotate_left
  · exact Ok_e h 1 (by decide) 0 (by simp only [f_L_lead, f_X5_lead, e1, obs, wtt, xb_r, xb_l, xh_r, xh_l, wp1, wp2, wp3, wp4, wp5, wp6, wp7, wpf, tf_F, ff_T, ft_F, ne_ai, ne_si, ne_sa, ne_ri, reduceIte, Bool.not_true, Bool.not_false]) (by simp only [f_X6_lead, lkz_f _ e2, obs, wtt, xb_r, xb_l, xh_r, xh_l, wp1, wp2, wp3, wp4, wp5, wp6, wp7, wpf, tf_F, ff_T, ft_F, ne_ai, ne_si, ne_sa, ne_ri, reduceIte, Bool.not_true, Bool.not_false])
  obtain ⟨z1, o1, p1, q1⟩ := h.1 i1 hi1
  have o1' : z1.2 ≤ 9218868437227405312 := o1
  have ms : f_X6_size (cC z1) = lN z1.2 := m_size z1.1 o1
  have kc := chp o1
  have kl := lkz_t (w := w) hi1 hi1 o1 q1
  by_cases c : z1.2 = 0 ∨ z1.2 = 9218868437227405312
  · rw [if_pos c] at kc kl
    exact Ok_e h 2 (by decide) 0 (by simp only [f_L_lead, f_X5_lead, chk_ok hi1, obs, wtt, xb_r, xb_l, xh_r, xh_l, wp1, wp2, wp3, wp4, wp5, wp6, wp7, wpf, tf_F, ff_T, ft_F, ne_ai, ne_si, ne_sa, ne_ri, reduceIte, Bool.not_true, Bool.not_false, sl_cl hi1, sl_F hi1, p1, kc]) (by simp only [f_X6_lead, kl, obs, wtt, xb_r, xb_l, xh_r, xh_l, wp1, wp2, wp3, wp4, wp5, wp6, wp7, wpf, tf_F, ff_T, ft_F, ne_ai, ne_si, ne_sa, ne_ri, reduceIte, Bool.not_true, Bool.not_false])
  · rw [if_neg c] at kc kl
    have t : f_X6_leadOf (lN z1.2) = some (f_X0_leadOf (cB z1)) := (xm_lead z1.1 (S := z1.2) (by omega) o1').1
    refine Ok_r v.2 (f_X0_leadOf (cB z1)).toInt64 (f_X0_leadOf (cB z1)) h0 rfl rfl ?_ ?_
    · simp only [f_L_lead, f_X5_lead, chk_ok hi1, obs, wtt, xb_r, xb_l, xh_r, xh_l, wp1, wp2, wp3, wp4, wp5, wp6, wp7, wpf, tf_F, ff_T, ft_F, ne_ai, ne_si, ne_sa, ne_ri, reduceIte, Bool.not_true, Bool.not_false, sl_cl hi1, sl_F hi1, p1, kc]
    · simp only [f_X6_lead, kl, obs, wtt, xb_r, xb_l, xh_r, xh_l, wp1, wp2, wp3, wp4, wp5, wp6, wp7, wpf, tf_F, ff_T, ft_F, ne_ai, ne_si, ne_sa, ne_ri, reduceIte, Bool.not_true, Bool.not_false, sl_cl hi1, sl_F hi1, q1, ms, t]
set_option maxHeartbeats 1000000 in
theorem ok_tail {v : SH} {w : StM} (h : Rel v.1 w) (a1 : Int32) : Ok Int32.toInt64 (f_L_tail v a1) (f_X6_tail w a1) := by
  have h0 : Rel v.1 (wt w 0) := Rel_t h 0
  rcases sl_c a1 with ⟨i1, hi1, rfl⟩ | ⟨e1, e2⟩
  rotate_left
  · exact Ok_e h 1 (by decide) 0 (by simp only [f_L_tail, f_X5_tail, e1, obs, wtt, xb_r, xb_l, xh_r, xh_l, wp1, wp2, wp3, wp4, wp5, wp6, wp7, wpf, tf_F, ff_T, ft_F, ne_ai, ne_si, ne_sa, ne_ri, reduceIte, Bool.not_true, Bool.not_false]) (by simp only [f_X6_tail, lkz_f _ e2, obs, wtt, xb_r, xb_l, xh_r, xh_l, wp1, wp2, wp3, wp4, wp5, wp6, wp7, wpf, tf_F, ff_T, ft_F, ne_ai, ne_si, ne_sa, ne_ri, reduceIte, Bool.not_true, Bool.not_false])
  obtain ⟨z1, o1, p1, q1⟩ := h.1 i1 hi1
  have o1' : z1.2 ≤ 9218868437227405312 := o1
  have ms : f_X6_size (cC z1) = lN z1.2 := m_size z1.1 o1
  have kc := chp o1
  have kl := lkz_t (w := w) hi1 hi1 o1 q1
  by_cases c : z1.2 = 0 ∨ z1.2 = 9218868437227405312
  · rw [if_pos c] at kc kl
    exact Ok_e h 2 (by decide) 0 (by simp only [f_L_tail, f_X5_tail, chk_ok hi1, obs, wtt, xb_r, xb_l, xh_r, xh_l, wp1, wp2, wp3, wp4, wp5, wp6, wp7, wpf, tf_F, ff_T, ft_F, ne_ai, ne_si, ne_sa, ne_ri, reduceIte, Bool.not_true, Bool.not_false, sl_cl hi1, sl_F hi1, p1, kc]) (by simp only [f_X6_tail, kl, obs, wtt, xb_r, xb_l, xh_r, xh_l, wp1, wp2, wp3, wp4, wp5, wp6, wp7, wpf, tf_F, ff_T, ft_F, ne_ai, ne_si, ne_sa, ne_ri, reduceIte, Bool.not_true, Bool.not_false])
  · rw [if_neg c] at kc kl
    have t : f_X6_tailOf (lN z1.2) = some (f_X0_tailOf (cB z1)) := (xm_tail z1.1 (S := z1.2) (by omega) o1').1
    refine Ok_r v.2 (f_X0_tailOf (cB z1)).toInt64 (f_X0_tailOf (cB z1)) h0 rfl rfl ?_ ?_
    · simp only [f_L_tail, f_X5_tail, chk_ok hi1, obs, wtt, xb_r, xb_l, xh_r, xh_l, wp1, wp2, wp3, wp4, wp5, wp6, wp7, wpf, tf_F, ff_T, ft_F, ne_ai, ne_si, ne_sa, ne_ri, reduceIte, Bool.not_true, Bool.not_false, sl_cl hi1, sl_F hi1, p1, kc]
    · simp only [f_X6_tail, kl, obs, wtt, xb_r, xb_l, xh_r, xh_l, wp1, wp2, wp3, wp4, wp5, wp6, wp7, wpf, tf_F, ff_T, ft_F, ne_ai, ne_si, ne_sa, ne_ri, reduceIte, Bool.not_true, Bool.not_false, sl_cl hi1, sl_F hi1, q1, ms, t]
