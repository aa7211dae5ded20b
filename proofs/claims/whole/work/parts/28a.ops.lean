set_option maxHeartbeats 1000000 in
theorem ok_isWhole {v : SH} {w : StM} (h : Rel v.1 w) (a1 : Int32) : Ok b2l (f_L_isWhole v a1) (f_X6_isWhole w a1) := by
  have h0 : Rel v.1 (wt w 0) := Rel_t h 0
  rcases sl_c a1 with ⟨i1, hi1, rfl⟩ | ⟨e1, e2⟩
  rotate_left
  · exact Ok_e h 1 (by decide) false (by simp only [f_L_isWhole, f_X5_isWhole,  e1, obs, wtt, xb_r, xb_l, xh_r, xh_l, wp1, wp2, wp3, wp4, wp5, wp6, wp7, wpf, tf_F, ff_T, ft_F, ne_ai, ne_si, ne_sa, ne_ri, reduceIte, Bool.not_true, Bool.not_false]) (by simp only [f_X6_isWhole, lk1_f e2, obs, wtt, xb_r, xb_l, xh_r, xh_l, wp1, wp2, wp3, wp4, wp5, wp6, wp7, wpf, tf_F, ff_T, ft_F, ne_ai, ne_si, ne_sa, ne_ri, reduceIte, Bool.not_true, Bool.not_false])
  obtain ⟨z1, o1, p1, q1⟩ := h.1 i1 hi1
  have e0 : f_X0_isZero (cB z1) = decide (z1.2 = 0) := x_isZero z1.1 o1
  have e1 : f_X0_hasNoEnd (cB z1) = decide (z1.2 = 9218868437227405312) := x_noEnd z1.1 o1
  have e2 : f_X6_size (cC z1) = lN z1.2 := m_size z1.1 o1
  have o1' : z1.2 ≤ 9218868437227405312 := o1
  by_cases c0 : z1.2 = 0
  · rw [decide_eq_true c0] at e0
    have n0 : (lN z1.2 = 0) = True := eq_true (by rw [c0]; rfl)
    clear e1
    refine Ok_r v.2 1 true h0 rfl rfl ?_ ?_
    · simp only [f_L_isWhole, f_X5_isWhole, chk_ok hi1, obs, wtt, xb_r, xb_l, xh_r, xh_l, wp1, wp2, wp3, wp4, wp5, wp6, wp7, wpf, tf_F, ff_T, ft_F, ne_ai, ne_si, ne_sa, ne_ri, reduceIte, Bool.not_true, Bool.not_false, sl_cl hi1, sl_F hi1, p1, f_X0_hasNoFraction, e0]
    · simp only [f_X6_isWhole, lk1_t hi1, obs, wtt, xb_r, xb_l, xh_r, xh_l, wp1, wp2, wp3, wp4, wp5, wp6, wp7, wpf, tf_F, ff_T, ft_F, ne_ai, ne_si, ne_sa, ne_ri, reduceIte, Bool.not_true, Bool.not_false, sl_cl hi1, sl_F hi1, q1, e2, n0]
  · rw [decide_eq_false c0] at e0
    have n0 : (lN z1.2 = 0) = False := eq_false (fun k => c0 ((L_eq (b := 0) (by omega) (by omega)).mp k))
    by_cases c1 : z1.2 = 9218868437227405312
    · rw [decide_eq_true c1] at e1
      have n1 : (lN z1.2 = 9218868437227405312) = True := eq_true (by rw [c1]; rfl)
      refine Ok_r v.2 0 false h0 rfl rfl ?_ ?_
      · simp only [f_L_isWhole, f_X5_isWhole, chk_ok hi1, obs, wtt, xb_r, xb_l, xh_r, xh_l, wp1, wp2, wp3, wp4, wp5, wp6, wp7, wpf, tf_F, ff_T, ft_F, ne_ai, ne_si, ne_sa, ne_ri, reduceIte, Bool.not_true, Bool.not_false, sl_cl hi1, sl_F hi1, p1, f_X0_hasNoFraction, e0, e1]
      · simp only [f_X6_isWhole, lk1_t hi1, obs, wtt, xb_r, xb_l, xh_r, xh_l, wp1, wp2, wp3, wp4, wp5, wp6, wp7, wpf, tf_F, ff_T, ft_F, ne_ai, ne_si, ne_sa, ne_ri, reduceIte, Bool.not_true, Bool.not_false, sl_cl hi1, sl_F hi1, q1, e2, n0, n1]
    · rw [decide_eq_false c1] at e1
      have n1 : (lN z1.2 = 9218868437227405312) = False := eq_false (fun k => c1 ((L_eq (b := 9218868437227405312) (by omega) (by omega)).mp k))
      have t : f_X6_tailOf (lN z1.2) = some (f_X0_tailOf (cB z1)) := (xm_tail z1.1 (S := z1.2) (by omega) o1').1
      have hf : f_X0_hasNoFraction (cB z1) = if f_X0_tailOf (cB z1) < 0 then false else true := by
        unfold f_X0_hasNoFraction
        rw [e0, if_pos ff_P, e1, if_pos ff_P]
      generalize f_X0_tailOf (cB z1) = tl at hf t
      have key : f_X5_isWhole v.1 (nI i1) = some (.inr (f_X0_hasNoFraction (cB z1))) := by
        unfold f_X5_isWhole
        rw [chk_ok hi1, xb_r, if_neg (sl_in hi1), sl_cl hi1, p1]
      rw [hf] at key
      by_cases c2 : tl < 0
      · have n2 := eq_true c2
        rw [if_pos c2] at key
        refine Ok_r v.2 0 false h0 rfl rfl ?_ ?_
        · unfold f_L_isWhole; rw [key]; rfl
        · simp only [f_X6_isWhole, lk1_t hi1, obs, wtt, xb_r, xb_l, xh_r, xh_l, wp1, wp2, wp3, wp4, wp5, wp6, wp7, wpf, tf_F, ff_T, ft_F, ne_ai, ne_si, ne_sa, ne_ri, reduceIte, Bool.not_true, Bool.not_false, sl_cl hi1, sl_F hi1, q1, e2, n0, n1, t, n2]
      · have n2 := eq_false c2
        rw [if_neg c2] at key
        refine Ok_r v.2 1 true h0 rfl rfl ?_ ?_
        · unfold f_L_isWhole; rw [key]; rfl
        · simp only [f_X6_isWhole, lk1_t hi1, obs, wtt, xb_r, xb_l, xh_r, xh_l, wp1, wp2, wp3, wp4, wp5, wp6, wp7, wpf, tf_F, ff_T, ft_F, ne_ai, ne_si, ne_sa, ne_ri, reduceIte, Bool.not_true, Bool.not_false, sl_cl hi1, sl_F hi1, q1, e2, n0, n1, t, n2]
