theorem ff_P : false = false := rfl
theorem lkz_t {w : StM} {i j : Nat} (hi : i < 8) (hj : j < 8) {z : NV} (hz : ok z) (q : w.1 i = cC z) : f_X6_lacksSize w (nI i) (nI j) = if z.2 = 0 ∨ z.2 = 9218868437227405312 then some (true, wt w 2) else some (false, wt w 0) := by
  have m0 : f_X6_isNothing (cC z) = decide (z.2 = 0) := m_isNothing z.1 hz
  have m1 : f_X6_isEnd (cC z) = decide (z.2 = 9218868437227405312) := m_isEnd z.1 hz
  unfold f_X6_lacksSize
  rw [lk2_t hi hj]
  show (if (nI i < 0 ∨ 8 ≤ (nI i).toNatClampNeg) then none else (if (f_X6_isNothing (w.1 (nI i).toNatClampNeg)) = false then (if (nI i < 0 ∨ 8 ≤ (nI i).toNatClampNeg) then none else (if (f_X6_isEnd (w.1 (nI i).toNatClampNeg)) = false then some (false, wt w 0) else some (true, wt w 2))) else some (true, wt w 2))) = _
  rw [if_neg (sl_in hi), if_neg (sl_in hi), sl_cl hi, q, m0, m1]
  by_cases c0 : z.2 = 0
  · rw [decide_eq_true c0, if_neg (show ¬ true = false by decide), if_pos (Or.inl c0)]
  · rw [decide_eq_false c0, if_pos ff_P]
    by_cases c1 : z.2 = 9218868437227405312
    · rw [decide_eq_true c1, if_neg (show ¬ true = false by decide), if_pos (Or.inr c1)]
    · rw [decide_eq_false c1, if_pos ff_P, if_neg (by omega)]
theorem chp {z : NV} (hz : ok z) : f_X5_checkHasPowers (cB z) = if z.2 = 0 ∨ z.2 = 9218868437227405312 then some (.inl "java/lang/ArithmeticException") else some (.inr ()) := by
  have e0 : f_X0_isZero (cB z) = decide (z.2 = 0) := x_isZero z.1 hz
  have e1 : f_X0_hasNoEnd (cB z) = decide (z.2 = 9218868437227405312) := x_noEnd z.1 hz
  unfold f_X5_checkHasPowers
  rw [e0, e1]
  by_cases c0 : z.2 = 0
  · rw [decide_eq_true c0, if_neg (show ¬ true = false by decide), if_pos (Or.inl c0)]
  · rw [decide_eq_false c0, if_pos ff_P]
    by_cases c1 : z.2 = 9218868437227405312
    · rw [decide_eq_true c1, if_neg (show ¬ true = false by decide), if_pos (Or.inr c1)]
    · rw [decide_eq_false c1, if_pos ff_P, if_neg (by omega)]
theorem lkz_f {w : StM} {a : Int32} (b : Int32) (h : f_X6_isSlot a = false) : f_X6_lacksSize w a b = some (true, wt w 1) := by unfold f_X6_lacksSize; rw [lk2_f b h]; rfl
theorem lkz_g {w : StM} {i : Nat} {b : Int32} (hi : i < 8) (h : f_X6_isSlot b = false) : f_X6_lacksSize w (nI i) b = some (true, wt w 1) := by unfold f_X6_lacksSize; rw [lk2_g hi h]; rfl

set_option maxHeartbeats 1000000 in
theorem ok_end {v : SH} {w : StM} (h : Rel v.1 w) (a1 : Int32) (a2 : Bool) : Ok id (f_L_end v a1 a2) (f_X6_end w a1 a2) := by
  have h0 : Rel v.1 (wt w 0) := Rel_t h 0
  rcases sl_c a1 with ⟨i1, hi1, rfl⟩ | ⟨e1, e2⟩
  rotate_left
  · exact Ok_e h 1 (by decide) 0 (by simp only [f_L_end, f_X5_end,  e1, obs, wtt, xb_r, xb_l, xh_r, xh_l, wp1, wp2, wp3, wp4, wp5, wp6, wp7, wpf, tf_F, ff_T, ft_F, ne_ai, ne_si, ne_sa, ne_ri, reduceIte, Bool.not_true, Bool.not_false]) (by simp only [f_X6_end, lk1_f e2, obs, wtt, xb_r, xb_l, xh_r, xh_l, wp1, wp2, wp3, wp4, wp5, wp6, wp7, wpf, tf_F, ff_T, ft_F, ne_ai, ne_si, ne_sa, ne_ri, reduceIte, Bool.not_true, Bool.not_false])
  obtain ⟨z1, o1, p1, q1⟩ := h.1 i1 hi1
  have hE : ok (false, 9218868437227405312) := Nat.le_refl _
  cases a2
  · obtain ⟨v', w', eA, eB, hR, ht⟩ := v_become h0 hi1 (z := opp (false, 9218868437227405312)) (ok_opp hE)
    have g1 : f_X0_opposite 9218868437227405312 = cB (opp (false, 9218868437227405312)) := (v_opp hE).1
    have g2 : f_X6_opposite 9218868437227405312 = cC (opp (false, 9218868437227405312)) := (v_opp hE).2
    refine Ok_r v.2 (f_X0_placeOf (cB (opp (false, 9218868437227405312)))) (f_X0_placeOf (cB (opp (false, 9218868437227405312)))) hR ht rfl ?_ ?_
    · simp only [f_L_end, f_X5_end, chk_ok hi1, obs, wtt, xb_r, xb_l, xh_r, xh_l, wp1, wp2, wp3, wp4, wp5, wp6, wp7, wpf, tf_F, ff_T, ft_F, ne_ai, ne_si, ne_sa, ne_ri, reduceIte, Bool.not_true, Bool.not_false, sl_cl hi1, sl_F hi1, p1, g1, eA]
    · simp only [f_X6_end, lk1_t hi1, obs, wtt, xb_r, xb_l, xh_r, xh_l, wp1, wp2, wp3, wp4, wp5, wp6, wp7, wpf, tf_F, ff_T, ft_F, ne_ai, ne_si, ne_sa, ne_ri, reduceIte, Bool.not_true, Bool.not_false, sl_cl hi1, sl_F hi1, q1, g2, eB]
  · obtain ⟨v', w', eA, eB, hR, ht⟩ := v_become h0 hi1 (z := (false, 9218868437227405312)) hE
    have g1 : (9218868437227405312 : Int64) = cB (false, 9218868437227405312) := rfl
    have g2 : (9218868437227405312 : Int64) = cC (false, 9218868437227405312) := rfl
    refine Ok_r v.2 (f_X0_placeOf (cB (false, 9218868437227405312))) (f_X0_placeOf (cB (false, 9218868437227405312))) hR ht rfl ?_ ?_
    · rw [← g1] at eA ⊢
      simp only [f_L_end, f_X5_end, chk_ok hi1, obs, wtt, xb_r, xb_l, xh_r, xh_l, wp1, wp2, wp3, wp4, wp5, wp6, wp7, wpf, tf_F, ff_T, ft_F, ne_ai, ne_si, ne_sa, ne_ri, reduceIte, Bool.not_true, Bool.not_false, sl_cl hi1, sl_F hi1, p1, eA]
    · rw [← g2] at eB
      simp only [f_X6_end, lk1_t hi1, obs, wtt, xb_r, xb_l, xh_r, xh_l, wp1, wp2, wp3, wp4, wp5, wp6, wp7, wpf, tf_F, ff_T, ft_F, ne_ai, ne_si, ne_sa, ne_ri, reduceIte, Bool.not_true, Bool.not_false, sl_cl hi1, sl_F hi1, q1, eB]

