/-! the operations, class helper against reference -/
def Ok {T : Type} (conv : T → Int64) (fH : Option (Int32 × SH)) (fM : Option (T × StM)) : Prop := ∃ (zH : Int32 × SH) (zM : T × StM), fH = some zH ∧ fM = some zM ∧ f_X6_thrown zM.2 = zH.1 ∧ (zH.1 = 0 → zH.2.2 (0 : Int32).toNatClampNeg = conv zM.1) ∧ Rel zH.2.1 zM.2
theorem Ok_e {T : Type} {conv : T → Int64} {fH : Option (Int32 × SH)} {fM : Option (T × StM)} {v : SH} {w : StM} (h : Rel v.1 w) (k : Int32) (hk : k ≠ 0) (x : T) (e1 : fH = some (k, v)) (e2 : fM = some (x, wt w k)) : Ok conv fH fM := ⟨(k, v), (x, wt w k), e1, e2, rfl, fun z => absurd z hk, Rel_t h k⟩
theorem Ok_r {T : Type} {conv : T → Int64} {fH : Option (Int32 × SH)} {fM : Option (T × StM)} {v' : StX} {w' : StM} (o : Nat → Int64) (y : Int64) (x : T) (h : Rel v' w') (ht : w'.2.2.2.2.2.2.2 = 0) (hy : y = conv x) (e1 : fH = some (0, (v', vp_updL o (0 : Int32).toNatClampNeg y))) (e2 : fM = some (x, w')) : Ok conv fH fM := ⟨(0, (v', vp_updL o (0 : Int32).toNatClampNeg y)), (x, w'), e1, e2, ht, fun _ => by show vp_updL o (0 : Int32).toNatClampNeg y (0 : Int32).toNatClampNeg = conv x; rw [pk_uLs]; exact hy, h⟩
theorem wp1 (w : StM) (t : Int32) : (wt w t).1 = w.1 := rfl
theorem wp2 (w : StM) (t : Int32) : (wt w t).2.1 = w.2.1 := rfl
theorem wp3 (w : StM) (t : Int32) : (wt w t).2.2.1 = w.2.2.1 := rfl
theorem wp4 (w : StM) (t : Int32) : (wt w t).2.2.2.1 = w.2.2.2.1 := rfl
theorem wp5 (w : StM) (t : Int32) : (wt w t).2.2.2.2.1 = w.2.2.2.2.1 := rfl
theorem wp6 (w : StM) (t : Int32) : (wt w t).2.2.2.2.2.1 = w.2.2.2.2.2.1 := rfl
theorem wp7 (w : StM) (t : Int32) : (wt w t).2.2.2.2.2.2.1 = w.2.2.2.2.2.2.1 := rfl
theorem wpf (w : StM) (t : Int32) : (w.1, w.2.1, w.2.2.1, w.2.2.2.1, w.2.2.2.2.1, w.2.2.2.2.2.1, w.2.2.2.2.2.2.1, t) = wt w t := rfl
theorem wtt (w : StM) (a b : Int32) : wt (wt w a) b = wt w b := rfl
theorem obs {α β : Type} (a : α) (f : α → Option β) : (some a).bind f = f a := rfl
theorem xb_r {α β : Type} (a : α) (k : α → Option (String ⊕ β)) : xb (some (.inr a)) k = k a := rfl
theorem xb_l {α β : Type} (E : String) (k : α → Option (String ⊕ β)) : xb (some (.inl E)) k = some (.inl E) := rfl
theorem xh_r {α β : Type} (a : α) (k : α → Option β) (hs : String → Option β) : xh (some (.inr a)) k hs = k a := rfl
theorem xh_l {α β : Type} (E : String) (k : α → Option β) (hs : String → Option β) : xh (some (.inl E)) k hs = hs E := rfl
theorem sl_F {i : Nat} (h : i < 8) : (nI i < 0 ∨ 8 ≤ i) = False := eq_false (fun k => by rcases k with k | k; exact nI_pos (by omega) k; omega)
theorem tf_F : (true = false) = False := eq_false (by decide +kernel)
theorem ff_T : (false = false) = True := eq_true rfl
theorem ft_F : (false = true) = False := eq_false (by decide +kernel)
theorem ne_ai : ("java/lang/IllegalArgumentException" = "java/lang/IndexOutOfBoundsException") = False := eq_false (by decide +kernel)
theorem ne_si : ("java/lang/IllegalStateException" = "java/lang/IndexOutOfBoundsException") = False := eq_false (by decide +kernel)
theorem ne_sa : ("java/lang/IllegalStateException" = "java/lang/IllegalArgumentException") = False := eq_false (by decide +kernel)
theorem ne_ri : ("java/lang/ArithmeticException" = "java/lang/IndexOutOfBoundsException") = False := eq_false (by decide +kernel)

set_option maxHeartbeats 1000000 in
theorem ok_place {v : SH} {w : StM} (h : Rel v.1 w) (a1 : Int32) : Ok id (f_L_place v a1) (f_X6_place w a1) := by
  have h0 : Rel v.1 (wt w 0) := Rel_t h 0
  rcases sl_c a1 with ⟨i1, hi1, rfl⟩ | ⟨e1, e2⟩
  rotate_left
  · exact Ok_e h 1 (by decide) 0 (by simp only [f_L_place, f_X5_place,  e1, obs, wtt, xb_r, xb_l, xh_r, xh_l, wp1, wp2, wp3, wp4, wp5, wp6, wp7, wpf, tf_F, ff_T, ft_F, ne_ai, ne_si, ne_sa, ne_ri, reduceIte, Bool.not_true, Bool.not_false]) (by simp only [f_X6_place, lk1_f e2, obs, wtt, xb_r, xb_l, xh_r, xh_l, wp1, wp2, wp3, wp4, wp5, wp6, wp7, wpf, tf_F, ff_T, ft_F, ne_ai, ne_si, ne_sa, ne_ri, reduceIte, Bool.not_true, Bool.not_false])
  obtain ⟨z1, o1, p1, q1⟩ := h.1 i1 hi1
  refine Ok_r v.2 (f_X0_placeOf (cB z1)) (f_X0_placeOf (cB z1)) h0 rfl rfl ?_ ?_
  · simp only [f_L_place, f_X5_place, chk_ok hi1, obs, wtt, xb_r, xb_l, xh_r, xh_l, wp1, wp2, wp3, wp4, wp5, wp6, wp7, wpf, tf_F, ff_T, ft_F, ne_ai, ne_si, ne_sa, ne_ri, reduceIte, Bool.not_true, Bool.not_false, sl_cl hi1, sl_F hi1, p1]
  · simp only [f_X6_place, lk1_t hi1, obs, wtt, xb_r, xb_l, xh_r, xh_l, wp1, wp2, wp3, wp4, wp5, wp6, wp7, wpf, tf_F, ff_T, ft_F, ne_ai, ne_si, ne_sa, ne_ri, reduceIte, Bool.not_true, Bool.not_false, sl_cl hi1, sl_F hi1, q1, (v_place o1).2]
set_option maxHeartbeats 1000000 in
theorem ok_bits {v : SH} {w : StM} (h : Rel v.1 w) (a1 : Int32) : Ok id (f_L_bits v a1) (f_X6_bits_ w a1) := by
  have h0 : Rel v.1 (wt w 0) := Rel_t h 0
  rcases sl_c a1 with ⟨i1, hi1, rfl⟩ | ⟨e1, e2⟩
  rotate_left
  · exact Ok_e h 1 (by decide) 0 (by simp only [f_L_bits, f_X5_bits,  e1, obs, wtt, xb_r, xb_l, xh_r, xh_l, wp1, wp2, wp3, wp4, wp5, wp6, wp7, wpf, tf_F, ff_T, ft_F, ne_ai, ne_si, ne_sa, ne_ri, reduceIte, Bool.not_true, Bool.not_false]) (by simp only [f_X6_bits_, lk1_f e2, obs, wtt, xb_r, xb_l, xh_r, xh_l, wp1, wp2, wp3, wp4, wp5, wp6, wp7, wpf, tf_F, ff_T, ft_F, ne_ai, ne_si, ne_sa, ne_ri, reduceIte, Bool.not_true, Bool.not_false])
  obtain ⟨z1, o1, p1, q1⟩ := h.1 i1 hi1
  have e : f_X6_bitsOf (cC z1) = cB z1 := m_bitsOf z1.1 o1
  refine Ok_r v.2 (cB z1) (cB z1) h0 rfl rfl ?_ ?_
  · simp only [f_L_bits, f_X5_bits, chk_ok hi1, obs, wtt, xb_r, xb_l, xh_r, xh_l, wp1, wp2, wp3, wp4, wp5, wp6, wp7, wpf, tf_F, ff_T, ft_F, ne_ai, ne_si, ne_sa, ne_ri, reduceIte, Bool.not_true, Bool.not_false, sl_cl hi1, sl_F hi1, p1]
  · simp only [f_X6_bits_, lk1_t hi1, obs, wtt, xb_r, xb_l, xh_r, xh_l, wp1, wp2, wp3, wp4, wp5, wp6, wp7, wpf, tf_F, ff_T, ft_F, ne_ai, ne_si, ne_sa, ne_ri, reduceIte, Bool.not_true, Bool.not_false, sl_cl hi1, sl_F hi1, q1, e]
set_option maxHeartbeats 1000000 in
theorem ok_isEndless {v : SH} {w : StM} (h : Rel v.1 w) (a1 : Int32) : Ok b2l (f_L_isEndless v a1) (f_X6_isEndless w a1) := by
  have h0 : Rel v.1 (wt w 0) := Rel_t h 0
  rcases sl_c a1 with ⟨i1, hi1, rfl⟩ | ⟨e1, e2⟩
  rotate_left
  · exact Ok_e h 1 (by decide) false (by simp only [f_L_isEndless, f_X5_isEndless,  e1, obs, wtt, xb_r, xb_l, xh_r, xh_l, wp1, wp2, wp3, wp4, wp5, wp6, wp7, wpf, tf_F, ff_T, ft_F, ne_ai, ne_si, ne_sa, ne_ri, reduceIte, Bool.not_true, Bool.not_false]) (by simp only [f_X6_isEndless, lk1_f e2, obs, wtt, xb_r, xb_l, xh_r, xh_l, wp1, wp2, wp3, wp4, wp5, wp6, wp7, wpf, tf_F, ff_T, ft_F, ne_ai, ne_si, ne_sa, ne_ri, reduceIte, Bool.not_true, Bool.not_false])
  obtain ⟨z1, o1, p1, q1⟩ := h.1 i1 hi1
  have e1 : f_X0_hasNoEnd (cB z1) = decide (z1.2 = 9218868437227405312) := x_noEnd z1.1 o1
  have e2 : f_X6_isEnd (cC z1) = decide (z1.2 = 9218868437227405312) := m_isEnd z1.1 o1
  refine Ok_r v.2 (b2l (decide (z1.2 = 9218868437227405312))) (decide (z1.2 = 9218868437227405312)) h0 rfl rfl ?_ ?_
  · simp only [f_L_isEndless, f_X5_isEndless, chk_ok hi1, obs, wtt, xb_r, xb_l, xh_r, xh_l, wp1, wp2, wp3, wp4, wp5, wp6, wp7, wpf, tf_F, ff_T, ft_F, ne_ai, ne_si, ne_sa, ne_ri, reduceIte, Bool.not_true, Bool.not_false, sl_cl hi1, sl_F hi1, p1, e1]
    generalize decide (z1.2 = 9218868437227405312) = b
    cases b <;> rfl
  · simp only [f_X6_isEndless, lk1_t hi1, obs, wtt, xb_r, xb_l, xh_r, xh_l, wp1, wp2, wp3, wp4, wp5, wp6, wp7, wpf, tf_F, ff_T, ft_F, ne_ai, ne_si, ne_sa, ne_ri, reduceIte, Bool.not_true, Bool.not_false, sl_cl hi1, sl_F hi1, q1, e2]
set_option maxHeartbeats 1000000 in
theorem ok_isSmall {v : SH} {w : StM} (h : Rel v.1 w) (a1 : Int32) : Ok b2l (f_L_isSmall v a1) (f_X6_isSmall w a1) := by
  have h0 : Rel v.1 (wt w 0) := Rel_t h 0
  rcases sl_c a1 with ⟨i1, hi1, rfl⟩ | ⟨e1, e2⟩
  rotate_left
  · exact Ok_e h 1 (by decide) false (by simp only [f_L_isSmall, f_X5_isSmall,  e1, obs, wtt, xb_r, xb_l, xh_r, xh_l, wp1, wp2, wp3, wp4, wp5, wp6, wp7, wpf, tf_F, ff_T, ft_F, ne_ai, ne_si, ne_sa, ne_ri, reduceIte, Bool.not_true, Bool.not_false]) (by simp only [f_X6_isSmall, lk1_f e2, obs, wtt, xb_r, xb_l, xh_r, xh_l, wp1, wp2, wp3, wp4, wp5, wp6, wp7, wpf, tf_F, ff_T, ft_F, ne_ai, ne_si, ne_sa, ne_ri, reduceIte, Bool.not_true, Bool.not_false])
  obtain ⟨z1, o1, p1, q1⟩ := h.1 i1 hi1
  have e2 : f_X6_isLittle (cC z1) = f_X0_hasLeastExponent (cB z1) := m_isLittle z1.1 o1
  refine Ok_r v.2 (b2l (f_X0_hasLeastExponent (cB z1))) (f_X0_hasLeastExponent (cB z1)) h0 rfl rfl ?_ ?_
  · simp only [f_L_isSmall, f_X5_isSmall, chk_ok hi1, obs, wtt, xb_r, xb_l, xh_r, xh_l, wp1, wp2, wp3, wp4, wp5, wp6, wp7, wpf, tf_F, ff_T, ft_F, ne_ai, ne_si, ne_sa, ne_ri, reduceIte, Bool.not_true, Bool.not_false, sl_cl hi1, sl_F hi1, p1]
    generalize f_X0_hasLeastExponent (cB z1) = b
    cases b <;> rfl
  · simp only [f_X6_isSmall, lk1_t hi1, obs, wtt, xb_r, xb_l, xh_r, xh_l, wp1, wp2, wp3, wp4, wp5, wp6, wp7, wpf, tf_F, ff_T, ft_F, ne_ai, ne_si, ne_sa, ne_ri, reduceIte, Bool.not_true, Bool.not_false, sl_cl hi1, sl_F hi1, q1, e2]
set_option maxHeartbeats 1000000 in
theorem ok_exponent {v : SH} {w : StM} (h : Rel v.1 w) (a1 : Int32) : Ok Int32.toInt64 (f_L_exponent v a1) (f_X6_exponent w a1) := by
  have h0 : Rel v.1 (wt w 0) := Rel_t h 0
  rcases sl_c a1 with ⟨i1, hi1, rfl⟩ | ⟨e1, e2⟩
  rotate_left
  · exact Ok_e h 1 (by decide) 0 (by simp only [f_L_exponent, f_X5_exponent,  e1, obs, wtt, xb_r, xb_l, xh_r, xh_l, wp1, wp2, wp3, wp4, wp5, wp6, wp7, wpf, tf_F, ff_T, ft_F, ne_ai, ne_si, ne_sa, ne_ri, reduceIte, Bool.not_true, Bool.not_false]) (by simp only [f_X6_exponent, lk1_f e2, obs, wtt, xb_r, xb_l, xh_r, xh_l, wp1, wp2, wp3, wp4, wp5, wp6, wp7, wpf, tf_F, ff_T, ft_F, ne_ai, ne_si, ne_sa, ne_ri, reduceIte, Bool.not_true, Bool.not_false])
  obtain ⟨z1, o1, p1, q1⟩ := h.1 i1 hi1
  have e1 : f_X6_exponentOf (cC z1) = nI (z1.2 / 4503599627370496) - 1023 := m_expOf z1.1 o1
  have e2 : f_X0_exponentOf (cB z1) = nI (z1.2 / 4503599627370496) - 1023 := x_expOf z1.1 o1
  refine Ok_r v.2 (f_X0_exponentOf (cB z1)).toInt64 (f_X0_exponentOf (cB z1)) h0 rfl rfl ?_ ?_
  · simp only [f_L_exponent, f_X5_exponent, chk_ok hi1, obs, wtt, xb_r, xb_l, xh_r, xh_l, wp1, wp2, wp3, wp4, wp5, wp6, wp7, wpf, tf_F, ff_T, ft_F, ne_ai, ne_si, ne_sa, ne_ri, reduceIte, Bool.not_true, Bool.not_false, sl_cl hi1, sl_F hi1, p1]
  · simp only [f_X6_exponent, lk1_t hi1, obs, wtt, xb_r, xb_l, xh_r, xh_l, wp1, wp2, wp3, wp4, wp5, wp6, wp7, wpf, tf_F, ff_T, ft_F, ne_ai, ne_si, ne_sa, ne_ri, reduceIte, Bool.not_true, Bool.not_false, sl_cl hi1, sl_F hi1, q1, e1, e2]
set_option maxHeartbeats 1000000 in
theorem ok_compare {v : SH} {w : StM} (h : Rel v.1 w) (a1 : Int32) (a2 : Int32) : Ok Int32.toInt64 (f_L_compare v a1 a2) (f_X6_compare w a1 a2) := by
  have h0 : Rel v.1 (wt w 0) := Rel_t h 0
  rcases sl_c a1 with ⟨i1, hi1, rfl⟩ | ⟨e1, e2⟩
  rotate_left
  · exact Ok_e h 1 (by decide) 0 (by simp only [f_L_compare, f_X5_compare,  e1, obs, wtt, xb_r, xb_l, xh_r, xh_l, wp1, wp2, wp3, wp4, wp5, wp6, wp7, wpf, tf_F, ff_T, ft_F, ne_ai, ne_si, ne_sa, ne_ri, reduceIte, Bool.not_true, Bool.not_false]) (by simp only [f_X6_compare, lk2_f _ e2, obs, wtt, xb_r, xb_l, xh_r, xh_l, wp1, wp2, wp3, wp4, wp5, wp6, wp7, wpf, tf_F, ff_T, ft_F, ne_ai, ne_si, ne_sa, ne_ri, reduceIte, Bool.not_true, Bool.not_false])
  rcases sl_c a2 with ⟨i2, hi2, rfl⟩ | ⟨e1, e2⟩
  rotate_left
  · exact Ok_e h 1 (by decide) 0 (by simp only [f_L_compare, f_X5_compare, chk_ok hi1,  e1, obs, wtt, xb_r, xb_l, xh_r, xh_l, wp1, wp2, wp3, wp4, wp5, wp6, wp7, wpf, tf_F, ff_T, ft_F, ne_ai, ne_si, ne_sa, ne_ri, reduceIte, Bool.not_true, Bool.not_false]) (by simp only [f_X6_compare, lk2_g hi1 e2, obs, wtt, xb_r, xb_l, xh_r, xh_l, wp1, wp2, wp3, wp4, wp5, wp6, wp7, wpf, tf_F, ff_T, ft_F, ne_ai, ne_si, ne_sa, ne_ri, reduceIte, Bool.not_true, Bool.not_false])
  obtain ⟨z1, o1, p1, q1⟩ := h.1 i1 hi1
  obtain ⟨z2, o2, p2, q2⟩ := h.1 i2 hi2
  have e := v_order o1 o2
  refine Ok_r v.2 (f_X0_order (cB z1) (cB z2)).toInt64 (f_X0_order (cB z1) (cB z2)) h0 rfl rfl ?_ ?_
  · simp only [f_L_compare, f_X5_compare, chk_ok hi1, chk_ok hi2, obs, wtt, xb_r, xb_l, xh_r, xh_l, wp1, wp2, wp3, wp4, wp5, wp6, wp7, wpf, tf_F, ff_T, ft_F, ne_ai, ne_si, ne_sa, ne_ri, reduceIte, Bool.not_true, Bool.not_false, sl_cl hi1, sl_F hi1, p1, sl_cl hi2, sl_F hi2, p2]
  · have k1 : (f_X0_placeOf (cB z1) < f_X0_placeOf (cB z2)) = (pl z1 < pl z2) := by rw [fa_lt64, (v_place o1).1, (v_place o2).1]
    have k2 : (f_X0_placeOf (cB z2) < f_X0_placeOf (cB z1)) = (pl z2 < pl z1) := by rw [fa_lt64, (v_place o1).1, (v_place o2).1]
    simp only [f_X6_compare, lk2_t hi1 hi2, obs, wtt, xb_r, xb_l, xh_r, xh_l, wp1, wp2, wp3, wp4, wp5, wp6, wp7, wpf, tf_F, ff_T, ft_F, ne_ai, ne_si, ne_sa, ne_ri, reduceIte, Bool.not_true, Bool.not_false, sl_cl hi1, sl_F hi1, q1, sl_cl hi2, sl_F hi2, q2, f_X6_placeIn, (v_place o1).2, (v_place o2).2, k1, k2, e]
    by_cases c1 : pl z1 < pl z2
    · rw [if_pos c1, if_pos c1]
    · rw [if_neg c1, if_neg c1]
      by_cases c2 : pl z1 = pl z2
      · rw [if_pos c2, if_neg (by omega)]
      · rw [if_neg c2, if_pos (by omega)]
set_option maxHeartbeats 1000000 in
theorem ok_apart {v : SH} {w : StM} (h : Rel v.1 w) (a1 : Int32) (a2 : Int32) : Ok id (f_L_apart v a1 a2) (f_X6_apart w a1 a2) := by
  have h0 : Rel v.1 (wt w 0) := Rel_t h 0
  rcases sl_c a1 with ⟨i1, hi1, rfl⟩ | ⟨e1, e2⟩
  rotate_left
  · exact Ok_e h 1 (by decide) 0 (by simp only [f_L_apart, f_X5_apart,  e1, obs, wtt, xb_r, xb_l, xh_r, xh_l, wp1, wp2, wp3, wp4, wp5, wp6, wp7, wpf, tf_F, ff_T, ft_F, ne_ai, ne_si, ne_sa, ne_ri, reduceIte, Bool.not_true, Bool.not_false]) (by simp only [f_X6_apart, lk2_f _ e2, obs, wtt, xb_r, xb_l, xh_r, xh_l, wp1, wp2, wp3, wp4, wp5, wp6, wp7, wpf, tf_F, ff_T, ft_F, ne_ai, ne_si, ne_sa, ne_ri, reduceIte, Bool.not_true, Bool.not_false])
  rcases sl_c a2 with ⟨i2, hi2, rfl⟩ | ⟨e1, e2⟩
  rotate_left
  · exact Ok_e h 1 (by decide) 0 (by simp only [f_L_apart, f_X5_apart, chk_ok hi1,  e1, obs, wtt, xb_r, xb_l, xh_r, xh_l, wp1, wp2, wp3, wp4, wp5, wp6, wp7, wpf, tf_F, ff_T, ft_F, ne_ai, ne_si, ne_sa, ne_ri, reduceIte, Bool.not_true, Bool.not_false]) (by simp only [f_X6_apart, lk2_g hi1 e2, obs, wtt, xb_r, xb_l, xh_r, xh_l, wp1, wp2, wp3, wp4, wp5, wp6, wp7, wpf, tf_F, ff_T, ft_F, ne_ai, ne_si, ne_sa, ne_ri, reduceIte, Bool.not_true, Bool.not_false])
  obtain ⟨z1, o1, p1, q1⟩ := h.1 i1 hi1
  obtain ⟨z2, o2, p2, q2⟩ := h.1 i2 hi2
  have k2 : (f_X0_placeOf (cB z2) < f_X0_placeOf (cB z1)) = (pl z2 < pl z1) := by rw [fa_lt64, (v_place o1).1, (v_place o2).1]
  refine Ok_r v.2 (f_X0_distance (cB z1) (cB z2)) (f_X0_distance (cB z1) (cB z2)) h0 rfl rfl ?_ ?_
  · simp only [f_L_apart, f_X5_apart, chk_ok hi1, chk_ok hi2, obs, wtt, xb_r, xb_l, xh_r, xh_l, wp1, wp2, wp3, wp4, wp5, wp6, wp7, wpf, tf_F, ff_T, ft_F, ne_ai, ne_si, ne_sa, ne_ri, reduceIte, Bool.not_true, Bool.not_false, sl_cl hi1, sl_F hi1, p1, sl_cl hi2, sl_F hi2, p2]
  · simp only [f_X6_apart, lk2_t hi1 hi2, obs, wtt, xb_r, xb_l, xh_r, xh_l, wp1, wp2, wp3, wp4, wp5, wp6, wp7, wpf, tf_F, ff_T, ft_F, ne_ai, ne_si, ne_sa, ne_ri, reduceIte, Bool.not_true, Bool.not_false, sl_cl hi1, sl_F hi1, q1, sl_cl hi2, sl_F hi2, q2, f_X6_placeIn, (v_place o1).2, (v_place o2).2, k2]
    by_cases c : pl z2 < pl z1
    · rw [if_pos c]
      exact congrArg (fun t => some (t, wt w 0)) (by rw [v_dist o1 o2, pO o1, pO o2, lN_ofInt, ← Int64.ofInt_sub]; congr 1; omega)
    · rw [if_neg c]
      exact congrArg (fun t => some (t, wt w 0)) (by rw [v_dist o1 o2, pO o1, pO o2, lN_ofInt, ← Int64.ofInt_sub]; congr 1; omega)
set_option maxHeartbeats 1000000 in
theorem ok_areNext {v : SH} {w : StM} (h : Rel v.1 w) (a1 : Int32) (a2 : Int32) : Ok b2l (f_L_areNext v a1 a2) (f_X6_areNext w a1 a2) := by
  have h0 : Rel v.1 (wt w 0) := Rel_t h 0
  rcases sl_c a1 with ⟨i1, hi1, rfl⟩ | ⟨e1, e2⟩
  rotate_left
  · exact Ok_e h 1 (by decide) false (by simp only [f_L_areNext, f_X5_areNext,  e1, obs, wtt, xb_r, xb_l, xh_r, xh_l, wp1, wp2, wp3, wp4, wp5, wp6, wp7, wpf, tf_F, ff_T, ft_F, ne_ai, ne_si, ne_sa, ne_ri, reduceIte, Bool.not_true, Bool.not_false]) (by simp only [f_X6_areNext, lk2_f _ e2, obs, wtt, xb_r, xb_l, xh_r, xh_l, wp1, wp2, wp3, wp4, wp5, wp6, wp7, wpf, tf_F, ff_T, ft_F, ne_ai, ne_si, ne_sa, ne_ri, reduceIte, Bool.not_true, Bool.not_false])
  rcases sl_c a2 with ⟨i2, hi2, rfl⟩ | ⟨e1, e2⟩
  rotate_left
  · exact Ok_e h 1 (by decide) false (by simp only [f_L_areNext, f_X5_areNext, chk_ok hi1,  e1, obs, wtt, xb_r, xb_l, xh_r, xh_l, wp1, wp2, wp3, wp4, wp5, wp6, wp7, wpf, tf_F, ff_T, ft_F, ne_ai, ne_si, ne_sa, ne_ri, reduceIte, Bool.not_true, Bool.not_false]) (by simp only [f_X6_areNext, lk2_g hi1 e2, obs, wtt, xb_r, xb_l, xh_r, xh_l, wp1, wp2, wp3, wp4, wp5, wp6, wp7, wpf, tf_F, ff_T, ft_F, ne_ai, ne_si, ne_sa, ne_ri, reduceIte, Bool.not_true, Bool.not_false])
  obtain ⟨z1, o1, p1, q1⟩ := h.1 i1 hi1
  obtain ⟨z2, o2, p2, q2⟩ := h.1 i2 hi2
  have d := pl_d o1 o2
  have b1 := pl_b o1
  have b2 := pl_b o2
  have t1 : (1 : Int64).toInt = 1 := rfl
  have v1 := (v_place o1).1
  have v2 := (v_place o2).1
  have k0 : (f_X0_placeOf (cB z1) = f_X0_placeOf (cB z2)) = (pl z1 = pl z2) := by rw [fa_eq64, v1, v2]
  have kc : (f_X0_distance (cB z1) (cB z2) = 1) = ((pl z1 - pl z2).natAbs = 1) := by
    rw [v_dist o1 o2]
    apply propext
    constructor
    · intro k
      have k2 := congrArg Int64.toInt k
      rw [lN_T d, t1] at k2
      split at k2 <;> omega
    · intro k; rw [k]; rfl
  by_cases c0 : pl z1 = pl z2
  · refine Ok_r v.2 0 false h0 rfl rfl ?_ ?_
    · simp only [f_L_areNext, f_X5_areNext, chk_ok hi1, chk_ok hi2, obs, wtt, xb_r, xb_l, xh_r, xh_l, wp1, wp2, wp3, wp4, wp5, wp6, wp7, wpf, tf_F, ff_T, ft_F, ne_ai, ne_si, ne_sa, ne_ri, reduceIte, Bool.not_true, Bool.not_false, sl_cl hi1, sl_F hi1, p1, sl_cl hi2, sl_F hi2, p2, kc, show ((pl z1 - pl z2).natAbs = 1) = False from eq_false (by omega)]
    · simp only [f_X6_areNext, lk2_t hi1 hi2, obs, wtt, xb_r, xb_l, xh_r, xh_l, wp1, wp2, wp3, wp4, wp5, wp6, wp7, wpf, tf_F, ff_T, ft_F, ne_ai, ne_si, ne_sa, ne_ri, reduceIte, Bool.not_true, Bool.not_false, sl_cl hi1, sl_F hi1, q1, sl_cl hi2, sl_F hi2, q2, f_X6_placeIn, (v_place o1).2, (v_place o2).2, k0, eq_true c0]
  · have ka : f_X6_areApart (f_X0_placeOf (cB z1)) (f_X0_placeOf (cB z2)) = decide (¬ (pl z1 - pl z2).natAbs = 1) := by
      unfold f_X6_areApart
      by_cases c1 : pl z2 < pl z1
      · have s1 : (f_X0_placeOf (cB z1) - 1).toInt = pl z1 - 1 := by rw [fb_subL (by omega) (by omega), v1, t1]
        rw [if_pos (by rw [fa_lt64, v1, v2]; exact c1)]
        by_cases c2 : pl z2 < pl z1 - 1
        · rw [if_pos (by rw [fa_lt64, s1, v2]; exact c2), decide_eq_true (by omega)]
        · rw [if_neg (by rw [fa_lt64, s1, v2]; exact c2), decide_eq_false (by omega)]
      · have s1 : (f_X0_placeOf (cB z2) - 1).toInt = pl z2 - 1 := by rw [fb_subL (by omega) (by omega), v2, t1]
        rw [if_neg (by rw [fa_lt64, v1, v2]; exact c1)]
        by_cases c2 : pl z1 < pl z2 - 1
        · rw [if_pos (by rw [fa_lt64, s1, v1]; exact c2), decide_eq_true (by omega)]
        · rw [if_neg (by rw [fa_lt64, s1, v1]; exact c2), decide_eq_false (by omega)]
    by_cases c3 : (pl z1 - pl z2).natAbs = 1
    · refine Ok_r v.2 1 true h0 rfl rfl ?_ ?_
      · simp only [f_L_areNext, f_X5_areNext, chk_ok hi1, chk_ok hi2, obs, wtt, xb_r, xb_l, xh_r, xh_l, wp1, wp2, wp3, wp4, wp5, wp6, wp7, wpf, tf_F, ff_T, ft_F, ne_ai, ne_si, ne_sa, ne_ri, reduceIte, Bool.not_true, Bool.not_false, sl_cl hi1, sl_F hi1, p1, sl_cl hi2, sl_F hi2, p2, kc, eq_true c3]
      · simp only [f_X6_areNext, lk2_t hi1 hi2, obs, wtt, xb_r, xb_l, xh_r, xh_l, wp1, wp2, wp3, wp4, wp5, wp6, wp7, wpf, tf_F, ff_T, ft_F, ne_ai, ne_si, ne_sa, ne_ri, reduceIte, Bool.not_true, Bool.not_false, sl_cl hi1, sl_F hi1, q1, sl_cl hi2, sl_F hi2, q2, f_X6_placeIn, (v_place o1).2, (v_place o2).2, k0, eq_false c0, ka, decide_eq_false (not_not_intro c3)]
    · refine Ok_r v.2 0 false h0 rfl rfl ?_ ?_
      · simp only [f_L_areNext, f_X5_areNext, chk_ok hi1, chk_ok hi2, obs, wtt, xb_r, xb_l, xh_r, xh_l, wp1, wp2, wp3, wp4, wp5, wp6, wp7, wpf, tf_F, ff_T, ft_F, ne_ai, ne_si, ne_sa, ne_ri, reduceIte, Bool.not_true, Bool.not_false, sl_cl hi1, sl_F hi1, p1, sl_cl hi2, sl_F hi2, p2, kc, eq_false c3]
      · simp only [f_X6_areNext, lk2_t hi1 hi2, obs, wtt, xb_r, xb_l, xh_r, xh_l, wp1, wp2, wp3, wp4, wp5, wp6, wp7, wpf, tf_F, ff_T, ft_F, ne_ai, ne_si, ne_sa, ne_ri, reduceIte, Bool.not_true, Bool.not_false, sl_cl hi1, sl_F hi1, q1, sl_cl hi2, sl_F hi2, q2, f_X6_placeIn, (v_place o1).2, (v_place o2).2, k0, eq_false c0, ka, decide_eq_true c3]
set_option maxHeartbeats 1000000 in
theorem ok_copy {v : SH} {w : StM} (h : Rel v.1 w) (a1 : Int32) (a2 : Int32) : Ok id (f_L_copy v a1 a2) (f_X6_copy w a1 a2) := by
  have h0 : Rel v.1 (wt w 0) := Rel_t h 0
  rcases sl_c a1 with ⟨i1, hi1, rfl⟩ | ⟨e1, e2⟩
  rotate_left
  · exact Ok_e h 1 (by decide) 0 (by simp only [f_L_copy, f_X5_copy,  e1, obs, wtt, xb_r, xb_l, xh_r, xh_l, wp1, wp2, wp3, wp4, wp5, wp6, wp7, wpf, tf_F, ff_T, ft_F, ne_ai, ne_si, ne_sa, ne_ri, reduceIte, Bool.not_true, Bool.not_false]) (by simp only [f_X6_copy, lk2_f _ e2, obs, wtt, xb_r, xb_l, xh_r, xh_l, wp1, wp2, wp3, wp4, wp5, wp6, wp7, wpf, tf_F, ff_T, ft_F, ne_ai, ne_si, ne_sa, ne_ri, reduceIte, Bool.not_true, Bool.not_false])
  rcases sl_c a2 with ⟨i2, hi2, rfl⟩ | ⟨e1, e2⟩
  rotate_left
  · exact Ok_e h 1 (by decide) 0 (by simp only [f_L_copy, f_X5_copy, chk_ok hi1,  e1, obs, wtt, xb_r, xb_l, xh_r, xh_l, wp1, wp2, wp3, wp4, wp5, wp6, wp7, wpf, tf_F, ff_T, ft_F, ne_ai, ne_si, ne_sa, ne_ri, reduceIte, Bool.not_true, Bool.not_false]) (by simp only [f_X6_copy, lk2_g hi1 e2, obs, wtt, xb_r, xb_l, xh_r, xh_l, wp1, wp2, wp3, wp4, wp5, wp6, wp7, wpf, tf_F, ff_T, ft_F, ne_ai, ne_si, ne_sa, ne_ri, reduceIte, Bool.not_true, Bool.not_false])
  obtain ⟨z1, o1, p1, q1⟩ := h.1 i1 hi1
  obtain ⟨z2, o2, p2, q2⟩ := h.1 i2 hi2
  obtain ⟨v', w', eA, eB, hR, ht⟩ := v_become h0 hi2 (z := z1) o1
  refine Ok_r v.2 (f_X0_placeOf (cB (z1))) (f_X0_placeOf (cB (z1))) hR ht rfl ?_ ?_
  · simp only [f_L_copy, f_X5_copy, chk_ok hi1, chk_ok hi2, obs, wtt, xb_r, xb_l, xh_r, xh_l, wp1, wp2, wp3, wp4, wp5, wp6, wp7, wpf, tf_F, ff_T, ft_F, ne_ai, ne_si, ne_sa, ne_ri, reduceIte, Bool.not_true, Bool.not_false, sl_cl hi1, sl_F hi1, p1, sl_cl hi2, sl_F hi2, p2, eA]
  · simp only [f_X6_copy, lk2_t hi1 hi2, obs, wtt, xb_r, xb_l, xh_r, xh_l, wp1, wp2, wp3, wp4, wp5, wp6, wp7, wpf, tf_F, ff_T, ft_F, ne_ai, ne_si, ne_sa, ne_ri, reduceIte, Bool.not_true, Bool.not_false, sl_cl hi1, sl_F hi1, q1, sl_cl hi2, sl_F hi2, q2, eB]
set_option maxHeartbeats 1000000 in
theorem ok_negate {v : SH} {w : StM} (h : Rel v.1 w) (a1 : Int32) (a2 : Int32) : Ok id (f_L_negate v a1 a2) (f_X6_negate w a1 a2) := by
  have h0 : Rel v.1 (wt w 0) := Rel_t h 0
  rcases sl_c a1 with ⟨i1, hi1, rfl⟩ | ⟨e1, e2⟩
  rotate_left
  · exact Ok_e h 1 (by decide) 0 (by simp only [f_L_negate, f_X5_negate,  e1, obs, wtt, xb_r, xb_l, xh_r, xh_l, wp1, wp2, wp3, wp4, wp5, wp6, wp7, wpf, tf_F, ff_T, ft_F, ne_ai, ne_si, ne_sa, ne_ri, reduceIte, Bool.not_true, Bool.not_false]) (by simp only [f_X6_negate, lk2_f _ e2, obs, wtt, xb_r, xb_l, xh_r, xh_l, wp1, wp2, wp3, wp4, wp5, wp6, wp7, wpf, tf_F, ff_T, ft_F, ne_ai, ne_si, ne_sa, ne_ri, reduceIte, Bool.not_true, Bool.not_false])
  rcases sl_c a2 with ⟨i2, hi2, rfl⟩ | ⟨e1, e2⟩
  rotate_left
  · exact Ok_e h 1 (by decide) 0 (by simp only [f_L_negate, f_X5_negate, chk_ok hi1,  e1, obs, wtt, xb_r, xb_l, xh_r, xh_l, wp1, wp2, wp3, wp4, wp5, wp6, wp7, wpf, tf_F, ff_T, ft_F, ne_ai, ne_si, ne_sa, ne_ri, reduceIte, Bool.not_true, Bool.not_false]) (by simp only [f_X6_negate, lk2_g hi1 e2, obs, wtt, xb_r, xb_l, xh_r, xh_l, wp1, wp2, wp3, wp4, wp5, wp6, wp7, wpf, tf_F, ff_T, ft_F, ne_ai, ne_si, ne_sa, ne_ri, reduceIte, Bool.not_true, Bool.not_false])
  obtain ⟨z1, o1, p1, q1⟩ := h.1 i1 hi1
  obtain ⟨z2, o2, p2, q2⟩ := h.1 i2 hi2
  obtain ⟨v', w', eA, eB, hR, ht⟩ := v_become h0 hi2 (z := opp z1) (ok_opp o1)
  refine Ok_r v.2 (f_X0_placeOf (cB (opp z1))) (f_X0_placeOf (cB (opp z1))) hR ht rfl ?_ ?_
  · simp only [f_L_negate, f_X5_negate, chk_ok hi1, chk_ok hi2, obs, wtt, xb_r, xb_l, xh_r, xh_l, wp1, wp2, wp3, wp4, wp5, wp6, wp7, wpf, tf_F, ff_T, ft_F, ne_ai, ne_si, ne_sa, ne_ri, reduceIte, Bool.not_true, Bool.not_false, sl_cl hi1, sl_F hi1, p1, sl_cl hi2, sl_F hi2, p2, (v_opp o1).1, eA]
  · simp only [f_X6_negate, lk2_t hi1 hi2, obs, wtt, xb_r, xb_l, xh_r, xh_l, wp1, wp2, wp3, wp4, wp5, wp6, wp7, wpf, tf_F, ff_T, ft_F, ne_ai, ne_si, ne_sa, ne_ri, reduceIte, Bool.not_true, Bool.not_false, sl_cl hi1, sl_F hi1, q1, sl_cl hi2, sl_F hi2, q2, (v_opp o1).2, eB]
set_option maxHeartbeats 1000000 in
theorem ok_middle {v : SH} {w : StM} (h : Rel v.1 w) (a1 : Int32) (a2 : Int32) (a3 : Int32) : Ok id (f_L_middle v a1 a2 a3) (f_X6_middle w a1 a2 a3) := by
  have h0 : Rel v.1 (wt w 0) := Rel_t h 0
  rcases sl_c a1 with ⟨i1, hi1, rfl⟩ | ⟨e1, e2⟩
  rotate_left
  · exact Ok_e h 1 (by decide) 0 (by simp only [f_L_middle, f_X5_middle,  e1, obs, wtt, xb_r, xb_l, xh_r, xh_l, wp1, wp2, wp3, wp4, wp5, wp6, wp7, wpf, tf_F, ff_T, ft_F, ne_ai, ne_si, ne_sa, ne_ri, reduceIte, Bool.not_true, Bool.not_false]) (by simp only [f_X6_middle, lk3_f _ _ e2, obs, wtt, xb_r, xb_l, xh_r, xh_l, wp1, wp2, wp3, wp4, wp5, wp6, wp7, wpf, tf_F, ff_T, ft_F, ne_ai, ne_si, ne_sa, ne_ri, reduceIte, Bool.not_true, Bool.not_false])
  rcases sl_c a2 with ⟨i2, hi2, rfl⟩ | ⟨e1, e2⟩
  rotate_left
  · exact Ok_e h 1 (by decide) 0 (by simp only [f_L_middle, f_X5_middle, chk_ok hi1,  e1, obs, wtt, xb_r, xb_l, xh_r, xh_l, wp1, wp2, wp3, wp4, wp5, wp6, wp7, wpf, tf_F, ff_T, ft_F, ne_ai, ne_si, ne_sa, ne_ri, reduceIte, Bool.not_true, Bool.not_false]) (by simp only [f_X6_middle, lk3_g _ hi1 e2, obs, wtt, xb_r, xb_l, xh_r, xh_l, wp1, wp2, wp3, wp4, wp5, wp6, wp7, wpf, tf_F, ff_T, ft_F, ne_ai, ne_si, ne_sa, ne_ri, reduceIte, Bool.not_true, Bool.not_false])
  rcases sl_c a3 with ⟨i3, hi3, rfl⟩ | ⟨e1, e2⟩
  rotate_left
  · exact Ok_e h 1 (by decide) 0 (by simp only [f_L_middle, f_X5_middle, chk_ok hi1, chk_ok hi2,  e1, obs, wtt, xb_r, xb_l, xh_r, xh_l, wp1, wp2, wp3, wp4, wp5, wp6, wp7, wpf, tf_F, ff_T, ft_F, ne_ai, ne_si, ne_sa, ne_ri, reduceIte, Bool.not_true, Bool.not_false]) (by simp only [f_X6_middle, lk3_h hi1 hi2 e2, obs, wtt, xb_r, xb_l, xh_r, xh_l, wp1, wp2, wp3, wp4, wp5, wp6, wp7, wpf, tf_F, ff_T, ft_F, ne_ai, ne_si, ne_sa, ne_ri, reduceIte, Bool.not_true, Bool.not_false])
  obtain ⟨z1, o1, p1, q1⟩ := h.1 i1 hi1
  obtain ⟨z2, o2, p2, q2⟩ := h.1 i2 hi2
  obtain ⟨z3, o3, p3, q3⟩ := h.1 i3 hi3
  obtain ⟨v', w', eA, eB, hR, ht⟩ := v_become h0 hi3 (z := mid z1 z2) (ok_mid o1 o2)
  refine Ok_r v.2 (f_X0_placeOf (cB (mid z1 z2))) (f_X0_placeOf (cB (mid z1 z2))) hR ht rfl ?_ ?_
  · simp only [f_L_middle, f_X5_middle, chk_ok hi1, chk_ok hi2, chk_ok hi3, obs, wtt, xb_r, xb_l, xh_r, xh_l, wp1, wp2, wp3, wp4, wp5, wp6, wp7, wpf, tf_F, ff_T, ft_F, ne_ai, ne_si, ne_sa, ne_ri, reduceIte, Bool.not_true, Bool.not_false, sl_cl hi1, sl_F hi1, p1, sl_cl hi2, sl_F hi2, p2, sl_cl hi3, sl_F hi3, p3, (v_mid o1 o2).1, eA]
  · simp only [f_X6_middle, lk3_t hi1 hi2 hi3, obs, wtt, xb_r, xb_l, xh_r, xh_l, wp1, wp2, wp3, wp4, wp5, wp6, wp7, wpf, tf_F, ff_T, ft_F, ne_ai, ne_si, ne_sa, ne_ri, reduceIte, Bool.not_true, Bool.not_false, sl_cl hi1, sl_F hi1, q1, sl_cl hi2, sl_F hi2, q2, sl_cl hi3, sl_F hi3, q3, f_X6_placeIn, (v_place o1).2, (v_place o2).2, (v_mid o1 o2).2, eB]
set_option maxHeartbeats 1000000 in
theorem ok_unit {v : SH} {w : StM} (h : Rel v.1 w) (a1 : Int32) (a2 : Int32) : Ok id (f_L_unit v a1 a2) (f_X6_unit w a1 a2) := by
  have h0 : Rel v.1 (wt w 0) := Rel_t h 0
  rcases sl_c a1 with ⟨i1, hi1, rfl⟩ | ⟨e1, e2⟩
  rotate_left
  · exact Ok_e h 1 (by decide) 0 (by simp only [f_L_unit, f_X5_unit,  e1, obs, wtt, xb_r, xb_l, xh_r, xh_l, wp1, wp2, wp3, wp4, wp5, wp6, wp7, wpf, tf_F, ff_T, ft_F, ne_ai, ne_si, ne_sa, ne_ri, reduceIte, Bool.not_true, Bool.not_false]) (by simp only [f_X6_unit, lk2_f _ e2, obs, wtt, xb_r, xb_l, xh_r, xh_l, wp1, wp2, wp3, wp4, wp5, wp6, wp7, wpf, tf_F, ff_T, ft_F, ne_ai, ne_si, ne_sa, ne_ri, reduceIte, Bool.not_true, Bool.not_false])
  rcases sl_c a2 with ⟨i2, hi2, rfl⟩ | ⟨e1, e2⟩
  rotate_left
  · exact Ok_e h 1 (by decide) 0 (by simp only [f_L_unit, f_X5_unit, chk_ok hi1,  e1, obs, wtt, xb_r, xb_l, xh_r, xh_l, wp1, wp2, wp3, wp4, wp5, wp6, wp7, wpf, tf_F, ff_T, ft_F, ne_ai, ne_si, ne_sa, ne_ri, reduceIte, Bool.not_true, Bool.not_false]) (by simp only [f_X6_unit, lk2_g hi1 e2, obs, wtt, xb_r, xb_l, xh_r, xh_l, wp1, wp2, wp3, wp4, wp5, wp6, wp7, wpf, tf_F, ff_T, ft_F, ne_ai, ne_si, ne_sa, ne_ri, reduceIte, Bool.not_true, Bool.not_false])
  obtain ⟨z1, o1, p1, q1⟩ := h.1 i1 hi1
  obtain ⟨z2, o2, p2, q2⟩ := h.1 i2 hi2
  obtain ⟨v', w', eA, eB, hR, ht⟩ := v_become h0 hi2 (z := unt z1) (ok_unt z1)
  refine Ok_r v.2 (f_X0_placeOf (cB (unt z1))) (f_X0_placeOf (cB (unt z1))) hR ht rfl ?_ ?_
  · simp only [f_L_unit, f_X5_unit, chk_ok hi1, chk_ok hi2, obs, wtt, xb_r, xb_l, xh_r, xh_l, wp1, wp2, wp3, wp4, wp5, wp6, wp7, wpf, tf_F, ff_T, ft_F, ne_ai, ne_si, ne_sa, ne_ri, reduceIte, Bool.not_true, Bool.not_false, sl_cl hi1, sl_F hi1, p1, sl_cl hi2, sl_F hi2, p2, (v_unit o1).1, eA]
  · simp only [f_X6_unit, lk2_t hi1 hi2, obs, wtt, xb_r, xb_l, xh_r, xh_l, wp1, wp2, wp3, wp4, wp5, wp6, wp7, wpf, tf_F, ff_T, ft_F, ne_ai, ne_si, ne_sa, ne_ri, reduceIte, Bool.not_true, Bool.not_false, sl_cl hi1, sl_F hi1, q1, sl_cl hi2, sl_F hi2, q2, (v_unit o1).2, eB]
set_option maxHeartbeats 1000000 in
theorem ok_scale {v : SH} {w : StM} (h : Rel v.1 w) (a1 : Int32) (a2 : Int32) (a3 : Int32) : Ok id (f_L_scale v a1 a2 a3) (f_X6_scale w a1 a2 a3) := by
  have h0 : Rel v.1 (wt w 0) := Rel_t h 0
  rcases sl_c a1 with ⟨i1, hi1, rfl⟩ | ⟨e1, e2⟩
  rotate_left
  · exact Ok_e h 1 (by decide) 0 (by simp only [f_L_scale, f_X5_scale,  e1, obs, wtt, xb_r, xb_l, xh_r, xh_l, wp1, wp2, wp3, wp4, wp5, wp6, wp7, wpf, tf_F, ff_T, ft_F, ne_ai, ne_si, ne_sa, ne_ri, reduceIte, Bool.not_true, Bool.not_false]) (by simp only [f_X6_scale, lk2_f _ e2, obs, wtt, xb_r, xb_l, xh_r, xh_l, wp1, wp2, wp3, wp4, wp5, wp6, wp7, wpf, tf_F, ff_T, ft_F, ne_ai, ne_si, ne_sa, ne_ri, reduceIte, Bool.not_true, Bool.not_false])
  rcases sl_c a3 with ⟨i3, hi3, rfl⟩ | ⟨e1, e2⟩
  rotate_left
  · exact Ok_e h 1 (by decide) 0 (by simp only [f_L_scale, f_X5_scale, chk_ok hi1,  e1, obs, wtt, xb_r, xb_l, xh_r, xh_l, wp1, wp2, wp3, wp4, wp5, wp6, wp7, wpf, tf_F, ff_T, ft_F, ne_ai, ne_si, ne_sa, ne_ri, reduceIte, Bool.not_true, Bool.not_false]) (by simp only [f_X6_scale, lk2_g hi1 e2, obs, wtt, xb_r, xb_l, xh_r, xh_l, wp1, wp2, wp3, wp4, wp5, wp6, wp7, wpf, tf_F, ff_T, ft_F, ne_ai, ne_si, ne_sa, ne_ri, reduceIte, Bool.not_true, Bool.not_false])
  rcases rg_c a2 (-4200) 4200 with ⟨r11, r12, r13, r14⟩ | ⟨e1, e2⟩
  rotate_left
  · exact Ok_e h 2 (by decide) 0 (by simp only [f_L_scale, f_X5_scale, chk_ok hi1, chk_ok hi3,  e1, obs, wtt, xb_r, xb_l, xh_r, xh_l, wp1, wp2, wp3, wp4, wp5, wp6, wp7, wpf, tf_F, ff_T, ft_F, ne_ai, ne_si, ne_sa, ne_ri, reduceIte, Bool.not_true, Bool.not_false]) (by simp only [f_X6_scale, lk2_t hi1 hi3,  e2, obs, wtt, xb_r, xb_l, xh_r, xh_l, wp1, wp2, wp3, wp4, wp5, wp6, wp7, wpf, tf_F, ff_T, ft_F, ne_ai, ne_si, ne_sa, ne_ri, reduceIte, Bool.not_true, Bool.not_false])
  obtain ⟨z1, o1, p1, q1⟩ := h.1 i1 hi1
  obtain ⟨z3, o3, p3, q3⟩ := h.1 i3 hi3
  have l1 : (-4200 : Int32).toInt = -4200 := by decide
  have l2 : (4200 : Int32).toInt = 4200 := rfl
  rw [fa_lt] at r13 r14
  have sc := v_scaled o1 (a := a2) (by omega)
  obtain ⟨v', w', eA, eB, hR, ht⟩ := v_become h0 hi3 (z := scl z1 a2.toInt) (ok_scl o1 _)
  refine Ok_r v.2 (f_X0_placeOf (cB (scl z1 a2.toInt))) (f_X0_placeOf (cB (scl z1 a2.toInt))) hR ht rfl ?_ ?_
  · simp only [f_L_scale, f_X5_scale, chk_ok hi1, chk_ok hi3, r11, obs, wtt, xb_r, xb_l, xh_r, xh_l, wp1, wp2, wp3, wp4, wp5, wp6, wp7, wpf, tf_F, ff_T, ft_F, ne_ai, ne_si, ne_sa, ne_ri, reduceIte, Bool.not_true, Bool.not_false, sl_cl hi1, sl_F hi1, p1, sl_cl hi3, sl_F hi3, p3, sc.1, eA]
  · simp only [f_X6_scale, lk2_t hi1 hi3, obs, wtt, xb_r, xb_l, xh_r, xh_l, wp1, wp2, wp3, wp4, wp5, wp6, wp7, wpf, tf_F, ff_T, ft_F, ne_ai, ne_si, ne_sa, ne_ri, reduceIte, Bool.not_true, Bool.not_false, r12, sl_cl hi1, sl_F hi1, q1, sl_cl hi3, sl_F hi3, q3, sc.2, eB]
set_option maxHeartbeats 1000000 in
theorem ok_isKept {v : SH} {w : StM} (h : Rel v.1 w) (a1 : Int32) (a2 : Int32) : Ok b2l (f_L_isKept v a1 a2) (f_X6_isKept w a1 a2) := by
  have h0 : Rel v.1 (wt w 0) := Rel_t h 0
  rcases sl_c a1 with ⟨i1, hi1, rfl⟩ | ⟨e1, e2⟩
  rotate_left
  · exact Ok_e h 1 (by decide) false (by simp only [f_L_isKept, f_X5_isKept,  e1, obs, wtt, xb_r, xb_l, xh_r, xh_l, wp1, wp2, wp3, wp4, wp5, wp6, wp7, wpf, tf_F, ff_T, ft_F, ne_ai, ne_si, ne_sa, ne_ri, reduceIte, Bool.not_true, Bool.not_false]) (by simp only [f_X6_isKept, lk1_f e2, obs, wtt, xb_r, xb_l, xh_r, xh_l, wp1, wp2, wp3, wp4, wp5, wp6, wp7, wpf, tf_F, ff_T, ft_F, ne_ai, ne_si, ne_sa, ne_ri, reduceIte, Bool.not_true, Bool.not_false])
  rcases rg_c a2 (-4200) 4200 with ⟨r11, r12, r13, r14⟩ | ⟨e1, e2⟩
  rotate_left
  · exact Ok_e h 2 (by decide) false (by simp only [f_L_isKept, f_X5_isKept, chk_ok hi1,  e1, obs, wtt, xb_r, xb_l, xh_r, xh_l, wp1, wp2, wp3, wp4, wp5, wp6, wp7, wpf, tf_F, ff_T, ft_F, ne_ai, ne_si, ne_sa, ne_ri, reduceIte, Bool.not_true, Bool.not_false]) (by simp only [f_X6_isKept, lk1_t hi1,  e2, obs, wtt, xb_r, xb_l, xh_r, xh_l, wp1, wp2, wp3, wp4, wp5, wp6, wp7, wpf, tf_F, ff_T, ft_F, ne_ai, ne_si, ne_sa, ne_ri, reduceIte, Bool.not_true, Bool.not_false])
  obtain ⟨z1, o1, p1, q1⟩ := h.1 i1 hi1
  have l1 : (-4200 : Int32).toInt = -4200 := by decide
  have l2 : (4200 : Int32).toInt = 4200 := rfl
  rw [fa_lt] at r13 r14
  have sc := v_scaled o1 (a := a2) (by omega)
  have ng : (-a2).toInt = -a2.toInt := fb_negI (by omega)
  have sd := v_scaled (ok_scl o1 a2.toInt) (a := -a2) (by omega)
  have kB := cB_inj (ok_scl (ok_scl o1 a2.toInt) (-a2).toInt) o1
  have kC := cC_inj (ok_scl (ok_scl o1 a2.toInt) (-a2).toInt) o1
  by_cases c9 : scl (scl z1 a2.toInt) (-a2).toInt = z1
  · refine Ok_r v.2 1 true h0 rfl rfl ?_ ?_
    · simp only [f_L_isKept, f_X5_isKept, chk_ok hi1, r11, obs, wtt, xb_r, xb_l, xh_r, xh_l, wp1, wp2, wp3, wp4, wp5, wp6, wp7, wpf, tf_F, ff_T, ft_F, ne_ai, ne_si, ne_sa, ne_ri, reduceIte, Bool.not_true, Bool.not_false, sl_cl hi1, sl_F hi1, p1, sc.1, sd.1, kB, eq_true c9]
    · simp only [f_X6_isKept, lk1_t hi1, obs, wtt, xb_r, xb_l, xh_r, xh_l, wp1, wp2, wp3, wp4, wp5, wp6, wp7, wpf, tf_F, ff_T, ft_F, ne_ai, ne_si, ne_sa, ne_ri, reduceIte, Bool.not_true, Bool.not_false, r12, sl_cl hi1, sl_F hi1, q1, sc.2, sd.2, kC, eq_true c9]
  · refine Ok_r v.2 0 false h0 rfl rfl ?_ ?_
    · simp only [f_L_isKept, f_X5_isKept, chk_ok hi1, r11, obs, wtt, xb_r, xb_l, xh_r, xh_l, wp1, wp2, wp3, wp4, wp5, wp6, wp7, wpf, tf_F, ff_T, ft_F, ne_ai, ne_si, ne_sa, ne_ri, reduceIte, Bool.not_true, Bool.not_false, sl_cl hi1, sl_F hi1, p1, sc.1, sd.1, kB, eq_false c9]
    · simp only [f_X6_isKept, lk1_t hi1, obs, wtt, xb_r, xb_l, xh_r, xh_l, wp1, wp2, wp3, wp4, wp5, wp6, wp7, wpf, tf_F, ff_T, ft_F, ne_ai, ne_si, ne_sa, ne_ri, reduceIte, Bool.not_true, Bool.not_false, r12, sl_cl hi1, sl_F hi1, q1, sc.2, sd.2, kC, eq_false c9]
set_option maxHeartbeats 1000000 in
theorem ok_isOne {v : SH} {w : StM} (h : Rel v.1 w) (a1 : Int32) (a2 : Int32) (a3 : Int32) : Ok b2l (f_L_isOne v a1 a2 a3) (f_X6_isOne w a1 a2 a3) := by
  have h0 : Rel v.1 (wt w 0) := Rel_t h 0
  rcases sl_c a1 with ⟨i1, hi1, rfl⟩ | ⟨e1, e2⟩
  rotate_left
  · exact Ok_e h 1 (by decide) false (by simp only [f_L_isOne, f_X5_isOne,  e1, obs, wtt, xb_r, xb_l, xh_r, xh_l, wp1, wp2, wp3, wp4, wp5, wp6, wp7, wpf, tf_F, ff_T, ft_F, ne_ai, ne_si, ne_sa, ne_ri, reduceIte, Bool.not_true, Bool.not_false]) (by simp only [f_X6_isOne, lk1_f e2, obs, wtt, xb_r, xb_l, xh_r, xh_l, wp1, wp2, wp3, wp4, wp5, wp6, wp7, wpf, tf_F, ff_T, ft_F, ne_ai, ne_si, ne_sa, ne_ri, reduceIte, Bool.not_true, Bool.not_false])
  rcases rg_c a2 (-2100) 2100 with ⟨r11, r12, r13, r14⟩ | ⟨e1, e2⟩
  rotate_left
  · exact Ok_e h 2 (by decide) false (by simp only [f_L_isOne, f_X5_isOne, chk_ok hi1,  e1, obs, wtt, xb_r, xb_l, xh_r, xh_l, wp1, wp2, wp3, wp4, wp5, wp6, wp7, wpf, tf_F, ff_T, ft_F, ne_ai, ne_si, ne_sa, ne_ri, reduceIte, Bool.not_true, Bool.not_false]) (by simp only [f_X6_isOne, lk1_t hi1,  e2, obs, wtt, xb_r, xb_l, xh_r, xh_l, wp1, wp2, wp3, wp4, wp5, wp6, wp7, wpf, tf_F, ff_T, ft_F, ne_ai, ne_si, ne_sa, ne_ri, reduceIte, Bool.not_true, Bool.not_false])
  rcases rg_c a3 (-2100) 2100 with ⟨r21, r22, r23, r24⟩ | ⟨e1, e2⟩
  rotate_left
  · exact Ok_e h 2 (by decide) false (by simp only [f_L_isOne, f_X5_isOne, chk_ok hi1, r11,  e1, obs, wtt, xb_r, xb_l, xh_r, xh_l, wp1, wp2, wp3, wp4, wp5, wp6, wp7, wpf, tf_F, ff_T, ft_F, ne_ai, ne_si, ne_sa, ne_ri, reduceIte, Bool.not_true, Bool.not_false]) (by simp only [f_X6_isOne, lk1_t hi1, r12,  e2, obs, wtt, xb_r, xb_l, xh_r, xh_l, wp1, wp2, wp3, wp4, wp5, wp6, wp7, wpf, tf_F, ff_T, ft_F, ne_ai, ne_si, ne_sa, ne_ri, reduceIte, Bool.not_true, Bool.not_false])
  obtain ⟨z1, o1, p1, q1⟩ := h.1 i1 hi1
  have l1 : (-2100 : Int32).toInt = -2100 := by decide
  have l2 : (2100 : Int32).toInt = 2100 := rfl
  rw [fa_lt] at r13 r14 r23 r24
  have sc := v_scaled o1 (a := a2) (by omega)
  have sd := v_scaled (ok_scl o1 a2.toInt) (a := a3) (by omega)
  have ad : (a2 + a3).toInt = a2.toInt + a3.toInt := fb_addI (by omega) (by omega)
  have se := v_scaled o1 (a := a2 + a3) (by omega)
  have kB := cB_inj (ok_scl (ok_scl o1 a2.toInt) a3.toInt) (ok_scl o1 (a2 + a3).toInt)
  have kC := cC_inj (ok_scl (ok_scl o1 a2.toInt) a3.toInt) (ok_scl o1 (a2 + a3).toInt)
  by_cases c9 : scl (scl z1 a2.toInt) a3.toInt = scl z1 (a2 + a3).toInt
  · refine Ok_r v.2 1 true h0 rfl rfl ?_ ?_
    · simp only [f_L_isOne, f_X5_isOne, chk_ok hi1, r11, r21, obs, wtt, xb_r, xb_l, xh_r, xh_l, wp1, wp2, wp3, wp4, wp5, wp6, wp7, wpf, tf_F, ff_T, ft_F, ne_ai, ne_si, ne_sa, ne_ri, reduceIte, Bool.not_true, Bool.not_false, sl_cl hi1, sl_F hi1, p1, sc.1, sd.1, se.1, kB, eq_true c9]
    · simp only [f_X6_isOne, lk1_t hi1, obs, wtt, xb_r, xb_l, xh_r, xh_l, wp1, wp2, wp3, wp4, wp5, wp6, wp7, wpf, tf_F, ff_T, ft_F, ne_ai, ne_si, ne_sa, ne_ri, reduceIte, Bool.not_true, Bool.not_false, r12, r22, sl_cl hi1, sl_F hi1, q1, sc.2, sd.2, se.2, kC, eq_true c9]
  · refine Ok_r v.2 0 false h0 rfl rfl ?_ ?_
    · simp only [f_L_isOne, f_X5_isOne, chk_ok hi1, r11, r21, obs, wtt, xb_r, xb_l, xh_r, xh_l, wp1, wp2, wp3, wp4, wp5, wp6, wp7, wpf, tf_F, ff_T, ft_F, ne_ai, ne_si, ne_sa, ne_ri, reduceIte, Bool.not_true, Bool.not_false, sl_cl hi1, sl_F hi1, p1, sc.1, sd.1, se.1, kB, eq_false c9]
    · simp only [f_X6_isOne, lk1_t hi1, obs, wtt, xb_r, xb_l, xh_r, xh_l, wp1, wp2, wp3, wp4, wp5, wp6, wp7, wpf, tf_F, ff_T, ft_F, ne_ai, ne_si, ne_sa, ne_ri, reduceIte, Bool.not_true, Bool.not_false, r12, r22, sl_cl hi1, sl_F hi1, q1, sc.2, sd.2, se.2, kC, eq_false c9]
