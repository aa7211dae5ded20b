/-! operations with the row and the past -/
set_option maxHeartbeats 1000000 in
theorem ok_play {v : SH} {w : StM} (h : Rel v.1 w) (a1 : Int32) (a2 : Int32) : Ok id (f_L_play v a1 a2) (f_X6_play w a1 a2) := by
  have h0 : Rel v.1 (wt w 0) := Rel_t h 0
  rcases sl_c a1 with ⟨i1, hi1, rfl⟩ | ⟨e1, e2⟩
  rotate_left
  · exact Ok_e h 1 (by decide) 0 (by simp only [f_L_play, f_X5_play,  e1, obs, wtt, xb_r, xb_l, xh_r, xh_l, wp1, wp2, wp3, wp4, wp5, wp6, wp7, wpf, tf_F, ff_T, ft_F, ne_ai, ne_si, ne_sa, ne_ri, reduceIte, Bool.not_true, Bool.not_false]) (by simp only [f_X6_play, lk2_f _ e2, obs, wtt, xb_r, xb_l, xh_r, xh_l, wp1, wp2, wp3, wp4, wp5, wp6, wp7, wpf, tf_F, ff_T, ft_F, ne_ai, ne_si, ne_sa, ne_ri, reduceIte, Bool.not_true, Bool.not_false])
  rcases sl_c a2 with ⟨i2, hi2, rfl⟩ | ⟨e1, e2⟩
  rotate_left
  · exact Ok_e h 1 (by decide) 0 (by simp only [f_L_play, f_X5_play, chk_ok hi1,  e1, obs, wtt, xb_r, xb_l, xh_r, xh_l, wp1, wp2, wp3, wp4, wp5, wp6, wp7, wpf, tf_F, ff_T, ft_F, ne_ai, ne_si, ne_sa, ne_ri, reduceIte, Bool.not_true, Bool.not_false]) (by simp only [f_X6_play, lk2_g hi1 e2, obs, wtt, xb_r, xb_l, xh_r, xh_l, wp1, wp2, wp3, wp4, wp5, wp6, wp7, wpf, tf_F, ff_T, ft_F, ne_ai, ne_si, ne_sa, ne_ri, reduceIte, Bool.not_true, Bool.not_false])
  obtain ⟨z1, o1, p1, q1⟩ := h.1 i1 hi1
  obtain ⟨z2, o2, p2, q2⟩ := h.1 i2 hi2
  obtain ⟨r, hr, r1, r2⟩ := x_playA h0 o1
  obtain ⟨v', w', eA, eB, hR, ht⟩ := v_become h0 hi2 (z := r) hr
  refine Ok_r v.2 (f_X0_placeOf (cB r)) (f_X0_placeOf (cB r)) hR ht rfl ?_ ?_
  · simp only [f_L_play, f_X5_play, chk_ok hi1, chk_ok hi2, obs, wtt, xb_r, xb_l, xh_r, xh_l, wp1, wp2, wp3, wp4, wp5, wp6, wp7, wpf, tf_F, ff_T, ft_F, ne_ai, ne_si, ne_sa, ne_ri, reduceIte, Bool.not_true, Bool.not_false, sl_cl hi1, sl_F hi1, p1, sl_cl hi2, sl_F hi2, p2, r1, eA]
  · simp only [f_X6_play, lk2_t hi1 hi2, obs, wtt, xb_r, xb_l, xh_r, xh_l, wp1, wp2, wp3, wp4, wp5, wp6, wp7, wpf, tf_F, ff_T, ft_F, ne_ai, ne_si, ne_sa, ne_ri, reduceIte, Bool.not_true, Bool.not_false, sl_cl hi1, sl_F hi1, q1, sl_cl hi2, sl_F hi2, q2, r2, eB]
set_option maxHeartbeats 1000000 in
theorem ok_playBack {v : SH} {w : StM} (h : Rel v.1 w) (a1 : Int32) (a2 : Int32) : Ok id (f_L_playBack v a1 a2) (f_X6_playBack w a1 a2) := by
  have h0 : Rel v.1 (wt w 0) := Rel_t h 0
  rcases sl_c a1 with ⟨i1, hi1, rfl⟩ | ⟨e1, e2⟩
  rotate_left
  · exact Ok_e h 1 (by decide) 0 (by simp only [f_L_playBack, f_X5_playBack,  e1, obs, wtt, xb_r, xb_l, xh_r, xh_l, wp1, wp2, wp3, wp4, wp5, wp6, wp7, wpf, tf_F, ff_T, ft_F, ne_ai, ne_si, ne_sa, ne_ri, reduceIte, Bool.not_true, Bool.not_false]) (by simp only [f_X6_playBack, lk2_f _ e2, obs, wtt, xb_r, xb_l, xh_r, xh_l, wp1, wp2, wp3, wp4, wp5, wp6, wp7, wpf, tf_F, ff_T, ft_F, ne_ai, ne_si, ne_sa, ne_ri, reduceIte, Bool.not_true, Bool.not_false])
  rcases sl_c a2 with ⟨i2, hi2, rfl⟩ | ⟨e1, e2⟩
  rotate_left
  · exact Ok_e h 1 (by decide) 0 (by simp only [f_L_playBack, f_X5_playBack, chk_ok hi1,  e1, obs, wtt, xb_r, xb_l, xh_r, xh_l, wp1, wp2, wp3, wp4, wp5, wp6, wp7, wpf, tf_F, ff_T, ft_F, ne_ai, ne_si, ne_sa, ne_ri, reduceIte, Bool.not_true, Bool.not_false]) (by simp only [f_X6_playBack, lk2_g hi1 e2, obs, wtt, xb_r, xb_l, xh_r, xh_l, wp1, wp2, wp3, wp4, wp5, wp6, wp7, wpf, tf_F, ff_T, ft_F, ne_ai, ne_si, ne_sa, ne_ri, reduceIte, Bool.not_true, Bool.not_false])
  obtain ⟨z1, o1, p1, q1⟩ := h.1 i1 hi1
  obtain ⟨z2, o2, p2, q2⟩ := h.1 i2 hi2
  obtain ⟨r, hr, r1, r2⟩ := x_backA h0 o1
  obtain ⟨v', w', eA, eB, hR, ht⟩ := v_become h0 hi2 (z := r) hr
  refine Ok_r v.2 (f_X0_placeOf (cB r)) (f_X0_placeOf (cB r)) hR ht rfl ?_ ?_
  · simp only [f_L_playBack, f_X5_playBack, chk_ok hi1, chk_ok hi2, obs, wtt, xb_r, xb_l, xh_r, xh_l, wp1, wp2, wp3, wp4, wp5, wp6, wp7, wpf, tf_F, ff_T, ft_F, ne_ai, ne_si, ne_sa, ne_ri, reduceIte, Bool.not_true, Bool.not_false, sl_cl hi1, sl_F hi1, p1, sl_cl hi2, sl_F hi2, p2, r1, eA]
  · simp only [f_X6_playBack, lk2_t hi1 hi2, obs, wtt, xb_r, xb_l, xh_r, xh_l, wp1, wp2, wp3, wp4, wp5, wp6, wp7, wpf, tf_F, ff_T, ft_F, ne_ai, ne_si, ne_sa, ne_ri, reduceIte, Bool.not_true, Bool.not_false, sl_cl hi1, sl_F hi1, q1, sl_cl hi2, sl_F hi2, q2, r2, eB]
set_option maxHeartbeats 1000000 in
theorem ok_isHome {v : SH} {w : StM} (h : Rel v.1 w) (a1 : Int32) : Ok b2l (f_L_isHome v a1) (f_X6_isHome w a1) := by
  have h0 : Rel v.1 (wt w 0) := Rel_t h 0
  rcases sl_c a1 with ⟨i1, hi1, rfl⟩ | ⟨e1, e2⟩
  rotate_left
  · exact Ok_e h 1 (by decide) false (by simp only [f_L_isHome, f_X5_isHome,  e1, obs, wtt, xb_r, xb_l, xh_r, xh_l, wp1, wp2, wp3, wp4, wp5, wp6, wp7, wpf, tf_F, ff_T, ft_F, ne_ai, ne_si, ne_sa, ne_ri, reduceIte, Bool.not_true, Bool.not_false]) (by simp only [f_X6_isHome, lk1_f e2, obs, wtt, xb_r, xb_l, xh_r, xh_l, wp1, wp2, wp3, wp4, wp5, wp6, wp7, wpf, tf_F, ff_T, ft_F, ne_ai, ne_si, ne_sa, ne_ri, reduceIte, Bool.not_true, Bool.not_false])
  obtain ⟨z1, o1, p1, q1⟩ := h.1 i1 hi1
  obtain ⟨r, hr, r1, r2⟩ := x_playA h0 o1
  obtain ⟨q, hq, s1, s2⟩ := x_backA h0 hr
  have kB := cB_inj hq o1
  have kC := cC_inj hq o1
  by_cases c9 : q = z1
  · refine Ok_r v.2 1 true h0 rfl rfl ?_ ?_
    · simp only [f_L_isHome, f_X5_isHome, chk_ok hi1, obs, wtt, xb_r, xb_l, xh_r, xh_l, wp1, wp2, wp3, wp4, wp5, wp6, wp7, wpf, tf_F, ff_T, ft_F, ne_ai, ne_si, ne_sa, ne_ri, reduceIte, Bool.not_true, Bool.not_false, sl_cl hi1, sl_F hi1, p1, f_X3_leadsHome, r1, s1, kB, eq_true c9]
    · simp only [f_X6_isHome, lk1_t hi1, obs, wtt, xb_r, xb_l, xh_r, xh_l, wp1, wp2, wp3, wp4, wp5, wp6, wp7, wpf, tf_F, ff_T, ft_F, ne_ai, ne_si, ne_sa, ne_ri, reduceIte, Bool.not_true, Bool.not_false, sl_cl hi1, sl_F hi1, q1, r2, s2, kC, eq_true c9]
  · refine Ok_r v.2 0 false h0 rfl rfl ?_ ?_
    · simp only [f_L_isHome, f_X5_isHome, chk_ok hi1, obs, wtt, xb_r, xb_l, xh_r, xh_l, wp1, wp2, wp3, wp4, wp5, wp6, wp7, wpf, tf_F, ff_T, ft_F, ne_ai, ne_si, ne_sa, ne_ri, reduceIte, Bool.not_true, Bool.not_false, sl_cl hi1, sl_F hi1, p1, f_X3_leadsHome, r1, s1, kB, eq_false c9]
    · simp only [f_X6_isHome, lk1_t hi1, obs, wtt, xb_r, xb_l, xh_r, xh_l, wp1, wp2, wp3, wp4, wp5, wp6, wp7, wpf, tf_F, ff_T, ft_F, ne_ai, ne_si, ne_sa, ne_ri, reduceIte, Bool.not_true, Bool.not_false, sl_cl hi1, sl_F hi1, q1, r2, s2, kC, eq_false c9]

theorem x_losses {v : StR} {u : StM} (hW : RelW v u.2.2.2.2.1 u.2.2.2.2.2.1 u.2.2.2.2.2.2.1) (U : StM) (q0 : Int64) (a0 : Int32) : ∀ (d n i k : Nat) (z : NV), nI (i + d) = v.2.2 → i + d ≤ 40 → d < n → ok z → ∃ r : Int32, f_X3_lossesFrom_L8 v q0 n (nI i) (cB z) (nI k) = some r ∧ f_X6_losses_L23 U a0 n (nI i) (nI k) (cC z) u = some (r, u) := by
  obtain ⟨a, ha, e1, e2, hE⟩ := hW
  intro d
  induction d with
  | zero =>
    intro n i k z hi hi2 hn hz
    obtain ⟨n, rfl⟩ : ∃ m, n = m + 1 := ⟨n - 1, by omega⟩
    rw [e1] at hi
    have hi3 := (nI_eq (by omega) (by omega)).mp hi
    refine ⟨nI k, ?_, ?_⟩
    · rw [f_X3_lossesFrom_L8, e1, if_neg (nI_nlt (by omega) (by omega))]
    · rw [f_X6_losses_L23, e2, if_neg (nI_nlt (by omega) (by omega))]
  | succ d ih =>
    intro n i k z hi hi2 hn hz
    obtain ⟨n, rfl⟩ : ∃ m, n = m + 1 := ⟨n - 1, by omega⟩
    have hi3 := (nI_eq (by omega) (by omega)).mp (hi.trans e1)
    obtain ⟨s1, s2, s3⟩ := hE i (by omega)
    have l : nI i < nI a := (nI_ltI (by omega) (by omega)).mpr (by omega)
    have of := ok_wdF (k := u.2.2.2.2.1 i) (n := u.2.2.2.2.2.1 i) hz
    have ob := ok_wdB (k := u.2.2.2.2.1 i) (n := u.2.2.2.2.2.1 i) of
    have mf := (m_wd (i := i) (by omega) rfl rfl s3 hz).1
    have mb := (m_wd (i := i) (by omega) rfl rfl s3 of).2
    rw [f_X3_lossesFrom_L8, f_X6_losses_L23, e1, e2, if_pos l, if_pos l, if_neg (nI_in (by omega) (by omega)), if_neg (nI_in (by omega) (by omega)), if_neg (nI_in (by omega) (by omega)), if_neg (nI_in (by omega) (by omega)), nI_clamp (by omega), s1, s2, x_wdF s3 hz, x_wdB s3 of, mf, obs, mb, obs, nI_1, nI_1]
    by_cases c : wdB (u.2.2.2.2.1 i) (u.2.2.2.2.2.1 i) (wdF (u.2.2.2.2.1 i) (u.2.2.2.2.2.1 i) z) = z
    · rw [if_pos ((cB_inj ob hz).mpr c), if_pos ((cC_inj ob hz).mpr c)]
      exact ih n (i + 1) k _ (by rw [show i + 1 + d = i + (d + 1) by omega]; exact hi) (by omega) (by omega) of
    · rw [if_neg (fun x => c ((cB_inj ob hz).mp x)), if_neg (fun x => c ((cC_inj ob hz).mp x))]
      exact ih n (i + 1) (k + 1) _ (by rw [show i + 1 + d = i + (d + 1) by omega]; exact hi) (by omega) (by omega) of
set_option maxHeartbeats 1000000 in
theorem ok_losses {v : SH} {w : StM} (h : Rel v.1 w) (a1 : Int32) : Ok Int32.toInt64 (f_L_losses v a1) (f_X6_losses w a1) := by
  have h0 : Rel v.1 (wt w 0) := Rel_t h 0
  rcases sl_c a1 with ⟨i1, hi1, rfl⟩ | ⟨e1, e2⟩
  rotate_left
  · exact Ok_e h 1 (by decide) 0 (by simp only [f_L_losses, f_X5_losses,  e1, obs, wtt, xb_r, xb_l, xh_r, xh_l, wp1, wp2, wp3, wp4, wp5, wp6, wp7, wpf, tf_F, ff_T, ft_F, ne_ai, ne_si, ne_sa, ne_ri, reduceIte, Bool.not_true, Bool.not_false]) (by simp only [f_X6_losses, lk1_f e2, obs, wtt, xb_r, xb_l, xh_r, xh_l, wp1, wp2, wp3, wp4, wp5, wp6, wp7, wpf, tf_F, ff_T, ft_F, ne_ai, ne_si, ne_sa, ne_ri, reduceIte, Bool.not_true, Bool.not_false])
  obtain ⟨z1, o1, p1, q1⟩ := h.1 i1 hi1
  obtain ⟨a, ha, e1, e2, hE⟩ := id h0.2.1
  obtain ⟨r, r1, r2⟩ := x_losses (u := wt w 0) h0.2.1 w (cB z1) (nI i1) a 100 0 0 z1 (by rw [Nat.zero_add]; exact e1.symm) (by omega) (by omega) o1
  have r1' : f_X3_lossesFrom v.1.2.1 (cB z1) = some r := r1
  have r2' : f_X6_losses_L23 w (nI i1) 100 0 0 (cC z1) (wt w 0) = some (r, wt w 0) := r2
  refine Ok_r v.2 r.toInt64 r h0 rfl rfl ?_ ?_
  · simp only [f_L_losses, f_X5_losses, chk_ok hi1, obs, wtt, xb_r, xb_l, xh_r, xh_l, wp1, wp2, wp3, wp4, wp5, wp6, wp7, wpf, tf_F, ff_T, ft_F, ne_ai, ne_si, ne_sa, ne_ri, reduceIte, Bool.not_true, Bool.not_false, sl_cl hi1, sl_F hi1, p1, r1']
  · simp only [f_X6_losses, lk1_t hi1, obs, wtt, xb_r, xb_l, xh_r, xh_l, wp1, wp2, wp3, wp4, wp5, wp6, wp7, wpf, tf_F, ff_T, ft_F, ne_ai, ne_si, ne_sa, ne_ri, reduceIte, Bool.not_true, Bool.not_false, sl_cl hi1, sl_F hi1, q1, r2']

theorem isW (k n : Int32) : f_X3_isWord k n = f_X6_isWord k n := by
  unfold f_X3_isWord f_X6_isWord f_X6_in
  by_cases c1 : k = 117
  · subst c1
    rw [if_pos rfl, if_neg (show ¬ (117 : Int32) = 110 by decide), if_neg (show ¬ (117 : Int32) = 120 by decide), if_pos rfl]
    by_cases d1 : n < 0
    · rw [if_pos d1]; rfl
    · rw [if_neg d1]
      by_cases d2 : 15 < n
      · rw [if_pos d2]; rfl
      · rw [if_neg d2]; rfl
  · rw [if_neg c1]
    by_cases c2 : k = 100
    · subst c2
      rw [if_pos rfl, if_neg (show ¬ (100 : Int32) = 110 by decide), if_neg (show ¬ (100 : Int32) = 120 by decide), if_neg (show ¬ (100 : Int32) = 117 by decide), if_pos rfl]
      by_cases d1 : n < 0
      · rw [if_pos d1]; rfl
      · rw [if_neg d1]
        by_cases d2 : 15 < n
        · rw [if_pos d2]; rfl
        · rw [if_neg d2]; rfl
    · rw [if_neg c2, if_neg c1, if_neg c2]
      by_cases c3 : k = 120
      · subst c3
        rw [if_pos rfl, if_neg (show ¬ (120 : Int32) = 110 by decide), if_pos rfl]
      · rw [if_neg c3, if_neg c3]
theorem wok_of {k n : Int32} (h : f_X3_isWord k n = true) : wok (vp_nar .char k) n ∧ vp_nar .char k = k := by
  have z0 : (0 : Int32).toInt = 0 := rfl
  have z1 : (15 : Int32).toInt = 15 := rfl
  have z2 : (40 : Int32).toInt = 40 := rfl
  have z3 : (-40 : Int32).toInt = -40 := by decide
  unfold f_X3_isWord at h
  by_cases c1 : k = 117
  · subst c1
    rw [if_pos rfl] at h
    by_cases d1 : n < 0
    · rw [if_pos d1] at h; cases h
    · rw [if_neg d1] at h
      by_cases d2 : 15 < n
      · rw [if_pos d2] at h; cases h
      · rw [fa_lt] at d1 d2
        exact ⟨Or.inl ⟨Or.inl (by decide), by omega, by omega⟩, by decide⟩
  · rw [if_neg c1] at h
    by_cases c2 : k = 100
    · subst c2
      rw [if_pos rfl] at h
      by_cases d1 : n < 0
      · rw [if_pos d1] at h; cases h
      · rw [if_neg d1] at h
        by_cases d2 : 15 < n
        · rw [if_pos d2] at h; cases h
        · rw [fa_lt] at d1 d2
          exact ⟨Or.inl ⟨Or.inr (by decide), by omega, by omega⟩, by decide⟩
    · rw [if_neg c2] at h
      by_cases c3 : k = 120
      · subst c3
        rw [if_pos rfl] at h
        by_cases d1 : n < -40
        · rw [if_pos d1] at h; cases h
        · rw [if_neg d1] at h
          by_cases d2 : 40 < n
          · rw [if_pos d2] at h; cases h
          · rw [fa_lt] at d1 d2
            exact ⟨Or.inr (Or.inl ⟨by decide, by omega, by omega⟩), by decide⟩
      · rw [if_neg c3] at h
        by_cases c4 : k = 110
        · subst c4
          rw [if_pos rfl] at h
          by_cases d1 : n = 0
          · exact ⟨Or.inr (Or.inr ⟨by decide, d1⟩), by decide⟩
          · rw [if_neg d1] at h; cases h
        · rw [if_neg c4] at h; cases h
theorem ok_say {v : SH} {w : StM} (h : Rel v.1 w) (a1 a2 : Int32) : Ok Int32.toInt64 (f_L_say v a1 a2) (f_X6_say w a1 a2) := by
  obtain ⟨hS, ⟨a, ha, e1, e2, hE⟩, hP⟩ := id h
  have iw := isW a1 a2
  have full : f_X3_isFull v.1.2.1 = decide (a = 40) := by
    unfold f_X3_isFull
    rw [e1]
    by_cases c : a = 40
    · subst c; rfl
    · rw [if_pos (show nI a < 40 from (nI_ltI (b := 40) (by omega) (by omega)).mpr (by omega)), decide_eq_false c]
  cases hw : f_X3_isWord a1 a2
  · rw [hw] at iw
    have key : f_X5_say v.1 a1 a2 = some (.inl "java/lang/IllegalArgumentException") := by
      unfold f_X5_say
      rw [hw, if_pos ff_P]
    exact Ok_e h 1 (by decide) 0 (by unfold f_L_say; rw [key, xh_l, if_pos rfl]) (by
      unfold f_X6_say
      rw [← iw]
      rfl)
  · rw [hw] at iw
    by_cases c : a = 40
    · subst c
      have key : f_X5_say v.1 a1 a2 = some (.inl "java/lang/IllegalStateException") := by
        unfold f_X5_say
        rw [hw, if_neg (show ¬ true = false by decide), full, if_neg (show ¬ decide (40 = 40) = false by decide)]
      exact Ok_e h 2 (by decide) 0 (by unfold f_L_say; rw [key, xh_l, if_neg (show ¬ "java/lang/IllegalStateException" = "java/lang/IllegalArgumentException" by decide +kernel), if_pos rfl]) (by
        unfold f_X6_say
        rw [← iw, if_pos (show (!true) = false from rfl), if_neg (show ¬ w.2.2.2.2.2.2.1 < 40 by rw [e2]; decide)]
        rfl)
    · have wk := wok_of hw
      have key : f_X5_say v.1 a1 a2 = some (.inr (nI (a + 1), (v.1.1, ((upd v.1.2.1.1 a (vp_nar .char a1), upd v.1.2.1.2.1 a a2, nI (a + 1)), v.1.2.2)))) := by
        unfold f_X5_say f_X3_add
        rw [hw, if_neg (show ¬ true = false by decide), full, decide_eq_false c, if_pos ff_P, e1, if_pos ff_P, if_neg (nI_in (by omega) (by omega)), if_neg (nI_in (by omega) (by omega)), nI_clamp (by omega), nI_1, obs]
        rfl
      refine Ok_r (v' := (v.1.1, ((upd v.1.2.1.1 a (vp_nar .char a1), upd v.1.2.1.2.1 a a2, nI (a + 1)), v.1.2.2))) (w' := (w.1, w.2.1, w.2.2.1, w.2.2.2.1, upd w.2.2.2.2.1 a (vp_nar .char a1), upd w.2.2.2.2.2.1 a a2, nI (a + 1), 0)) v.2 (nI (a + 1)).toInt64 (nI (a + 1)) ⟨hS, ⟨a + 1, by omega, rfl, rfl, fun i hi => ?_⟩, hP⟩ rfl rfl ?_ ?_
      · by_cases ci : i = a
        · subst ci
          show upd v.1.2.1.1 i (vp_nar .char a1) i = upd w.2.2.2.2.1 i (vp_nar .char a1) i ∧ upd v.1.2.1.2.1 i a2 i = upd w.2.2.2.2.2.1 i a2 i ∧ wok (upd w.2.2.2.2.1 i (vp_nar .char a1) i) (upd w.2.2.2.2.2.1 i a2 i)
          rw [pk_us, pk_us, pk_us, pk_us]
          exact ⟨rfl, rfl, wk.1⟩
        · show upd v.1.2.1.1 a (vp_nar .char a1) i = upd w.2.2.2.2.1 a (vp_nar .char a1) i ∧ upd v.1.2.1.2.1 a a2 i = upd w.2.2.2.2.2.1 a a2 i ∧ wok (upd w.2.2.2.2.1 a (vp_nar .char a1) i) (upd w.2.2.2.2.2.1 a a2 i)
          rw [pk_un ci, pk_un ci, pk_un ci, pk_un ci]
          exact hE i (by omega)
      · unfold f_L_say
        rw [key, xh_r]
      · unfold f_X6_say
        rw [← iw, if_pos (show (!true) = false from rfl), if_pos (show w.2.2.2.2.2.2.1 < 40 by rw [e2]; exact (nI_ltI (b := 40) (by omega) (by omega)).mpr (by omega)), e2, if_neg (nI_in (by omega) (by omega)), if_neg (nI_in (by omega) (by omega)), nI_clamp (by omega), nI_1]
theorem ok_undo {v : SH} {w : StM} (h : Rel v.1 w) : Ok Int32.toInt64 (f_L_undo v) (f_X6_undo w) := by
  obtain ⟨hS, hW, a, l, ha, hl, hl1, ha1, ha2, hE⟩ := id h
  by_cases c : a = 0
  · subst c
    have key : f_X5_undo v.1 = some (.inl "java/util/NoSuchElementException") := by
      unfold f_X5_undo f_X2_isEmpty
      rw [if_pos (show v.1.2.2.2.2.2 = 0 from ha1), if_neg (show ¬ true = false by decide)]
    exact Ok_e h 1 (by decide) 0 (by unfold f_L_undo; rw [key, xh_l, if_pos rfl]) (by
      unfold f_X6_undo
      rw [if_neg (show ¬ 0 < w.2.2.2.1 by rw [ha2]; decide)]
      rfl)
  · obtain ⟨i, hi, s1, s2, s3⟩ := hE (a - 1) (by omega)
    rw [show (l + 9 + (a - 1) - a) % 8 = l by omega] at s2 s3
    have p : nI a - 1 = nI (a - 1) := pk_sub (b := 1) (by omega)
    have fl : nI l + 8 - 1 - (nI l + 8 - 1) / 8 * 8 = nI ((l + 7) % 8) := by
      show nI l + nI 8 - nI 1 - (nI l + nI 8 - nI 1) / 8 * 8 = _
      rw [nI_add, pk_sub (by omega), nI_rem8 (by omega)]
      congr 1
    have key : f_X5_undo v.1 = some (.inr (nI i, (vp_updL v.1.1 i (v.1.2.2.2.1 l), v.1.2.1, (v.1.2.2.1, v.1.2.2.2.1, nI ((l + 7) % 8), nI (a - 1))))) := by
      unfold f_X5_undo f_X2_isEmpty f_X2_latestSlot f_X2_latestNumber f_X2_forgetLatest
      rw [if_neg (show ¬ v.1.2.2.2.2.2 = 0 by rw [ha1]; exact nI_ne0 (by omega) (by omega)), if_pos ff_P, hl1, if_neg (sl_in hl), obs, if_neg (sl_in hl), obs, sl_cl hl, s2, if_neg (sl_in hi), obs, sl_cl hi, ha1, fl, p]
    refine Ok_r (v' := (vp_updL v.1.1 i (v.1.2.2.2.1 l), v.1.2.1, (v.1.2.2.1, v.1.2.2.2.1, nI ((l + 7) % 8), nI (a - 1)))) (w' := (vp_updL w.1 i (w.2.2.1 (a - 1)), w.2.1, w.2.2.1, nI (a - 1), w.2.2.2.2.1, w.2.2.2.2.2.1, w.2.2.2.2.2.2.1, 0)) v.2 (nI i).toInt64 (nI i) ⟨uS hS s3, hW, a - 1, (l + 7) % 8, by omega, by omega, rfl, rfl, rfl, fun j hj => ?_⟩ rfl rfl ?_ ?_
    · obtain ⟨q, hq, t1, t2, t3⟩ := hE j (by omega)
      rw [show (l + 9 + j - a) % 8 = ((l + 7) % 8 + 9 + j - (a - 1)) % 8 by omega] at t2 t3
      exact ⟨q, hq, t1, t2, t3⟩
    · unfold f_L_undo
      rw [key, xh_r]
    · unfold f_X6_undo
      rw [if_pos (show 0 < w.2.2.2.1 by rw [ha2]; exact (nI_ltI (a := 0) (by omega) (by omega)).mpr (by omega)), ha2, p, if_neg (sl_in (by omega)), if_neg (sl_in (by omega)), sl_cl (by omega), s1, if_neg (sl_in hi), if_neg (sl_in2 (by omega)), sl_cl hi]
