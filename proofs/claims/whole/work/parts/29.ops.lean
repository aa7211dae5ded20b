/-! operations with loops -/
set_option maxHeartbeats 1000000 in
theorem ok_up {v : SH} {w : StM} (h : Rel v.1 w) (a1 : Int32) (a2 : Int32) : Ok Int32.toInt64 (f_L_up v a1 a2) (f_X6_up w a1 a2) := by
  have h0 : Rel v.1 (wt w 0) := Rel_t h 0
  rcases sl_c a1 with ⟨i1, hi1, rfl⟩ | ⟨e1, e2⟩
  rotate_left
  · exact Ok_e h 1 (by decide) 0 (by simp only [f_L_up, f_X5_up,  e1, obs, wtt, xb_r, xb_l, xh_r, xh_l, wp1, wp2, wp3, wp4, wp5, wp6, wp7, wpf, tf_F, ff_T, ft_F, ne_ai, ne_si, ne_sa, ne_ri, reduceIte, Bool.not_true, Bool.not_false]) (by simp only [f_X6_up, lk1_f e2, obs, wtt, xb_r, xb_l, xh_r, xh_l, wp1, wp2, wp3, wp4, wp5, wp6, wp7, wpf, tf_F, ff_T, ft_F, ne_ai, ne_si, ne_sa, ne_ri, reduceIte, Bool.not_true, Bool.not_false])
  rcases rg_c a2 0 64 with ⟨r11, r12, r13, r14⟩ | ⟨e1, e2⟩
  rotate_left
  · exact Ok_e h 2 (by decide) 0 (by simp only [f_L_up, f_X5_up, chk_ok hi1,  e1, obs, wtt, xb_r, xb_l, xh_r, xh_l, wp1, wp2, wp3, wp4, wp5, wp6, wp7, wpf, tf_F, ff_T, ft_F, ne_ai, ne_si, ne_sa, ne_ri, reduceIte, Bool.not_true, Bool.not_false]) (by simp only [f_X6_up, lk1_t hi1,  e2, obs, wtt, xb_r, xb_l, xh_r, xh_l, wp1, wp2, wp3, wp4, wp5, wp6, wp7, wpf, tf_F, ff_T, ft_F, ne_ai, ne_si, ne_sa, ne_ri, reduceIte, Bool.not_true, Bool.not_false])
  obtain ⟨z1, o1, p1, q1⟩ := h.1 i1 hi1
  obtain ⟨N, hN, rfl⟩ := nI_of r13
  have hN64 : N ≤ 64 := Nat.le_of_not_lt (fun k => r14 ((nI_ltI (a := 64) (by omega) (by omega)).mpr k))
  have hU := v_raised o1 (n := N) (by omega)
  have st := m_steps (u := wt w 0) hi1 hN64 o1 q1 up1 (fun v h => ok_up1 h) 117 0 (fun v h => by rw [if_pos rfl]; exact v_above h)
  rw [itr_up o1] at st
  obtain ⟨v', w', eA, eB, hR, ht⟩ := v_become h0 hi1 (z := upn z1 N) (ok_upn N o1)
  rw [eB, obs] at st
  have an : (f_X0_placeOf (cB (upn z1 N)) - f_X0_placeOf (cB z1)).toInt32 = nI (cnt up1 N z1) := by
    rw [pO (ok_upn N o1), pO o1, ← Int64.ofInt_sub, ← cnt_up o1 N]; exact lN_i _
  refine Ok_r v.2 (nI (cnt up1 N z1)).toInt64 (nI (cnt up1 N z1)) hR ht rfl ?_ ?_
  · simp only [f_L_up, f_X5_up, chk_ok hi1, r11, obs, wtt, xb_r, xb_l, xh_r, xh_l, wp1, wp2, wp3, wp4, wp5, wp6, wp7, wpf, tf_F, ff_T, ft_F, ne_ai, ne_si, ne_sa, ne_ri, reduceIte, Bool.not_true, Bool.not_false, sl_cl hi1, sl_F hi1, p1, hU, eA, an]
  · simp only [f_X6_up, lk1_t hi1, obs, wtt, xb_r, xb_l, xh_r, xh_l, wp1, wp2, wp3, wp4, wp5, wp6, wp7, wpf, tf_F, ff_T, ft_F, ne_ai, ne_si, ne_sa, ne_ri, reduceIte, Bool.not_true, Bool.not_false, r12, sl_cl hi1, sl_F hi1, q1, st]
set_option maxHeartbeats 1000000 in
theorem ok_down {v : SH} {w : StM} (h : Rel v.1 w) (a1 : Int32) (a2 : Int32) : Ok Int32.toInt64 (f_L_down v a1 a2) (f_X6_down w a1 a2) := by
  have h0 : Rel v.1 (wt w 0) := Rel_t h 0
  rcases sl_c a1 with ⟨i1, hi1, rfl⟩ | ⟨e1, e2⟩
  rotate_left
  · exact Ok_e h 1 (by decide) 0 (by simp only [f_L_down, f_X5_down,  e1, obs, wtt, xb_r, xb_l, xh_r, xh_l, wp1, wp2, wp3, wp4, wp5, wp6, wp7, wpf, tf_F, ff_T, ft_F, ne_ai, ne_si, ne_sa, ne_ri, reduceIte, Bool.not_true, Bool.not_false]) (by simp only [f_X6_down, lk1_f e2, obs, wtt, xb_r, xb_l, xh_r, xh_l, wp1, wp2, wp3, wp4, wp5, wp6, wp7, wpf, tf_F, ff_T, ft_F, ne_ai, ne_si, ne_sa, ne_ri, reduceIte, Bool.not_true, Bool.not_false])
  rcases rg_c a2 0 64 with ⟨r11, r12, r13, r14⟩ | ⟨e1, e2⟩
  rotate_left
  · exact Ok_e h 2 (by decide) 0 (by simp only [f_L_down, f_X5_down, chk_ok hi1,  e1, obs, wtt, xb_r, xb_l, xh_r, xh_l, wp1, wp2, wp3, wp4, wp5, wp6, wp7, wpf, tf_F, ff_T, ft_F, ne_ai, ne_si, ne_sa, ne_ri, reduceIte, Bool.not_true, Bool.not_false]) (by simp only [f_X6_down, lk1_t hi1,  e2, obs, wtt, xb_r, xb_l, xh_r, xh_l, wp1, wp2, wp3, wp4, wp5, wp6, wp7, wpf, tf_F, ff_T, ft_F, ne_ai, ne_si, ne_sa, ne_ri, reduceIte, Bool.not_true, Bool.not_false])
  obtain ⟨z1, o1, p1, q1⟩ := h.1 i1 hi1
  obtain ⟨N, hN, rfl⟩ := nI_of r13
  have hN64 : N ≤ 64 := Nat.le_of_not_lt (fun k => r14 ((nI_ltI (a := 64) (by omega) (by omega)).mpr k))
  have hU := v_lowered o1 (n := N) (by omega)
  have st := m_steps (u := wt w 0) hi1 hN64 o1 q1 dn1 (fun v h => ok_dn1 h) 100 0 (fun v h => by rw [if_neg (by decide), if_pos rfl]; exact v_below h)
  rw [itr_dn, itr_up (ok_opp o1)] at st
  have oz : ok (opp (upn (opp z1) N)) := ok_opp (ok_upn N (ok_opp o1))
  obtain ⟨v', w', eA, eB, hR, ht⟩ := v_become h0 hi1 (z := opp (upn (opp z1) N)) oz
  rw [eB, obs] at st
  have an : (f_X0_placeOf (cB z1) - f_X0_placeOf (cB (opp (upn (opp z1) N)))).toInt32 = nI (cnt dn1 N z1) := by
    have c := cnt_up (ok_opp o1) N
    rw [pl_opp] at c
    rw [pO oz, pO o1, ← Int64.ofInt_sub, pl_opp, cnt_dn, show pl z1 - -pl (upn (opp z1) N) = (cnt up1 N (opp z1) : Int) by omega]; exact lN_i _
  refine Ok_r v.2 (nI (cnt dn1 N z1)).toInt64 (nI (cnt dn1 N z1)) hR ht rfl ?_ ?_
  · simp only [f_L_down, f_X5_down, chk_ok hi1, r11, obs, wtt, xb_r, xb_l, xh_r, xh_l, wp1, wp2, wp3, wp4, wp5, wp6, wp7, wpf, tf_F, ff_T, ft_F, ne_ai, ne_si, ne_sa, ne_ri, reduceIte, Bool.not_true, Bool.not_false, sl_cl hi1, sl_F hi1, p1, hU, eA, an]
  · simp only [f_X6_down, lk1_t hi1, obs, wtt, xb_r, xb_l, xh_r, xh_l, wp1, wp2, wp3, wp4, wp5, wp6, wp7, wpf, tf_F, ff_T, ft_F, ne_ai, ne_si, ne_sa, ne_ri, reduceIte, Bool.not_true, Bool.not_false, r12, sl_cl hi1, sl_F hi1, q1, st]

theorem v_toward {u : StX} {i j N : Nat} (hN : N ≤ 64) {z g : NV} (hz : ok z) (hg : ok g) : f_X5_toward_L37 u (nI i) (nI j) (nI N) 100 0 0 (cB z) (cB g) = (f_X5_become u (nI i) (cB (itr (fun v => nrr v g) N z))).bind fun r => some (.inr (nI (cnt (fun v => nrr v g) N z), r.2)) := by
  have L := loop_g (fun v => nrr v g) (fun v h => ok_nrr h hg) cB N hN (fun n a k x => f_X5_toward_L37 u (nI i) (nI j) (nI N) n a k x (cB g)) (fun k x => (f_X5_become u (nI i) x).bind fun r => some (.inr (k, r.2)))
    (fun n a k v hv ha hk => by
      have inj := cB_inj (ok_nrr hv hg) hv
      show f_X5_toward_L37 u (nI i) (nI j) (nI N) (n + 1) (nI a) (nI k) (cB v) (cB g) = _
      rw [f_X5_toward_L37, if_pos ((nI_ltI (by omega) (by omega)).mpr ha), (v_nearer hv hg).1, nI_1, nI_1]
      by_cases c : nrr v g = v
      · rw [if_pos (inj.mpr c), if_pos c]
      · rw [if_neg (fun k => c (inj.mp k)), if_neg c])
    (fun n k v hv => by
      show f_X5_toward_L37 u (nI i) (nI j) (nI N) (n + 1) (nI N) k (cB v) (cB g) = _
      rw [f_X5_toward_L37, if_neg (nI_nlt (Nat.le_refl _) (by omega))])
  have e := L N 100 0 0 z (by omega) (by omega) (by omega) hz
  rw [Nat.zero_add] at e
  exact e
set_option maxHeartbeats 1000000 in
theorem ok_toward {v : SH} {w : StM} (h : Rel v.1 w) (a1 : Int32) (a2 : Int32) (a3 : Int32) : Ok Int32.toInt64 (f_L_toward v a1 a2 a3) (f_X6_toward w a1 a2 a3) := by
  have h0 : Rel v.1 (wt w 0) := Rel_t h 0
  rcases sl_c a1 with ⟨i1, hi1, rfl⟩ | ⟨e1, e2⟩
  rotate_left
  · exact Ok_e h 1 (by decide) 0 (by simp only [f_L_toward, f_X5_toward,  e1, obs, wtt, xb_r, xb_l, xh_r, xh_l, wp1, wp2, wp3, wp4, wp5, wp6, wp7, wpf, tf_F, ff_T, ft_F, ne_ai, ne_si, ne_sa, ne_ri, reduceIte, Bool.not_true, Bool.not_false]) (by simp only [f_X6_toward, lk2_f _ e2, obs, wtt, xb_r, xb_l, xh_r, xh_l, wp1, wp2, wp3, wp4, wp5, wp6, wp7, wpf, tf_F, ff_T, ft_F, ne_ai, ne_si, ne_sa, ne_ri, reduceIte, Bool.not_true, Bool.not_false])
  rcases sl_c a2 with ⟨i2, hi2, rfl⟩ | ⟨e1, e2⟩
  rotate_left
  · exact Ok_e h 1 (by decide) 0 (by simp only [f_L_toward, f_X5_toward, chk_ok hi1,  e1, obs, wtt, xb_r, xb_l, xh_r, xh_l, wp1, wp2, wp3, wp4, wp5, wp6, wp7, wpf, tf_F, ff_T, ft_F, ne_ai, ne_si, ne_sa, ne_ri, reduceIte, Bool.not_true, Bool.not_false]) (by simp only [f_X6_toward, lk2_g hi1 e2, obs, wtt, xb_r, xb_l, xh_r, xh_l, wp1, wp2, wp3, wp4, wp5, wp6, wp7, wpf, tf_F, ff_T, ft_F, ne_ai, ne_si, ne_sa, ne_ri, reduceIte, Bool.not_true, Bool.not_false])
  rcases rg_c a3 0 64 with ⟨r11, r12, r13, r14⟩ | ⟨e1, e2⟩
  rotate_left
  · exact Ok_e h 2 (by decide) 0 (by simp only [f_L_toward, f_X5_toward, chk_ok hi1, chk_ok hi2,  e1, obs, wtt, xb_r, xb_l, xh_r, xh_l, wp1, wp2, wp3, wp4, wp5, wp6, wp7, wpf, tf_F, ff_T, ft_F, ne_ai, ne_si, ne_sa, ne_ri, reduceIte, Bool.not_true, Bool.not_false]) (by simp only [f_X6_toward, lk2_t hi1 hi2,  e2, obs, wtt, xb_r, xb_l, xh_r, xh_l, wp1, wp2, wp3, wp4, wp5, wp6, wp7, wpf, tf_F, ff_T, ft_F, ne_ai, ne_si, ne_sa, ne_ri, reduceIte, Bool.not_true, Bool.not_false])
  obtain ⟨z1, o1, p1, q1⟩ := h.1 i1 hi1
  obtain ⟨z2, o2, p2, q2⟩ := h.1 i2 hi2
  obtain ⟨N, hN, rfl⟩ := nI_of r13
  have hN64 : N ≤ 64 := Nat.le_of_not_lt (fun k => r14 ((nI_ltI (a := 64) (by omega) (by omega)).mpr k))
  have hU := v_toward (u := v.1) (i := i1) (j := i2) hN64 o1 o2
  have st := m_steps (u := wt w 0) hi1 hN64 o1 q1 (fun v => nrr v z2) (fun v h => ok_nrr h o2) 116 (cC z2) (fun v h => by rw [if_neg (by decide), if_neg (by decide)]; exact (v_nearer h o2).2)
  have oz : ok (itr (fun v => nrr v z2) N z1) := itr_ok (fun v h => ok_nrr h o2) N z1 o1
  generalize itr (fun v => nrr v z2) N z1 = zz at hU st oz
  generalize cnt (fun v => nrr v z2) N z1 = cc at hU st
  obtain ⟨v', w', eA, eB, hR, ht⟩ := v_become h0 hi1 (z := zz) oz
  rw [eB, obs] at st
  rw [eA, obs] at hU
  refine Ok_r v.2 (nI cc).toInt64 (nI cc) hR ht rfl ?_ ?_
  · simp only [f_L_toward, f_X5_toward, chk_ok hi1, chk_ok hi2, r11, obs, wtt, xb_r, xb_l, xh_r, xh_l, wp1, wp2, wp3, wp4, wp5, wp6, wp7, wpf, tf_F, ff_T, ft_F, ne_ai, ne_si, ne_sa, ne_ri, reduceIte, Bool.not_true, Bool.not_false, sl_cl hi1, sl_F hi1, p1, sl_cl hi2, sl_F hi2, p2, hU]
  · simp only [f_X6_toward, lk2_t hi1 hi2, obs, wtt, xb_r, xb_l, xh_r, xh_l, wp1, wp2, wp3, wp4, wp5, wp6, wp7, wpf, tf_F, ff_T, ft_F, ne_ai, ne_si, ne_sa, ne_ri, reduceIte, Bool.not_true, Bool.not_false, r12, sl_cl hi1, sl_F hi1, q1, sl_cl hi2, sl_F hi2, q2, st]

def dst (v w : NV) : Nat := (pl v - pl w).natAbs
theorem nrr_d {v w : NV} (h : ok v) (k : ok w) (hd : dst v w ≠ 0) : dst (nrr v w) w = dst v w - 1 := by
  have a := pl_b h
  have b := pl_b k
  have e1 : pl (up1 v) = if (9218868437227405312 : Int) < gP v.1 v.2 + (1 : Nat) then (9218868437227405312 : Int) else gP v.1 v.2 + (1 : Nat) := by rw [up1_eq h]; exact upn_P v 1 h
  have e2 : pl (up1 (opp v)) = if (9218868437227405312 : Int) < gP (opp v).1 (opp v).2 + (1 : Nat) then (9218868437227405312 : Int) else gP (opp v).1 (opp v).2 + (1 : Nat) := by rw [up1_eq (ok_opp h)]; exact upn_P (opp v) 1 h
  have e3 : pl (dn1 v) = - pl (up1 (opp v)) := pl_opp _
  have e4 : pl (opp v) = - pl v := pl_opp v
  have g1 : gP v.1 v.2 = pl v := rfl
  have g2 : gP (opp v).1 (opp v).2 = pl (opp v) := rfl
  rw [g1] at e1
  rw [g2, e4] at e2
  unfold dst nrr at *
  by_cases c1 : pl v = pl w
  · omega
  · rw [if_neg c1]
    by_cases c2 : pl v < pl w
    · rw [if_pos c2, e1]; split <;> omega
    · rw [if_neg c2, e3, e2]; split <;> omega
theorem m_walk (u0 u : StM) (a0 : Int32) {j : Nat} (hj : j < 8) {g : NV} (hg : ok g) (q : u.1 j = cC g) : ∀ (d n i : Nat) (v : NV), i + d = 65 → d < n → ok v → f_X6_walk_L21 u0 a0 (nI j) n (nI i) (cC v) u = some (if i + dst v g ≤ 64 then nI (i + dst v g) else -1, u) := by
  intro d
  induction d with
  | zero =>
    intro n i v hi hn hv
    obtain ⟨n, rfl⟩ : ∃ m, n = m + 1 := ⟨n - 1, by omega⟩
    rw [f_X6_walk_L21, if_pos (show 64 < nI i from (nI_ltI (a := 64) (by omega) (by omega)).mpr (by omega)), if_neg (by omega)]
  | succ d ih =>
    intro n i v hi hn hv
    obtain ⟨n, rfl⟩ : ∃ m, n = m + 1 := ⟨n - 1, by omega⟩
    have k0 : (f_X0_placeOf (cB v) = f_X0_placeOf (cB g)) ↔ pl v = pl g := by rw [fa_eq64, (v_place hv).1, (v_place hg).1]
    rw [f_X6_walk_L21, if_neg (show ¬ 64 < nI i from nI_nlt (a := 64) (by omega) (by omega))]
    unfold f_X6_placeIn
    rw [if_neg (sl_in hj), obs, sl_cl hj, q, (v_place hv).2, (v_place hg).2]
    by_cases c : pl v = pl g
    · rw [if_pos (k0.mpr c)]
      have z : dst v g = 0 := by unfold dst; omega
      rw [z, if_pos (by omega)]; rfl
    · have z : dst v g ≠ 0 := by unfold dst; omega
      have e := nrr_d hv hg z
      rw [if_neg (fun k => c (k0.mp k)), if_neg (fun k => by rcases k with k | k; exact nI_pos (by omega) k; omega), (v_nearer hv hg).2, nI_1, ih n (i + 1) (nrr v g) (by omega) (by omega) (ok_nrr hv hg), e, show i + 1 + (dst v g - 1) = i + dst v g by omega]
set_option maxHeartbeats 1000000 in
theorem ok_walk {v : SH} {w : StM} (h : Rel v.1 w) (a1 : Int32) (a2 : Int32) : Ok Int32.toInt64 (f_L_walk v a1 a2) (f_X6_walk w a1 a2) := by
  have h0 : Rel v.1 (wt w 0) := Rel_t h 0
  rcases sl_c a1 with ⟨i1, hi1, rfl⟩ | ⟨e1, e2⟩
  rotate_left
  · exact Ok_e h 1 (by decide) 0 (by simp only [f_L_walk, f_X5_walk,  e1, obs, wtt, xb_r, xb_l, xh_r, xh_l, wp1, wp2, wp3, wp4, wp5, wp6, wp7, wpf, tf_F, ff_T, ft_F, ne_ai, ne_si, ne_sa, ne_ri, reduceIte, Bool.not_true, Bool.not_false]) (by simp only [f_X6_walk, lk2_f _ e2, obs, wtt, xb_r, xb_l, xh_r, xh_l, wp1, wp2, wp3, wp4, wp5, wp6, wp7, wpf, tf_F, ff_T, ft_F, ne_ai, ne_si, ne_sa, ne_ri, reduceIte, Bool.not_true, Bool.not_false])
  rcases sl_c a2 with ⟨i2, hi2, rfl⟩ | ⟨e1, e2⟩
  rotate_left
  · exact Ok_e h 1 (by decide) 0 (by simp only [f_L_walk, f_X5_walk, chk_ok hi1,  e1, obs, wtt, xb_r, xb_l, xh_r, xh_l, wp1, wp2, wp3, wp4, wp5, wp6, wp7, wpf, tf_F, ff_T, ft_F, ne_ai, ne_si, ne_sa, ne_ri, reduceIte, Bool.not_true, Bool.not_false]) (by simp only [f_X6_walk, lk2_g hi1 e2, obs, wtt, xb_r, xb_l, xh_r, xh_l, wp1, wp2, wp3, wp4, wp5, wp6, wp7, wpf, tf_F, ff_T, ft_F, ne_ai, ne_si, ne_sa, ne_ri, reduceIte, Bool.not_true, Bool.not_false])
  obtain ⟨z1, o1, p1, q1⟩ := h.1 i1 hi1
  obtain ⟨z2, o2, p2, q2⟩ := h.1 i2 hi2
  have mw := m_walk w (wt w 0) (nI i1) hi2 o2 q2 65 100 0 z1 (by omega) (by omega) o1
  have d := pl_d o1 o2
  have vd := v_dist o1 o2
  have vm := v_more (n := 64) d (by omega)
  rw [show (pl z1 - pl z2).natAbs = dst z1 z2 from rfl] at d vd vm
  rw [Nat.zero_add] at mw
  have vm2 : f_X0_isMoreThan (lN (dst z1 z2)) 64 = decide (64 < dst z1 z2) := vm
  have mw2 : f_X6_walk_L21 w (nI i1) (nI i2) 100 0 (cC z1) (wt w 0) = some (if dst z1 z2 ≤ 64 then nI (dst z1 z2) else -1, wt w 0) := mw
  by_cases c : 64 < dst z1 z2
  · rw [decide_eq_true c] at vm2
    rw [if_neg (by omega)] at mw2
    refine Ok_r v.2 (-1 : Int32).toInt64 (-1) h0 rfl rfl ?_ ?_
    · simp only [f_L_walk, f_X5_walk, chk_ok hi1, chk_ok hi2, obs, wtt, xb_r, xb_l, xh_r, xh_l, wp1, wp2, wp3, wp4, wp5, wp6, wp7, wpf, tf_F, ff_T, ft_F, ne_ai, ne_si, ne_sa, ne_ri, reduceIte, Bool.not_true, Bool.not_false, sl_cl hi1, sl_F hi1, p1, sl_cl hi2, sl_F hi2, p2, vd, vm2]
    · simp only [f_X6_walk, lk2_t hi1 hi2, obs, wtt, xb_r, xb_l, xh_r, xh_l, wp1, wp2, wp3, wp4, wp5, wp6, wp7, wpf, tf_F, ff_T, ft_F, ne_ai, ne_si, ne_sa, ne_ri, reduceIte, Bool.not_true, Bool.not_false, sl_cl hi1, sl_F hi1, q1, sl_cl hi2, sl_F hi2, q2, mw2]
  · rw [decide_eq_false c] at vm2
    rw [if_pos (by omega)] at mw2
    refine Ok_r v.2 (nI (dst z1 z2)).toInt64 (nI (dst z1 z2)) h0 rfl rfl ?_ ?_
    · simp only [f_L_walk, f_X5_walk, chk_ok hi1, chk_ok hi2, obs, wtt, xb_r, xb_l, xh_r, xh_l, wp1, wp2, wp3, wp4, wp5, wp6, wp7, wpf, tf_F, ff_T, ft_F, ne_ai, ne_si, ne_sa, ne_ri, reduceIte, Bool.not_true, Bool.not_false, sl_cl hi1, sl_F hi1, p1, sl_cl hi2, sl_F hi2, p2, vd, vm2, lN_i]
    · simp only [f_X6_walk, lk2_t hi1 hi2, obs, wtt, xb_r, xb_l, xh_r, xh_l, wp1, wp2, wp3, wp4, wp5, wp6, wp7, wpf, tf_F, ff_T, ft_F, ne_ai, ne_si, ne_sa, ne_ri, reduceIte, Bool.not_true, Bool.not_false, sl_cl hi1, sl_F hi1, q1, sl_cl hi2, sl_F hi2, q2, mw2]

theorem areApart_d {v w : NV} (o1 : ok v) (o2 : ok w) : f_X6_areApart (f_X0_placeOf (cB v)) (f_X0_placeOf (cB w)) = decide (1 < dst v w) := by
  have b1 := pl_b o1
  have b2 := pl_b o2
  have t1 : (1 : Int64).toInt = 1 := rfl
  have v1 := (v_place o1).1
  have v2 := (v_place o2).1
  unfold f_X6_areApart dst
  by_cases c1 : pl w < pl v
  · have s1 : (f_X0_placeOf (cB v) - 1).toInt = pl v - 1 := by rw [fb_subL (by omega) (by omega), v1, t1]
    rw [if_pos (by rw [fa_lt64, v1, v2]; exact c1)]
    by_cases c2 : pl w < pl v - 1
    · rw [if_pos (by rw [fa_lt64, s1, v2]; exact c2), decide_eq_true (by omega)]
    · rw [if_neg (by rw [fa_lt64, s1, v2]; exact c2), decide_eq_false (by omega)]
  · have s1 : (f_X0_placeOf (cB w) - 1).toInt = pl w - 1 := by rw [fb_subL (by omega) (by omega), v2, t1]
    rw [if_neg (by rw [fa_lt64, v1, v2]; exact c1)]
    by_cases c2 : pl v < pl w - 1
    · rw [if_pos (by rw [fa_lt64, s1, v1]; exact c2), decide_eq_true (by omega)]
    · rw [if_neg (by rw [fa_lt64, s1, v1]; exact c2), decide_eq_false (by omega)]
def far2 (v w : NV) : Prop := 1 < dst v w
theorem mid_d {v w : NV} : dst (mid v w) w ≤ (dst v w + 1) / 2 := by
  unfold dst mid
  rw [pl_gQ]
  omega
theorem x_halv (u : StX) (a0 a1 : Int32) {g : NV} (hg : ok g) (U s : StM) : ∀ (d n i : Nat) (v : NV), i + d = 64 → d < n → ok v → dst v g ≤ 2 ^ d → ∃ r : Nat, f_X5_halvings_L26 u a0 a1 n (nI i) (cB g) (cB v) = some (.inr (nI r)) ∧ f_X6_halvings_L27 U a0 a1 n (nI i) (f_X0_placeOf (cB g)) (f_X0_placeOf (cB v)) s = some (nI r, s) := by
  intro d
  induction d with
  | zero =>
    intro n i v hi hn hv hd
    obtain ⟨n, rfl⟩ : ∃ m, n = m + 1 := ⟨n - 1, by omega⟩
    obtain rfl : i = 64 := by omega
    refine ⟨64, ?_, ?_⟩
    · rw [f_X5_halvings_L26, if_neg (by decide)]
    · have ap := areApart_d hv hg
      rw [decide_eq_false (show ¬ 1 < dst v g by omega)] at ap
      rw [f_X6_halvings_L27, if_pos ap]
  | succ d ih =>
    intro n i v hi hn hv hd
    obtain ⟨n, rfl⟩ : ∃ m, n = m + 1 := ⟨n - 1, by omega⟩
    have ap := areApart_d hv hg
    have vd : f_X0_distance (cB v) (cB g) = lN (dst v g) := v_dist hv hg
    have vm := v_more (n := 1) (show dst v g < 18446744073709551616 from pl_d hv hg) (by omega)
    have vm2 : f_X0_isMoreThan (lN (dst v g)) 1 = decide (1 < dst v g) := vm
    rw [f_X5_halvings_L26, f_X6_halvings_L27, if_pos (show nI i < 64 from (nI_ltI (b := 64) (by omega) (by omega)).mpr (by omega)), vd, vm2, ap]
    by_cases c : 1 < dst v g
    · rw [decide_eq_true c, if_neg (by decide), if_neg (by decide), (v_mid hv hg).1]
      have om := ok_mid hv hg
      have md := mid_d (v := v) (w := g)
      rw [Nat.pow_succ] at hd
      obtain ⟨r, r1, r2⟩ := ih n (i + 1) (mid v g) (by omega) (by omega) om (by omega)
      refine ⟨r, ?_, ?_⟩
      · rw [nI_1]; exact r1
      · rw [nI_1]
        have e : f_X6_middleOf (f_X0_placeOf (cB v)) (f_X0_placeOf (cB g)) = f_X0_placeOf (cB (mid v g)) := by
          rw [fa_eq64, mid_T, (v_place hv).1, (v_place hg).1, (v_place om).1]
          exact (pl_gQ _).symm
        rw [e]; exact r2
    · rw [decide_eq_false c, if_pos rfl, if_pos rfl]
      exact ⟨i, rfl, rfl⟩
set_option maxHeartbeats 1000000 in
theorem ok_halvings {v : SH} {w : StM} (h : Rel v.1 w) (a1 : Int32) (a2 : Int32) : Ok Int32.toInt64 (f_L_halvings v a1 a2) (f_X6_halvings w a1 a2) := by
  have h0 : Rel v.1 (wt w 0) := Rel_t h 0
  rcases sl_c a1 with ⟨i1, hi1, rfl⟩ | ⟨e1, e2⟩
  rotate_left
  · exact Ok_e h 1 (by decide) 0 (by simp only [f_L_halvings, f_X5_halvings,  e1, obs, wtt, xb_r, xb_l, xh_r, xh_l, wp1, wp2, wp3, wp4, wp5, wp6, wp7, wpf, tf_F, ff_T, ft_F, ne_ai, ne_si, ne_sa, ne_ri, reduceIte, Bool.not_true, Bool.not_false]) (by simp only [f_X6_halvings, lk2_f _ e2, obs, wtt, xb_r, xb_l, xh_r, xh_l, wp1, wp2, wp3, wp4, wp5, wp6, wp7, wpf, tf_F, ff_T, ft_F, ne_ai, ne_si, ne_sa, ne_ri, reduceIte, Bool.not_true, Bool.not_false])
  rcases sl_c a2 with ⟨i2, hi2, rfl⟩ | ⟨e1, e2⟩
  rotate_left
  · exact Ok_e h 1 (by decide) 0 (by simp only [f_L_halvings, f_X5_halvings, chk_ok hi1,  e1, obs, wtt, xb_r, xb_l, xh_r, xh_l, wp1, wp2, wp3, wp4, wp5, wp6, wp7, wpf, tf_F, ff_T, ft_F, ne_ai, ne_si, ne_sa, ne_ri, reduceIte, Bool.not_true, Bool.not_false]) (by simp only [f_X6_halvings, lk2_g hi1 e2, obs, wtt, xb_r, xb_l, xh_r, xh_l, wp1, wp2, wp3, wp4, wp5, wp6, wp7, wpf, tf_F, ff_T, ft_F, ne_ai, ne_si, ne_sa, ne_ri, reduceIte, Bool.not_true, Bool.not_false])
  obtain ⟨z1, o1, p1, q1⟩ := h.1 i1 hi1
  obtain ⟨z2, o2, p2, q2⟩ := h.1 i2 hi2
  have db : dst z1 z2 ≤ 2 ^ 64 := by have := pl_d o1 o2; unfold dst; omega
  obtain ⟨r, r1, r2⟩ := x_halv v.1 (nI i1) (nI i2) o2 w (wt w 0) 64 100 0 z1 (by omega) (by omega) o1 db
  have r1' : f_X5_halvings_L26 v.1 (nI i1) (nI i2) 100 0 (cB z2) (cB z1) = some (.inr (nI r)) := r1
  have r2' : f_X6_halvings_L27 w (nI i1) (nI i2) 100 0 (f_X0_placeOf (cB z2)) (f_X0_placeOf (cB z1)) (wt w 0) = some (nI r, wt w 0) := r2
  refine Ok_r v.2 (nI r).toInt64 (nI r) h0 rfl rfl ?_ ?_
  · simp only [f_L_halvings, f_X5_halvings, chk_ok hi1, chk_ok hi2, obs, wtt, xb_r, xb_l, xh_r, xh_l, wp1, wp2, wp3, wp4, wp5, wp6, wp7, wpf, tf_F, ff_T, ft_F, ne_ai, ne_si, ne_sa, ne_ri, reduceIte, Bool.not_true, Bool.not_false, sl_cl hi1, sl_F hi1, p1, sl_cl hi2, sl_F hi2, p2, r1']
  · simp only [f_X6_halvings, lk2_t hi1 hi2, obs, wtt, xb_r, xb_l, xh_r, xh_l, wp1, wp2, wp3, wp4, wp5, wp6, wp7, wpf, tf_F, ff_T, ft_F, ne_ai, ne_si, ne_sa, ne_ri, reduceIte, Bool.not_true, Bool.not_false, sl_cl hi1, sl_F hi1, q1, sl_cl hi2, sl_F hi2, q2, f_X6_placeIn, (v_place o1).2, (v_place o2).2, r2']

theorem ord_S {v : StX} {w : StM} (h : RelS v.1 w.1) {i j : Nat} (hi : i < 8) (hj : j < 8) : (f_X0_order (v.1 i) (v.1 j) < 0 ↔ f_X6_placeOf (w.1 i) < f_X6_placeOf (w.1 j)) := by
  obtain ⟨z1, o1, p1, q1⟩ := h i hi
  obtain ⟨z2, o2, p2, q2⟩ := h j hj
  rw [p1, p2, q1, q2, v_ordL o1 o2, (v_place o1).2, (v_place o2).2, fa_lt64, (v_place o1).1, (v_place o2).1]
theorem x_rank {v : StX} {w : StM} (U : StM) (h : RelS v.1 w.1) {a : Nat} (ha : a < 8) : ∀ (d n i k : Nat), i + d = 8 → d < n → k ≤ i → ∃ r : Int32, f_X5_rank_L8 v (nI a) n (nI i) (nI k) = some (.inr r) ∧ f_X6_rank_L14 U (nI a) n (nI i) (nI k) w = some (r, w) := by
  intro d
  induction d with
  | zero =>
    intro n i k hi hn hk
    obtain ⟨n, rfl⟩ : ∃ m, n = m + 1 := ⟨n - 1, by omega⟩
    obtain rfl : i = 8 := by omega
    exact ⟨nI k, by rw [f_X5_rank_L8, if_neg (by decide)], by rw [f_X6_rank_L14, if_neg (by decide)]⟩
  | succ d ih =>
    intro n i k hi hn hk
    obtain ⟨n, rfl⟩ : ∃ m, n = m + 1 := ⟨n - 1, by omega⟩
    have i8 : i < 8 := by omega
    have l : nI i < 8 := (nI_ltI (b := 8) (by omega) (by omega)).mpr i8
    have o := ord_S h i8 ha
    rw [f_X5_rank_L8, f_X6_rank_L14, if_pos l, if_pos l]
    unfold f_X6_placeIn
    rw [if_neg (sl_in i8), if_neg (sl_in ha), if_neg (sl_in i8), obs, if_neg (sl_in ha), obs, sl_cl i8, sl_cl ha, nI_1, nI_1]
    by_cases c : f_X0_order (v.1 i) (v.1 a) < 0
    · rw [if_pos c, if_pos (o.mp c)]
      exact ih n (i + 1) (k + 1) (by omega) (by omega) (by omega)
    · rw [if_neg c, if_neg (fun x => c (o.mpr x))]
      exact ih n (i + 1) k (by omega) (by omega) (by omega)
set_option maxHeartbeats 1000000 in
theorem ok_rank {v : SH} {w : StM} (h : Rel v.1 w) (a1 : Int32) : Ok Int32.toInt64 (f_L_rank v a1) (f_X6_rank w a1) := by
  have h0 : Rel v.1 (wt w 0) := Rel_t h 0
  rcases sl_c a1 with ⟨i1, hi1, rfl⟩ | ⟨e1, e2⟩
  rotate_left
  · exact Ok_e h 1 (by decide) 0 (by simp only [f_L_rank, f_X5_rank,  e1, obs, wtt, xb_r, xb_l, xh_r, xh_l, wp1, wp2, wp3, wp4, wp5, wp6, wp7, wpf, tf_F, ff_T, ft_F, ne_ai, ne_si, ne_sa, ne_ri, reduceIte, Bool.not_true, Bool.not_false]) (by simp only [f_X6_rank, lk1_f e2, obs, wtt, xb_r, xb_l, xh_r, xh_l, wp1, wp2, wp3, wp4, wp5, wp6, wp7, wpf, tf_F, ff_T, ft_F, ne_ai, ne_si, ne_sa, ne_ri, reduceIte, Bool.not_true, Bool.not_false])
  obtain ⟨z1, o1, p1, q1⟩ := h.1 i1 hi1
  obtain ⟨r, r1, r2⟩ := x_rank (v := v.1) (w := wt w 0) w h.1 hi1 8 100 0 0 (by omega) (by omega) (by omega)
  have r1' : f_X5_rank_L8 v.1 (nI i1) 100 0 0 = some (.inr r) := r1
  have r2' : f_X6_rank_L14 w (nI i1) 100 0 0 (wt w 0) = some (r, wt w 0) := r2
  refine Ok_r v.2 r.toInt64 r h0 rfl rfl ?_ ?_
  · simp only [f_L_rank, f_X5_rank, chk_ok hi1, obs, wtt, xb_r, xb_l, xh_r, xh_l, wp1, wp2, wp3, wp4, wp5, wp6, wp7, wpf, tf_F, ff_T, ft_F, ne_ai, ne_si, ne_sa, ne_ri, reduceIte, Bool.not_true, Bool.not_false, sl_cl hi1, sl_F hi1, p1, r1']
  · simp only [f_X6_rank, lk1_t hi1, obs, wtt, xb_r, xb_l, xh_r, xh_l, wp1, wp2, wp3, wp4, wp5, wp6, wp7, wpf, tf_F, ff_T, ft_F, ne_ai, ne_si, ne_sa, ne_ri, reduceIte, Bool.not_true, Bool.not_false, sl_cl hi1, sl_F hi1, q1, r2']

theorem x_least {v : StX} {w : StM} (U : StM) (h : RelS v.1 w.1) : ∀ (d n i k : Nat), i + d = 8 → d < n → k < 8 → ∃ r : Int32, f_X5_least_L4 v n (nI i) (nI k) = some r ∧ f_X6_least_L9 U n (nI i) (nI k) w = some (r, w) := by
  intro d
  induction d with
  | zero =>
    intro n i k hi hn hk
    obtain ⟨n, rfl⟩ : ∃ m, n = m + 1 := ⟨n - 1, by omega⟩
    obtain rfl : i = 8 := by omega
    exact ⟨nI k, by rw [f_X5_least_L4, if_neg (by decide)], by rw [f_X6_least_L9, if_neg (by decide)]⟩
  | succ d ih =>
    intro n i k hi hn hk
    obtain ⟨n, rfl⟩ : ∃ m, n = m + 1 := ⟨n - 1, by omega⟩
    have i8 : i < 8 := by omega
    have l : nI i < 8 := (nI_ltI (b := 8) (by omega) (by omega)).mpr i8
    have o := ord_S h i8 hk
    rw [f_X5_least_L4, f_X6_least_L9, if_pos l, if_pos l]
    unfold f_X6_placeIn
    rw [if_neg (sl_in i8), if_neg (sl_in hk), if_neg (sl_in i8), obs, if_neg (sl_in hk), obs, sl_cl i8, sl_cl hk, nI_1]
    by_cases c : f_X0_order (v.1 i) (v.1 k) < 0
    · rw [if_pos c, if_pos (o.mp c)]
      exact ih n (i + 1) i (by omega) (by omega) i8
    · rw [if_neg c, if_neg (fun x => c (o.mpr x))]
      exact ih n (i + 1) k (by omega) (by omega) hk
theorem ok_least {v : SH} {w : StM} (h : Rel v.1 w) : ∃ (zH : Int32) (zM : Int32 × StM), f_X5_least v.1 = some zH ∧ f_X6_least w = some zM ∧ zH = zM.1 ∧ Rel v.1 zM.2 := by
  obtain ⟨r, r1, r2⟩ := x_least (v := v.1) (w := wt w 0) w h.1 7 100 1 0 (by omega) (by omega) (by omega)
  exact ⟨r, (r, wt w 0), r1, r2, rfl, Rel_t h 0⟩
theorem ok_hush {v : SH} {w : StM} (h : Rel v.1 w) : ∃ (zH : Int32 × StX) (zM : Int32 × StM), f_X5_hush v.1 = some zH ∧ f_X6_hush w = some zM ∧ zH.1 = zM.1 ∧ Rel zH.2 zM.2 := by
  obtain ⟨hS, ⟨a, ha, e1, e2, hw⟩, hP⟩ := h
  exact ⟨_, _, rfl, rfl, e1.trans e2.symm, hS, ⟨0, by omega, rfl, rfl, fun i k => absurd k (Nat.not_lt_zero i)⟩, hP⟩
