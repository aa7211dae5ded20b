/-! checksum, set -/
theorem x_sumW {v : StR} {u : StM} (hW : RelW v u.2.2.2.2.1 u.2.2.2.2.2.1 u.2.2.2.2.2.2.1) (U : StM) (q0 : Int64) : ∀ (d n i : Nat) (x : Int64), nI (i + d) = v.2.2 → i + d ≤ 40 → d < n → ∃ r : Int64, f_X3_addedTo_L15 v q0 n (nI i) x = some r ∧ f_X6_checksum_L53 U n (nI i) x u = some (r, u) := by
  obtain ⟨a, ha, e1, e2, hE⟩ := hW
  intro d
  induction d with
  | zero =>
    intro n i x hi hi2 hn
    obtain ⟨n, rfl⟩ : ∃ m, n = m + 1 := ⟨n - 1, by omega⟩
    have hi3 := (nI_eq (by omega) (by omega)).mp (hi.trans e1)
    exact ⟨x, by rw [f_X3_addedTo_L15, e1, if_neg (nI_nlt (by omega) (by omega))], by rw [f_X6_checksum_L53, e2, if_neg (nI_nlt (by omega) (by omega))]⟩
  | succ d ih =>
    intro n i x hi hi2 hn
    obtain ⟨n, rfl⟩ : ∃ m, n = m + 1 := ⟨n - 1, by omega⟩
    have hi3 := (nI_eq (by omega) (by omega)).mp (hi.trans e1)
    obtain ⟨s1, s2, s3⟩ := hE i (by omega)
    have l : nI i < nI a := (nI_ltI (by omega) (by omega)).mpr (by omega)
    rw [f_X3_addedTo_L15, f_X6_checksum_L53, e1, e2, if_pos l, if_pos l, if_neg (nI_in (by omega) (by omega)), if_neg (nI_in (by omega) (by omega)), if_neg (nI_in (by omega) (by omega)), if_neg (nI_in (by omega) (by omega)), nI_clamp (by omega), s1, s2, nI_1]
    exact ih n (i + 1) _ (by rw [show i + 1 + d = i + (d + 1) by omega]; exact hi) (by omega) (by omega)
theorem x_sum {v : StX} {u : StM} (h : Rel v u) (U : StM) : ∀ (d n i : Nat) (x : Int64), i + d = 8 → d < n → ∃ r : Int64, f_X5_checksum_L6 v n (nI i) x = some r ∧ f_X6_checksum_L11 U n (nI i) x u = some (r, u) := by
  obtain ⟨hS, hW, hP⟩ := h
  intro d
  induction d with
  | zero =>
    intro n i x hi hn
    obtain ⟨n, rfl⟩ : ∃ m, n = m + 1 := ⟨n - 1, by omega⟩
    obtain rfl : i = 8 := by omega
    obtain ⟨a, ha, e1, e2, hE⟩ := id hW
    obtain ⟨r, r1, r2⟩ := x_sumW hW U x a 100 0 ((31 * x) + v.2.1.2.2.toInt64) (by rw [Nat.zero_add]; exact e1.symm) (by omega) (by omega)
    have g : f_X3_addedTo v.2.1 x = some r := r1
    refine ⟨r, ?_, ?_⟩
    · rw [f_X5_checksum_L6, if_neg (by decide), g, obs]
    · rw [f_X6_checksum_L11, if_neg (by decide), e2, ← e1]
      exact r2
  | succ d ih =>
    intro n i x hi hn
    obtain ⟨n, rfl⟩ : ∃ m, n = m + 1 := ⟨n - 1, by omega⟩
    have i8 : i < 8 := by omega
    obtain ⟨z, hz, p1, q1⟩ := hS i i8
    have l : nI i < 8 := (nI_ltI (b := 8) (by omega) (by omega)).mpr i8
    rw [f_X5_checksum_L6, f_X6_checksum_L11, if_pos l, if_pos l, if_neg (sl_in i8), if_neg (sl_in i8), sl_cl i8, p1, q1, show f_X6_bitsOf (cC z) = cB z from m_bitsOf z.1 hz, nI_1]
    exact ih n (i + 1) _ (by omega) (by omega)
theorem ok_checksum {v : SH} {w : StM} (h : Rel v.1 w) : ∃ (zH : Int64) (zM : Int64 × StM), f_X5_checksum v.1 = some zH ∧ f_X6_checksum w = some zM ∧ zH = zM.1 ∧ Rel v.1 zM.2 := by
  obtain ⟨r, r1, r2⟩ := x_sum (v := v.1) (u := wt w 0) (Rel_t h 0) w 8 100 0 7 (by omega) (by omega)
  exact ⟨r, (r, wt w 0), r1, r2, rfl, Rel_t h 0⟩
theorem hnd1 {a : Int32} (ha : -128 ≤ a.toInt ∧ a.toInt ≤ 127) (a0 : a ≠ 0) {X Y : Int32} (hXY : X = Y) (hX : -9000 ≤ Y.toInt ∧ Y.toInt ≤ 9000) :
    ∃ T, T ≤ 9218868437227405312 ∧ f_X0_nearest ((if 0 ≤ a then a else 0 - a).toInt64) X = lN T ∧ (a < 0 → f_X6_made ((-a).toInt64) Y = some (lN T)) ∧ (¬ a < 0 → f_X6_made (a.toInt64) Y = some (lN T)) := by
  subst hXY
  have z0 : (0 : Int32).toInt = 0 := rfl
  have ne : a.toInt ≠ 0 := fun k => a0 (by rw [fa_eq, k, z0])
  by_cases c : a < 0
  · have c' := c
    rw [fa_lt, z0] at c'
    obtain ⟨N, hN⟩ : ∃ N : Nat, a.toInt = -(N : Int) := ⟨(-a.toInt).toNat, by omega⟩
    have e1 : -a = nI N := lit_n _ (by rw [fb_negI (by omega), hN]; omega) (by omega)
    have e2 : (0 : Int32) - a = nI N := lit_n _ (by rw [fb_subI (by omega) (by omega), hN, z0]; omega) (by omega)
    have n := xm_near (w := N) (by omega) (by omega) (a := X) (by omega)
    refine ⟨_, nr_le (w := N) (by omega) (by omega) X.toInt, ?_, fun _ => ?_, fun k => absurd c k⟩
    · rw [if_neg (by rw [fa_le, z0]; omega), e2, nI_l (by omega)]; exact n.1
    · rw [e1, nI_l (by omega)]; exact n.2
  · have c' := c
    rw [fa_lt, z0] at c'
    obtain ⟨N, hN⟩ : ∃ N : Nat, a.toInt = (N : Int) := ⟨a.toInt.toNat, by omega⟩
    have e1 : a = nI N := lit_n _ hN (by omega)
    have n := xm_near (w := N) (by omega) (by omega) (a := X) (by omega)
    refine ⟨_, nr_le (w := N) (by omega) (by omega) X.toInt, ?_, fun k => absurd k c, fun _ => ?_⟩
    · rw [if_pos (by rw [fa_le, z0]; omega), e1, nI_l (by omega)]; exact n.1
    · rw [e1, nI_l (by omega)]; exact n.2
theorem ok_set {v : SH} {w : StM} (h : Rel v.1 w) (a1 a2 a3 : Int32) : Ok id (f_L_set v a1 a2 a3) (f_X6_set w a1 a2 a3) := by
  have h0 : Rel v.1 (wt w 0) := Rel_t h 0
  rcases sl_c a1 with ⟨i1, hi1, rfl⟩ | ⟨e1, e2⟩
  rotate_left
  · exact Ok_e h 1 (by decide) 0 (by unfold f_L_set f_X5_set; rw [e1, xb_l, xh_l, if_pos rfl]) (by unfold f_X6_set; rw [lk1_f e2]; rfl)
  rcases rg_c a2 (-128) 127 with ⟨r1, r2, r3, r4⟩ | ⟨e1, e2⟩
  rotate_left
  · exact Ok_e h 2 (by decide) 0 (by unfold f_L_set f_X5_set; rw [chk_ok hi1, xb_r, e1, xb_l, xh_l, if_neg (show ¬ "java/lang/IllegalArgumentException" = "java/lang/IndexOutOfBoundsException" by decide +kernel), if_pos rfl]) (by unfold f_X6_set; rw [lk1_t hi1, obs, if_pos ff_P, if_pos e2]; rfl)
  rcases rg_c a3 0 255 with ⟨s1, s2, s3, s4⟩ | ⟨e1, e2⟩
  rotate_left
  · exact Ok_e h 2 (by decide) 0 (by unfold f_L_set f_X5_set; rw [chk_ok hi1, xb_r, r1, xb_r, e1, xb_l, xh_l, if_neg (show ¬ "java/lang/IllegalArgumentException" = "java/lang/IndexOutOfBoundsException" by decide +kernel), if_pos rfl]) (by unfold f_X6_set; rw [lk1_t hi1, obs, if_pos ff_P, if_neg (show ¬ f_X6_in a2 (-128) 127 = false by rw [r2]; decide), if_pos e2]; rfl)
  have l1 : (-128 : Int32).toInt = -128 := by decide
  have l2 : (127 : Int32).toInt = 127 := rfl
  have l3 : (0 : Int32).toInt = 0 := rfl
  have l4 : (255 : Int32).toInt = 255 := rfl
  have l5 : (64 : Int32).toInt = 64 := rfl
  have l6 : (192 : Int32).toInt = 192 := rfl
  have l7 : (191 : Int32).toInt = 191 := rfl
  have l8 : (1074 : Int32).toInt = 1074 := rfl
  have l9 : (-1074 : Int32).toInt = -1074 := by decide
  have l10 : (761 : Int32).toInt = 761 := rfl
  have l11 : (128 : Int32).toInt = 128 := rfl
  rw [fa_lt] at r3 r4 s3 s4
  have done : ∀ z : NV, ok z → f_X0_handed a2 a3 = cB z → (∀ u, f_X6_becomes (wt w 0) (nI i1) (cC z) = some u → f_X6_set w (nI i1) a2 a3 = some u) → Ok id (f_L_set v (nI i1) a2 a3) (f_X6_set w (nI i1) a2 a3) := by
    intro z hz hc hm
    obtain ⟨v', w', eA, eB, hR, ht⟩ := v_become h0 hi1 (z := z) hz
    refine Ok_r v.2 (f_X0_placeOf (cB z)) (f_X0_placeOf (cB z)) hR ht rfl ?_ (hm _ eB)
    unfold f_L_set f_X5_set
    rw [chk_ok hi1, xb_r, r1, xb_r, s1, xb_r, hc, eA, obs, xh_r]
  have M0 : f_X6_set w (nI i1) a2 a3 = (if a3 < 64 then (if a2 = 0 then (if a2 < 0 then ((f_X6_becomes (wt w 0) (nI i1) (f_X6_opposite 0)).bind fun z => some z) else ((f_X6_becomes (wt w 0) (nI i1) 0).bind fun z => some z)) else (if a2 < 0 then ((f_X6_made ((-a2).toInt64) ((a3 - 1074) + 1074)).bind fun r => (if a2 < 0 then ((f_X6_becomes (wt w 0) (nI i1) (f_X6_opposite r)).bind fun z => some z) else ((f_X6_becomes (wt w 0) (nI i1) r).bind fun z => some z))) else ((f_X6_made (a2.toInt64) ((a3 - 1074) + 1074)).bind fun r => (if a2 < 0 then ((f_X6_becomes (wt w 0) (nI i1) (f_X6_opposite r)).bind fun z => some z) else ((f_X6_becomes (wt w 0) (nI i1) r).bind fun z => some z)))))
      else (if a3 < 192 then (if a2 = 0 then (if a2 < 0 then ((f_X6_becomes (wt w 0) (nI i1) (f_X6_opposite 0)).bind fun z => some z) else ((f_X6_becomes (wt w 0) (nI i1) 0).bind fun z => some z)) else (if a2 < 0 then ((f_X6_made ((-a2).toInt64) ((a3 - 128) + 1074)).bind fun r => (if a2 < 0 then ((f_X6_becomes (wt w 0) (nI i1) (f_X6_opposite r)).bind fun z => some z) else ((f_X6_becomes (wt w 0) (nI i1) r).bind fun z => some z))) else ((f_X6_made (a2.toInt64) ((a3 - 128) + 1074)).bind fun r => (if a2 < 0 then ((f_X6_becomes (wt w 0) (nI i1) (f_X6_opposite r)).bind fun z => some z) else ((f_X6_becomes (wt w 0) (nI i1) r).bind fun z => some z)))))
      else (if a2 = 0 then (if a2 < 0 then ((f_X6_becomes (wt w 0) (nI i1) (f_X6_opposite 0)).bind fun z => some z) else ((f_X6_becomes (wt w 0) (nI i1) 0).bind fun z => some z)) else (if a2 < 0 then ((f_X6_made ((-a2).toInt64) ((a3 + 761) + 1074)).bind fun r => (if a2 < 0 then ((f_X6_becomes (wt w 0) (nI i1) (f_X6_opposite r)).bind fun z => some z) else ((f_X6_becomes (wt w 0) (nI i1) r).bind fun z => some z))) else ((f_X6_made (a2.toInt64) ((a3 + 761) + 1074)).bind fun r => (if a2 < 0 then ((f_X6_becomes (wt w 0) (nI i1) (f_X6_opposite r)).bind fun z => some z) else ((f_X6_becomes (wt w 0) (nI i1) r).bind fun z => some z))))))) := by
    unfold f_X6_set
    rw [lk1_t hi1, obs, if_pos ff_P, if_neg (show ¬ f_X6_in a2 (-128) 127 = false by rw [r2]; decide), if_neg (show ¬ f_X6_in a3 0 255 = false by rw [s2]; decide)]
    rfl
  by_cases c0 : a2 = 0
  · refine done (false, 0) (Nat.zero_le _) ?_ ?_
    · unfold f_X0_handed
      rw [if_pos c0]; rfl
    · intro u hu
      have n0 : ¬ a2 < 0 := by rw [c0]; decide
      have hu2 : f_X6_becomes (wt w 0) (nI i1) 0 = some u := hu
      rw [M0]
      by_cases d1 : a3 < 64
      · rw [if_pos d1, if_pos c0, if_neg n0, hu2, obs]
      · rw [if_neg d1]
        by_cases d2 : a3 < 192
        · rw [if_pos d2, if_pos c0, if_neg n0, hu2, obs]
        · rw [if_neg d2, if_pos c0, if_neg n0, hu2, obs]
  · have main : ∀ Y : Int32, f_X0_handedExponent a3 - (-1074) = Y → (-9000 ≤ Y.toInt ∧ Y.toInt ≤ 9000) → (f_X6_set w (nI i1) a2 a3 = (if a2 < 0 then ((f_X6_made ((-a2).toInt64) Y).bind fun r => (if a2 < 0 then ((f_X6_becomes (wt w 0) (nI i1) (f_X6_opposite r)).bind fun z => some z) else ((f_X6_becomes (wt w 0) (nI i1) r).bind fun z => some z))) else ((f_X6_made (a2.toInt64) Y).bind fun r => (if a2 < 0 then ((f_X6_becomes (wt w 0) (nI i1) (f_X6_opposite r)).bind fun z => some z) else ((f_X6_becomes (wt w 0) (nI i1) r).bind fun z => some z))))) → Ok id (f_L_set v (nI i1) a2 a3) (f_X6_set w (nI i1) a2 a3) := by
      intro Y hY bY hM
      obtain ⟨T, hT, t1, t2, t3⟩ := hnd1 (a := a2) (by omega) c0 hY bY
      by_cases c : a2 < 0
      · have hz : ok (false, T) := hT
        refine done (opp (false, T)) (ok_opp hz) ?_ ?_
        · unfold f_X0_handed
          rw [if_neg c0, if_pos c, t1]
          exact (v_opp hz).1
        · intro u hu
          rw [hM, if_pos c, t2 c, obs, if_pos c, show f_X6_opposite (lN T) = cC (opp (false, T)) from (v_opp hz).2, hu, obs]
      · have hz : ok (false, T) := hT
        refine done (false, T) hz ?_ ?_
        · unfold f_X0_handed
          rw [if_neg c0, if_neg c, t1]
          rfl
        · intro u hu
          have hu2 : f_X6_becomes (wt w 0) (nI i1) (lN T) = some u := hu
          rw [hM, if_neg c, t3 c, obs, if_neg c, hu2, obs]
    by_cases d1 : a3 < 64
    · have d1' := d1
      rw [fa_lt] at d1'
      have e1 : (a3 - 1074).toInt = a3.toInt - 1074 := by rw [fb_subI (by omega) (by omega), l8]
      have e2 : (a3 - 1074 + 1074).toInt = a3.toInt := by rw [fb_addI (by omega) (by omega), e1, l8]; omega
      have e3 : (a3 - 1074 - -1074).toInt = a3.toInt := by rw [fb_subI (by omega) (by omega), e1, l9]; omega
      refine main (a3 - 1074 + 1074) ?_ (by omega) (by rw [M0, if_pos d1, if_neg c0])
      unfold f_X0_handedExponent
      rw [if_pos d1, fa_eq, e2, e3]
    · have d1' := d1
      rw [fa_lt] at d1'
      by_cases d2 : a3 < 192
      · have d2' := d2
        rw [fa_lt] at d2'
        have e1 : (a3 - 128).toInt = a3.toInt - 128 := by rw [fb_subI (by omega) (by omega), l11]
        have e2 : (a3 - 128 + 1074).toInt = a3.toInt + 946 := by rw [fb_addI (by omega) (by omega), e1, l8]; omega
        have e3 : (a3 - 128 - -1074).toInt = a3.toInt + 946 := by rw [fb_subI (by omega) (by omega), e1, l9]; omega
        refine main (a3 - 128 + 1074) ?_ (by omega) (by rw [M0, if_neg d1, if_pos d2, if_neg c0])
        unfold f_X0_handedExponent
        rw [if_neg d1, if_neg (by rw [fa_lt]; omega), fa_eq, e2, e3]
      · have d2' := d2
        rw [fa_lt] at d2'
        have e1 : (a3 + 761).toInt = a3.toInt + 761 := by rw [fb_addI (by omega) (by omega), l10]
        have e2 : (a3 + 761 + 1074).toInt = a3.toInt + 1835 := by rw [fb_addI (by omega) (by omega), e1, l8]; omega
        have e3 : (a3 + 761 - -1074).toInt = a3.toInt + 1835 := by rw [fb_subI (by omega) (by omega), e1, l9]; omega
        refine main (a3 + 761 + 1074) ?_ (by omega) (by rw [M0, if_neg d1, if_neg d2, if_neg c0])
        unfold f_X0_handedExponent
        rw [if_neg d1, if_pos (by rw [fa_lt]; omega), fa_eq, e2, e3]
