/-! isSound: always true -/
theorem zq_up1 {v : NV} (h : ok v) : f_X0_raised (cB v) 1 = cB (upn v 1) := v_raised h (n := 1) (by omega)
theorem zq_lw1 {v : NV} (h : ok v) : f_X0_lowered (cB v) 1 = cB (opp (upn (opp v) 1)) := v_lowered h (n := 1) (by omega)
theorem zq_up1P {v : NV} (h : ok v) : pl (upn v 1) = if (9218868437227405312 : Int) < pl v + 1 then (9218868437227405312 : Int) else pl v + 1 := upn_P v 1 h
theorem zq_top {v : NV} (h : ok v) : pl v = 9218868437227405312 ↔ cB v = 9218868437227405312 := by
  have h' : v.2 ≤ 9218868437227405312 := h
  have e : (9218868437227405312 : Int64) = cB (false, 9218868437227405312) := rfl
  have ot : ok (false, 9218868437227405312) := Nat.le_refl _
  rw [e, cB_inj h ot]
  constructor
  · intro k
    have k' : gP v.1 v.2 = 9218868437227405312 := k
    unfold gP at k'
    by_cases c : v.1 = true
    · rw [if_pos c] at k'
      omega
    · rw [if_neg c] at k'
      have f : v.1 = false := by
        cases hv : v.1
        · rfl
        · exact absurd hv c
      exact Prod.ext f (show v.2 = 9218868437227405312 by omega)
  · rintro rfl
    rfl
theorem zq_steps {v : NV} (h : ok v) : f_X4_stepsHold (cB v) = true := by
  have b := pl_b h
  have t := zq_top h
  have u := zq_up1P h
  have ou := ok_upn 1 h
  have one : (1 : Int64).toInt = 1 := by decide +kernel
  unfold f_X4_stepsHold
  rw [zq_up1 h]
  by_cases c : cB v = 9218868437227405312
  · rw [if_pos c]
    rw [if_pos (show cB (upn v 1) = cB v by
      have p := t.mpr c
      rw [p, if_pos (by omega)] at u
      rw [c]
      exact (zq_top ou).mp u)]
  · rw [if_neg c]
    have p : ¬ pl v = 9218868437227405312 := fun k => c (t.mp k)
    rw [if_neg (by omega)] at u
    rw [if_pos (show f_X0_placeOf (cB (upn v 1)) = f_X0_placeOf (cB v) + 1 by
      rw [fa_eq64, fb_addL (by rw [(v_place h).1, one]; omega) (by rw [(v_place h).1, one]; omega), (v_place ou).1, (v_place h).1, one, u])]
    rw [zq_lw1 ou, if_pos ((v_ord0 (ok_opp (ok_upn 1 (ok_opp ou))) h).mpr (by
      rw [pl_opp, zq_up1P (ok_opp ou), pl_opp, u, if_neg (by omega)]
      omega))]
theorem zq_nr1 (k : Nat) : nr 1 (k : Int) = if k ≤ 52 then 2 ^ k else if k - 52 < 2046 then (k - 52) * 4503599627370496 + 4503599627370496 else 9218868437227405312 := by
  unfold nr
  rw [if_neg (by omega), show (1 : Nat).log2 = 0 by decide +kernel, show ((k : Int)).toNat = k from rfl]
  unfold mk
  rw [Nat.add_zero, Nat.one_mul, Nat.one_mul, show (2 : Nat) ^ (52 - 0) = 4503599627370496 from rfl]
theorem zq_vlp {k : Nat} (hk : k ≤ 2045) : zq_vl (nr 1 (k : Int)) = 2 ^ k := by
  rw [zq_nr1]
  unfold zq_vl wh sh
  by_cases c : k ≤ 52
  · rw [if_pos c]
    rcases Nat.lt_or_ge k 52 with d | d
    · have l := Nat.pow_le_pow_right (n := 2) (by decide) (show k ≤ 51 by omega)
      rw [show (2 : Nat) ^ 51 = 2251799813685248 from rfl] at l
      rw [if_pos (by omega), if_pos (by omega), Nat.pow_zero, Nat.mul_one]
    · obtain rfl : k = 52 := by omega
      decide +kernel
  · rw [if_neg c, if_pos (show k - 52 < 2046 by omega)]
    obtain ⟨j, rfl⟩ : ∃ j, k = 52 + j := ⟨k - 52, by omega⟩
    rw [show (52 + j - 52) * 4503599627370496 + 4503599627370496 = (j + 1) * 4503599627370496 by omega, if_neg (by omega), if_neg (by omega), Nat.mul_mod_left, Nat.mul_div_cancel _ (by omega), Nat.pow_add] <;> rfl
theorem zq_upf {S : Nat} (h : S + 1 ≤ 9218868437227405312) : upn (false, S) 1 = (false, S + 1) := by
  have e : upn (false, S) 1 = if (9218868437227405312 : Int) < (S : Int) + ((1 : Nat) : Int) then ((false, 9218868437227405312) : Bool × Nat) else if 0 < 1 ∧ (S : Int) + ((1 : Nat) : Int) = 0 then (true, 0) else if 1 = 0 then (false, S) else gQ ((S : Int) + ((1 : Nat) : Int)) := rfl
  rw [e, if_neg (by omega), if_neg (by omega), if_neg (by omega)]
  unfold gQ
  rw [decide_eq_false (by omega)]
  exact congrArg (fun x => (false, x)) (by omega)
theorem zq_sg0 {T : Int} (h : T = 0) : zq_sg T = 0 := by
  subst h
  rfl
theorem zq_unitH {v : NV} (h : ok v) : f_X4_unitHolds (cB v) = some true := by
  have h' : v.2 ≤ 9218868437227405312 := h
  have of : ok (false, v.2) := h
  unfold f_X4_unitHolds
  rw [show f_X0_hasNoEnd (cB v) = decide (v.2 = 9218868437227405312) from x_noEnd v.1 h', show f_X0_sizeOf (cB v) = cB (false, v.2) from x_size v.1 h', (v_unit h).1]
  by_cases c : v.2 = 9218868437227405312
  · rw [decide_eq_true c, if_neg (show ¬ true = false by decide)]
    rw [if_pos (show cB (unt v) = 9218868437227405312 by unfold unt; rw [if_pos c] <;> rfl)]
  · rw [decide_eq_false c, if_pos ff_P, zq_up1 of]
    have eu : upn (false, v.2) 1 = (false, v.2 + 1) := zq_upf (by omega)
    have o1 : ok (false, v.2 + 1) := show v.2 + 1 ≤ 9218868437227405312 by omega
    rw [eu, show f_X0_hasNoEnd (cB (false, v.2 + 1)) = decide (v.2 + 1 = 9218868437227405312) from x_noEnd false o1]
    by_cases d : v.2 + 1 = 9218868437227405312
    · rw [decide_eq_true d, if_neg (show ¬ true = false by decide)]
    · rw [decide_eq_false d, if_pos ff_P, (v_opp of).1, (v_opp (ok_unt v)).1, show (0 : Int64) = cB (false, 0) from rfl]
      have s1 : sh v.2 ≤ 2045 := sh_lt (by omega)
      have eut : unt v = (false, nr 1 (sh v.2)) := by unfold unt; rw [if_neg c]
      have un : (unt v).2 < 9218868437227405312 := by
        rw [eut]
        show nr 1 ((sh v.2 : Nat) : Int) < 9218868437227405312
        rw [zq_nr1]
        by_cases e : sh v.2 ≤ 52
        · rw [if_pos e]
          have l := Nat.pow_le_pow_right (n := 2) (by decide) e
          rw [show (2 : Nat) ^ 52 = 4503599627370496 from rfl] at l
          omega
        · rw [if_neg e, if_pos (by omega)]
          omega
      rw [zq_sgn o1 (ok_opp of) (ok_opp (ok_unt v)) (show ok (false, 0) from Nat.zero_le _) (show v.2 + 1 < 9218868437227405312 by omega) (show v.2 < 9218868437227405312 by omega) un (show 0 < 9218868437227405312 by omega), obs, zq_opp, zq_opp, eut]
      have a1 : zq_sv (false, v.2 + 1) = zq_vl (v.2 + 1) := zq_sv_f Bool.false_ne_true
      have a2 : zq_sv (false, v.2) = zq_vl v.2 := zq_sv_f Bool.false_ne_true
      have a3 : zq_sv (false, nr 1 ((sh v.2 : Nat) : Int)) = zq_vl (nr 1 ((sh v.2 : Nat) : Int)) := zq_sv_f Bool.false_ne_true
      have a4 : zq_sv (false, 0) = zq_vl 0 := zq_sv_f Bool.false_ne_true
      rw [a1, a2, a3, a4, zq_s, zq_vlp s1, zq_vl0, if_pos (zq_sg0 (by omega))]
theorem zq_twice {S : Nat} (h0 : 0 < S) (h : S < 9218868437227405312) : nr (wh S) ((sh S : Int) + 1) = if S < 4503599627370496 then 2 * S else if S / 4503599627370496 < 2046 then S + 4503599627370496 else 9218868437227405312 := by
  unfold nr
  rw [if_neg (by omega), show ((sh S : Int) + 1).toNat = sh S + 1 by omega]
  by_cases c : S < 4503599627370496
  · have w : wh S = S := if_pos c
    have s : sh S = 0 := if_pos c
    rw [if_pos c, w, s]
    have lg := lg_of h0
    have l51 : S.log2 ≤ 51 := by
      rcases Nat.lt_or_ge 51 S.log2 with x | x
      · have := Nat.pow_le_pow_right (n := 2) (by decide) (show 52 ≤ S.log2 from x)
        rw [show (2 : Nat) ^ 52 = 4503599627370496 from rfl] at this
        omega
      · exact x
    unfold mk
    rw [if_pos (by omega), show (2 : Nat) ^ (0 + 1) = 2 from rfl]
    omega
  · have w : wh S = 4503599627370496 + S % 4503599627370496 := if_neg c
    have s : sh S = S / 4503599627370496 - 1 := if_neg c
    have l : (wh S).log2 = 52 := (Nat.log2_eq_iff (by omega)).mpr ⟨by omega, by omega⟩
    rw [if_neg c, l]
    unfold mk
    rw [if_neg (by omega)]
    by_cases d : S / 4503599627370496 < 2046
    · rw [if_pos (by omega), if_pos d, w, s, Nat.sub_self, Nat.pow_zero]
      omega
    · rw [if_neg (by omega), if_neg d]
theorem zq_half {S : Nat} (h0 : 0 < S) (h : S < 9218868437227405312) {T : Nat} (hT : T = if S < 4503599627370496 then 2 * S else S + 4503599627370496) (hT2 : T < 9218868437227405312) : nr (wh T) ((sh T : Int) + -1) = S := by
  by_cases c : S < 4503599627370496
  · rw [if_pos c] at hT
    have w : wh T = T := by
      unfold wh
      by_cases d : T < 4503599627370496
      · rw [if_pos d]
      · rw [if_neg d]; omega
    have s : sh T = 0 := by
      unfold sh
      by_cases d : T < 4503599627370496
      · rw [if_pos d]
      · rw [if_neg d]; omega
    unfold nr
    rw [w, s, if_pos (by omega), show (-(((0 : Nat) : Int) + -1)).toNat = 1 by decide]
    unfold hv
    rw [if_neg (by omega), Nat.sub_self, Nat.pow_zero, Nat.pow_one, if_neg (by omega), if_neg (by omega)]
    omega
  · rw [if_neg c] at hT
    have c2 : ¬ T < 4503599627370496 := by omega
    have w : wh T = 4503599627370496 + T % 4503599627370496 := if_neg c2
    have s : sh T = T / 4503599627370496 - 1 := if_neg c2
    have l : (wh T).log2 = 52 := (Nat.log2_eq_iff (by omega)).mpr ⟨by omega, by omega⟩
    have k : ((sh T : Int) + -1).toNat = sh T - 1 := by omega
    unfold nr
    rw [if_neg (by omega), k, l]
    unfold mk
    by_cases d : sh T - 1 + 52 ≤ 52
    · rw [if_pos d, show sh T - 1 = 0 by omega, Nat.pow_zero, Nat.mul_one]
      omega
    · rw [if_neg d, if_pos (by omega), Nat.sub_self, Nat.pow_zero, Nat.mul_one, show sh T - 1 + 52 - 52 = sh T - 1 by omega]
      omega
theorem zq_p2 {S : Nat} (h0 : 0 < S) (h : S < 9218868437227405312) : ∃ p, nr 1 (((wh S).log2 + sh S : Nat) : Int) = p ∧ 0 < p ∧ p ≤ S ∧ p < 9218868437227405312 ∧ S < (if p < 4503599627370496 then 2 * p else if p / 4503599627370496 < 2046 then p + 4503599627370496 else 9218868437227405312) := by
  refine ⟨_, rfl, ?_⟩
  rw [zq_nr1]
  by_cases c : S < 4503599627370496
  · have w : wh S = S := if_pos c
    have s : sh S = 0 := if_pos c
    have lg := lg_of h0
    have l51 : S.log2 ≤ 51 := by
      rcases Nat.lt_or_ge 51 S.log2 with x | x
      · have := Nat.pow_le_pow_right (n := 2) (by decide) (show 52 ≤ S.log2 from x)
        rw [show (2 : Nat) ^ 52 = 4503599627370496 from rfl] at this
        omega
      · exact x
    have pz := Nat.two_pow_pos S.log2
    rw [w, s, if_pos (by omega), Nat.add_zero]
    rw [Nat.pow_succ] at lg
    generalize 2 ^ S.log2 = X at lg pz ⊢
    refine ⟨pz, lg.1, by omega, ?_⟩
    rw [if_pos (by omega)]
    omega
  · have w : wh S = 4503599627370496 + S % 4503599627370496 := if_neg c
    have s : sh S = S / 4503599627370496 - 1 := if_neg c
    have l : (wh S).log2 = 52 := (Nat.log2_eq_iff (by omega)).mpr ⟨by omega, by omega⟩
    have ep : (if 52 + sh S ≤ 52 then 2 ^ (52 + sh S) else if 52 + sh S - 52 < 2046 then (52 + sh S - 52) * 4503599627370496 + 4503599627370496 else 9218868437227405312) = S / 4503599627370496 * 4503599627370496 := by
      by_cases d : 52 + sh S ≤ 52
      · rw [if_pos d, show sh S = 0 by omega, show (2 : Nat) ^ (52 + 0) = 4503599627370496 from rfl]
        omega
      · rw [if_neg d, if_pos (by omega)]
        omega
    rw [l, ep]
    refine ⟨by omega, by omega, by omega, ?_⟩
    rw [if_neg (by omega), Nat.mul_div_cancel _ (by omega)]
    by_cases d : S / 4503599627370496 < 2046
    · rw [if_pos d]; omega
    · rw [if_neg d]; exact h
def zq_tw (S : Nat) : Nat := if S < 4503599627370496 then 2 * S else if S / 4503599627370496 < 2046 then S + 4503599627370496 else 9218868437227405312
theorem zq_tw_le {S : Nat} (h : S < 9218868437227405312) : zq_tw S ≤ 9218868437227405312 := by
  unfold zq_tw
  by_cases c : S < 4503599627370496
  · rw [if_pos c]; omega
  · rw [if_neg c]
    by_cases d : S / 4503599627370496 < 2046
    · rw [if_pos d]; omega
    · rw [if_neg d]; exact Nat.le_refl _
theorem zq_sclT (s : Bool) {S : Nat} (h0 : 0 < S) (h : S < 9218868437227405312) : scl (s, S) 1 = (s, zq_tw S) := by
  have e : scl (s, S) 1 = if S = 0 ∨ S = 9218868437227405312 then (s, S) else (s, nr (wh S) ((sh S : Int) + 1)) := rfl
  rw [e, if_neg (by omega)]
  exact congrArg (fun x => (s, x)) (zq_twice h0 h)
theorem zq_sclH (s : Bool) {S : Nat} (h0 : 0 < S) (h : S < 9218868437227405312) (hT : zq_tw S ≠ 9218868437227405312) : scl (s, zq_tw S) (-1) = (s, S) := by
  have l := zq_tw_le h
  have e : scl (s, zq_tw S) (-1) = if zq_tw S = 0 ∨ zq_tw S = 9218868437227405312 then (s, zq_tw S) else (s, nr (wh (zq_tw S)) ((sh (zq_tw S) : Int) + -1)) := rfl
  have f : zq_tw S = if S < 4503599627370496 then 2 * S else S + 4503599627370496 := by
    unfold zq_tw at hT ⊢
    by_cases c : S < 4503599627370496
    · rw [if_pos c, if_pos c]
    · rw [if_neg c] at hT ⊢
      rw [if_neg c]
      by_cases d : S / 4503599627370496 < 2046
      · rw [if_pos d]
      · rw [if_neg d] at hT
        exact absurd rfl hT
  have p : zq_tw S ≠ 0 := by
    rw [f]
    by_cases c : S < 4503599627370496
    · rw [if_pos c]; omega
    · rw [if_neg c]; omega
  rw [e, if_neg (by omega)]
  exact congrArg (fun x => (s, x)) (zq_half h0 h f (by omega))
theorem zq_powH {v : NV} (h : ok v) : f_X4_powersHold (cB v) = true := by
  have h' : v.2 ≤ 9218868437227405312 := h
  have t1 : (1 : Int32).toInt = 1 := rfl
  have tm : (-1 : Int32).toInt = -1 := rfl
  have nt : ¬ true = false := by decide
  have sc := (v_scaled h (a := 1) (by rw [t1]; omega)).1
  rw [t1] at sc
  unfold f_X4_powersHold
  rw [show f_X0_isZero (cB v) = decide (v.2 = 0) from x_isZero v.1 h', show f_X0_hasNoEnd (cB v) = decide (v.2 = 9218868437227405312) from x_noEnd v.1 h', sc]
  by_cases c : v.2 = 0
  · rw [decide_eq_true c, if_neg nt, if_pos (show cB (scl v 1) = cB v by unfold scl; rw [if_pos (Or.inl c)])]
  rw [decide_eq_false c, if_pos ff_P]
  by_cases d : v.2 = 9218868437227405312
  · rw [decide_eq_true d, if_neg nt, if_pos (show cB (scl v 1) = cB v by unfold scl; rw [if_pos (Or.inr d)])]
  rw [decide_eq_false d, if_pos ff_P]
  have h0 : 0 < v.2 := by omega
  have hE : v.2 < 9218868437227405312 := by omega
  have s1 := sh_le h'
  have tail : ¬ f_X0_leadOf (cB v) < f_X0_tailOf (cB v) := by
    obtain ⟨t, t2, t3⟩ := (xm_tail v.1 h0 h').2
    have l52 := lg_52 (wh_pos h0) (wh_lt v.2)
    have tk : (-1074 : Int32).toInt = -1074 := rfl
    have A : ∀ n : Nat, n < 100000 → (nI n + (-1074)).toInt = (n : Int) - 1074 := by
      intro n hn
      rw [fb_addI (by rw [nI_toInt (by omega), tk]; omega) (by rw [nI_toInt (by omega), tk]; omega), nI_toInt (by omega), tk]
      omega
    rw [(v_lead h h0).2, show f_X0_tailOf (cB v) = nI (t + sh v.2) + (-1074) from t3, fa_lt, A _ (by omega), A _ (by omega)]
    omega
  rw [if_neg tail, (v_pow2 h h0).1, show f_X0_sizeOf (cB v) = cB (false, v.2) from x_size v.1 h']
  obtain ⟨p, p1, p2, p3, p4, p5⟩ := zq_p2 h0 hE
  have ep : pow2 v = (false, p) := congrArg (fun x => (false, x)) p1
  have op : ok (false, p) := show p ≤ 9218868437227405312 by omega
  have of : ok (false, v.2) := h
  have scp := (v_scaled op (a := 1) (by rw [t1]; omega)).1
  rw [t1, zq_sclT false p2 p4] at scp
  have ot : ok (false, zq_tw p) := zq_tw_le p4
  have q1 : pl (false, p) = p := rfl
  have q2 : pl (false, v.2) = v.2 := rfl
  have q3 : pl (false, zq_tw p) = zq_tw p := rfl
  have p5' : v.2 < zq_tw p := p5
  have o1 : ¬ 0 < f_X0_order (cB (false, p)) (cB (false, v.2)) := by
    rw [v_order op of, q1, q2]
    by_cases x : (p : Int) < v.2
    · rw [if_pos x]; decide
    · rw [if_neg x, if_pos (by omega)]; decide
  rw [ep, if_neg o1, scp, if_pos ((v_ordL of ot).mpr (by rw [q2, q3]; omega))]
  have ev : scl v 1 = (v.1, zq_tw v.2) := zq_sclT v.1 h0 hE
  have ow : ok (v.1, zq_tw v.2) := zq_tw_le hE
  rw [ev, show f_X0_hasNoEnd (cB (v.1, zq_tw v.2)) = decide (zq_tw v.2 = 9218868437227405312) from x_noEnd v.1 ow]
  by_cases g : zq_tw v.2 = 9218868437227405312
  · rw [decide_eq_true g, if_neg nt]
  · rw [decide_eq_false g, if_pos ff_P]
    have sb := (v_scaled ow (a := -1) (by rw [tm]; omega)).1
    rw [tm, zq_sclH v.1 h0 hE g] at sb
    rw [sb, if_pos rfl]
theorem zq_hA {v : NV} (h : ok v) : f_X4_holdsAt (cB v) = some true := by
  have nt : ¬ true = false := by decide
  unfold f_X4_holdsAt
  rw [zq_steps h, if_neg nt, (v_opp h).1, zq_steps (ok_opp h), if_neg nt, zq_unitH h, obs, if_neg nt, zq_powH h, if_neg nt]
theorem zq_hB {v w : NV} (h : ok v) (k : ok w) : f_X4_holdsBetween (cB v) (cB w) = true := by
  have nt : ¬ true = false := by decide
  have s : f_X4_stepHolds (cB v) (cB w) = true := by
    have z := v_ord0 h k
    unfold f_X4_stepHolds
    rw [(v_nearer h k).1]
    by_cases c : pl v = pl w
    · rw [if_pos (z.mpr c), if_pos (show cB (nrr v w) = cB w by unfold nrr; rw [if_pos c])]
    · rw [if_neg (fun x => c (z.mp x)), v_dist (ok_nrr h k) k, v_dist h k]
      have dn : dst v w ≠ 0 := by unfold dst; omega
      have e : dst (nrr v w) w = dst v w - 1 := nrr_d h k dn
      rw [if_pos (show lN (pl (nrr v w) - pl w).natAbs = lN (pl v - pl w).natAbs - 1 from (congrArg lN e).trans (lN_sub (b := 1) (by omega)).symm)]
  unfold f_X4_holdsBetween
  rw [s, if_neg nt, if_pos (show f_X0_order (cB v) (cB w) = -(f_X0_order (cB w) (cB v)) by
    rw [v_order h k, v_order k h]
    by_cases c : pl v < pl w
    · rw [if_pos c, if_neg (by omega), if_neg (by omega)]
    · rw [if_neg c]
      by_cases d : pl v = pl w
      · rw [if_pos d, if_neg (by omega), if_pos d.symm] <;> decide
      · rw [if_neg d, if_pos (by omega)] <;> decide)]
/-! a row that loses nothing leads home -/
def zq_pF (K N : Nat → Int32) : Nat → Nat → NV → NV
  | 0, _, z => z
  | d + 1, i, z => zq_pF K N d (i + 1) (wdF (K i) (N i) z)
def zq_bk (K N : Nat → Int32) (i : Nat) : Nat → NV → NV
  | 0, z => z
  | d + 1, z => zq_bk K N i d (wdB (K (i + d)) (N (i + d)) z)
def zq_ls (K N : Nat → Int32) : Nat → Nat → NV → Nat
  | 0, _, _ => 0
  | d + 1, i, z => (if wdB (K i) (N i) (wdF (K i) (N i) z) = z then 0 else 1) + zq_ls K N d (i + 1) (wdF (K i) (N i) z)
theorem zq_bks (K N : Nat → Int32) : ∀ (d i : Nat) (z : NV), zq_bk K N i (d + 1) z = wdB (K i) (N i) (zq_bk K N (i + 1) d z) := by
  intro d
  induction d with
  | zero => intro i z; rfl
  | succ d ih =>
    intro i z
    rw [zq_bk, ih, show i + (d + 1) = i + 1 + d by omega, zq_bk]
theorem zq_home (K N : Nat → Int32) : ∀ (d i : Nat) (z : NV), zq_ls K N d i z = 0 → zq_bk K N i d (zq_pF K N d i z) = z := by
  intro d
  induction d with
  | zero => intro i z _; rfl
  | succ d ih =>
    intro i z h
    rw [zq_ls] at h
    rw [zq_bks, zq_pF, ih (i + 1) _ (by omega)]
    by_cases c : wdB (K i) (N i) (wdF (K i) (N i) z) = z
    · exact c
    · rw [if_neg c] at h
      omega
theorem zq_ls_le (K N : Nat → Int32) : ∀ (d i : Nat) (z : NV), zq_ls K N d i z ≤ d := by
  intro d
  induction d with
  | zero => intro i z; exact Nat.le_refl _
  | succ d ih =>
    intro i z
    have := ih (i + 1) (wdF (K i) (N i) z)
    rw [zq_ls]
    split <;> omega
theorem zq_lsE {v : StR} {K N : Nat → Int32} {a : Nat} (ha : a ≤ 40) (e1 : v.2.2 = nI a) (hE : ∀ i, i < a → v.1 i = K i ∧ v.2.1 i = N i ∧ wok (K i) (N i)) (q0 : Int64) : ∀ (d n i k : Nat) (z : NV), i + d = a → d < n → ok z → f_X3_lossesFrom_L8 v q0 n (nI i) (cB z) (nI k) = some (nI (k + zq_ls K N d i z)) := by
  intro d
  induction d with
  | zero =>
    intro n i k z hi hn hz
    obtain ⟨n, rfl⟩ : ∃ m, n = m + 1 := ⟨n - 1, by omega⟩
    rw [f_X3_lossesFrom_L8, e1, if_neg (nI_nlt (by omega) (by omega))] <;> rfl
  | succ d ih =>
    intro n i k z hi hn hz
    obtain ⟨n, rfl⟩ : ∃ m, n = m + 1 := ⟨n - 1, by omega⟩
    obtain ⟨s1, s2, s3⟩ := hE i (by omega)
    have l : nI i < nI a := (nI_ltI (by omega) (by omega)).mpr (by omega)
    have of := ok_wdF (k := K i) (n := N i) hz
    have ob := ok_wdB (k := K i) (n := N i) of
    rw [f_X3_lossesFrom_L8, e1, if_pos l, if_neg (nI_in (by omega) (by omega)), if_neg (nI_in (by omega) (by omega)), if_neg (nI_in (by omega) (by omega)), if_neg (nI_in (by omega) (by omega)), nI_clamp (by omega), s1, s2, x_wdF s3 hz, x_wdB s3 of, nI_1, zq_ls]
    by_cases c : wdB (K i) (N i) (wdF (K i) (N i) z) = z
    · rw [if_pos ((cB_inj ob hz).mpr c), if_pos c, Nat.zero_add]
      exact ih n (i + 1) k _ (by omega) (by omega) of
    · rw [if_neg (fun x => c ((cB_inj ob hz).mp x)), if_neg c, nI_1, ← Nat.add_assoc]
      exact ih n (i + 1) (k + 1) _ (by omega) (by omega) of
theorem zq_pE {v : StR} {K N : Nat → Int32} {a : Nat} (ha : a ≤ 40) (e1 : v.2.2 = nI a) (hE : ∀ i, i < a → v.1 i = K i ∧ v.2.1 i = N i ∧ wok (K i) (N i)) (q0 : Int64) : ∀ (d n i : Nat) (z : NV), i + d = a → d < n → ok z → f_X3_playedOn_L5 v q0 n (nI i) (cB z) = some (cB (zq_pF K N d i z)) ∧ ok (zq_pF K N d i z) := by
  intro d
  induction d with
  | zero =>
    intro n i z hi hn hz
    obtain ⟨n, rfl⟩ : ∃ m, n = m + 1 := ⟨n - 1, by omega⟩
    rw [f_X3_playedOn_L5, e1, if_neg (nI_nlt (by omega) (by omega))]
    exact ⟨rfl, hz⟩
  | succ d ih =>
    intro n i z hi hn hz
    obtain ⟨n, rfl⟩ : ∃ m, n = m + 1 := ⟨n - 1, by omega⟩
    obtain ⟨s1, s2, s3⟩ := hE i (by omega)
    have l : nI i < nI a := (nI_ltI (by omega) (by omega)).mpr (by omega)
    rw [f_X3_playedOn_L5, e1, if_pos l, if_neg (nI_in (by omega) (by omega)), if_neg (nI_in (by omega) (by omega)), nI_clamp (by omega), s1, s2, x_wdF s3 hz, nI_1, zq_pF]
    exact ih n (i + 1) _ (by omega) (by omega) (ok_wdF hz)
theorem zq_bE {v : StR} {K N : Nat → Int32} {a : Nat} (ha : a ≤ 40) (hE : ∀ i, i < a → v.1 i = K i ∧ v.2.1 i = N i ∧ wok (K i) (N i)) (q0 : Int64) : ∀ (d n : Nat) (z : NV), d ≤ a → d < n → ok z → f_X3_playedBackOn_L10 v q0 n (nI d - 1) (cB z) = some (cB (zq_bk K N 0 d z)) := by
  intro d
  induction d with
  | zero =>
    intro n z _ hn hz
    obtain ⟨n, rfl⟩ : ∃ m, n = m + 1 := ⟨n - 1, by omega⟩
    rw [f_X3_playedBackOn_L10, if_pos (by decide)] <;> rfl
  | succ d ih =>
    intro n z hd hn hz
    obtain ⟨n, rfl⟩ : ∃ m, n = m + 1 := ⟨n - 1, by omega⟩
    obtain ⟨s1, s2, s3⟩ := hE d (by omega)
    have p : nI (d + 1) - 1 = nI d := pk_sub (b := 1) (by omega)
    have p2 : nI d + -1 = nI d - 1 := (Int32.sub_eq_add_neg _ _).symm
    rw [p, f_X3_playedBackOn_L10, if_neg (nI_pos (by omega)), if_neg (nI_in (by omega) (by omega)), if_neg (nI_in (by omega) (by omega)), nI_clamp (by omega), s1, s2, x_wdB s3 hz, p2, zq_bk, Nat.zero_add]
    exact ih n _ (by omega) (by omega) (ok_wdB hz)
theorem zq_row {v : StR} {K N : Nat → Int32} {c : Int32} (hW : RelW v K N c) {z : NV} (hz : ok z) : ∃ r, f_X3_lossesFrom v (cB z) = some r ∧ (r = 0 → f_X3_leadsHome v (cB z) = some true) := by
  obtain ⟨a, ha, e1, e2, hE⟩ := hW
  have L := zq_lsE ha e1 hE (cB z) a 100 0 0 z (by omega) (by omega) hz
  refine ⟨_, L, fun h => ?_⟩
  have l := zq_ls_le K N a 0 z
  rw [Nat.zero_add] at h
  have h2 : zq_ls K N a 0 z = 0 := (nI_eq (b := 0) (by omega) (by omega)).mp h
  obtain ⟨P, oP⟩ := zq_pE ha e1 hE (cB z) a 100 0 z (by omega) (by omega) hz
  have B := zq_bE ha hE (cB (zq_pF K N a 0 z)) a 100 (zq_pF K N a 0 z) (Nat.le_refl _) (by omega) oP
  rw [zq_home K N a 0 z h2] at B
  have P2 : f_X3_playedOn v (cB z) = some (cB (zq_pF K N a 0 z)) := P
  have B2 : f_X3_playedBackOn v (cB (zq_pF K N a 0 z)) = some (cB z) := by
    unfold f_X3_playedBackOn
    rw [e1]
    exact B
  unfold f_X3_leadsHome
  rw [P2, obs, B2, obs, if_pos rfl]
theorem zq_L56 {u : StX} {w : StM} (hS : RelS u.1 w.1) (k2 : Int32 → Option Bool) {i : Nat} (hi : i < 8) : ∀ (d n j : Nat), j + d = 8 → d < n → f_X5_isSound_L56 u k2 n (nI j) (nI i) = k2 (nI i + 1) := by
  obtain ⟨z, hz, p1, _⟩ := hS i hi
  intro d
  induction d with
  | zero =>
    intro n j hj hn
    obtain ⟨n, rfl⟩ : ∃ m, n = m + 1 := ⟨n - 1, by omega⟩
    have n8 : ¬ nI j < 8 := nI_nlt (b := 8) (by omega) (by omega)
    rw [f_X5_isSound_L56, if_neg n8]
  | succ d ih =>
    intro n j hj hn
    obtain ⟨n, rfl⟩ : ∃ m, n = m + 1 := ⟨n - 1, by omega⟩
    obtain ⟨y, hy, r1, _⟩ := hS j (by omega)
    have l8 : nI j < 8 := (nI_ltI (b := 8) (by omega) (by omega)).mpr (by omega)
    rw [f_X5_isSound_L56, if_pos l8, if_neg (sl_in hi), if_neg (sl_in (by omega)), sl_cl hi, sl_cl (by omega), p1, r1, zq_hB hz hy, if_neg (show ¬ true = false by decide), nI_1]
    exact ih n (j + 1) (by omega) (by omega)
theorem zq_L2 {u : StX} {w : StM} (h : Rel u w) : ∀ (d n i : Nat), i + d = 8 → d < n → f_X5_isSound_L2 u n (nI i) = some true := by
  intro d
  induction d with
  | zero =>
    intro n i hi hn
    obtain ⟨n, rfl⟩ : ∃ m, n = m + 1 := ⟨n - 1, by omega⟩
    have n8 : ¬ nI i < 8 := nI_nlt (b := 8) (by omega) (by omega)
    rw [f_X5_isSound_L2, if_neg n8]
  | succ d ih =>
    intro n i hi hn
    obtain ⟨n, rfl⟩ : ∃ m, n = m + 1 := ⟨n - 1, by omega⟩
    have i8 : i < 8 := by omega
    obtain ⟨z, hz, p1, _⟩ := h.1 i i8
    obtain ⟨r, r1, r2⟩ := zq_row h.2.1 hz
    have nt : ¬ true = false := by decide
    have nxt : f_X5_isSound_L56 u (f_X5_isSound_L2 u n) 100 0 (nI i) = some true := by
      rw [show (0 : Int32) = nI 0 from rfl, zq_L56 h.1 _ i8 8 100 0 (by omega) (by omega), nI_1]
      exact ih n (i + 1) (by omega) (by omega)
    have l8 : nI i < 8 := (nI_ltI (b := 8) (by omega) (by omega)).mpr i8
    rw [f_X5_isSound_L2, if_pos l8, if_neg (sl_in i8), if_neg (sl_in i8), if_neg (sl_in i8), sl_cl i8, p1, zq_hA hz, obs, if_neg nt, r1, obs]
    by_cases c : r = 0
    · rw [if_pos c, r2 c, obs, if_neg nt]
      exact nxt
    · rw [if_neg c]
      exact nxt
theorem ok_isSound {v : SH} {w : StM} (h : Rel v.1 w) : ∃ (zH : Bool) (zM : Bool × StM), f_X5_isSound v.1 = some zH ∧ f_X6_isSound w = some zM ∧ b2i zH = b2i zM.1 ∧ Rel v.1 zM.2 := ⟨true, (true, wt w 0), zq_L2 h 8 100 0 (by omega) (by omega), rfl, rfl, Rel_t h 0⟩
