/-! whole operations on numbers, class and reference -/
abbrev NV : Type := Bool × Nat
def cB (v : NV) : Int64 := gB v.1 v.2
def cC (v : NV) : Int64 := gC v.1 v.2
def pl (v : NV) : Int := gP v.1 v.2
def ok (v : NV) : Prop := v.2 ≤ 9218868437227405312
theorem pl_b {v : NV} (h : ok v) : -9218868437227405312 ≤ pl v ∧ pl v ≤ 9218868437227405312 := gP_b v.1 v.2 h
theorem cB_inj {v w : NV} (h : ok v) (k : ok w) : cB v = cB w ↔ v = w := by
  unfold cB ok at *
  rw [gB_inj (by omega) (by omega)]
  exact Prod.ext_iff.symm
theorem cC_inj {v w : NV} (h : ok v) (k : ok w) : cC v = cC w ↔ v = w := by
  unfold cC ok at *
  rw [gC_inj (by omega) (by omega)]
  exact Prod.ext_iff.symm
theorem ok_gQ {z : Int} (h1 : -9218868437227405312 ≤ z) (h2 : z ≤ 9218868437227405312) : ok (gQ z) := gQ_le (M := 9218868437227405312) h1 h2
theorem pl_gQ (z : Int) : pl (gQ z) = z := gQ_P z
theorem ok_opp {v : NV} (h : ok v) : ok (opp v) := h
theorem pl_opp (v : NV) : pl (opp v) = - pl v := gP_n v.1 v.2
theorem ok_upn {v : NV} (n : Nat) (h : ok v) : ok (upn v n) := upn_le v n h
theorem ok_up1 {v : NV} (h : ok v) : ok (up1 v) := by
  have e := upn_s v 0 h
  rw [upn_0 v h] at e
  rw [e]; exact ok_upn 1 h
theorem up1_eq {v : NV} (h : ok v) : up1 v = upn v 1 := by
  have e := upn_s v 0 h
  rw [upn_0 v h] at e
  exact e
def dn1 (v : NV) : NV := opp (up1 (opp v))
theorem ok_dn1 {v : NV} (h : ok v) : ok (dn1 v) := ok_opp (ok_up1 (ok_opp h))
theorem v_opp {v : NV} (h : ok v) : f_X0_opposite (cB v) = cB (opp v) ∧ f_X6_opposite (cC v) = cC (opp v) := ⟨x_opp v.1 h, m_opp v.1 h⟩
theorem v_place {v : NV} (h : ok v) : (f_X0_placeOf (cB v)).toInt = pl v ∧ f_X6_placeOf (cC v) = f_X0_placeOf (cB v) := ⟨x_place v.1 h, (xm_place v.1 h).symm⟩
theorem v_above {v : NV} (h : ok v) : f_X6_above (cC v) = cC (up1 v) := m_above v h
theorem v_below {v : NV} (h : ok v) : f_X6_below (cC v) = cC (dn1 v) := m_below v h
theorem v_raised {v : NV} (h : ok v) {n : Nat} (hn : n < 2147483648) : f_X0_raised (cB v) (nI n) = cB (upn v n) := x_raised v h (nI_toInt hn) hn
theorem v_lowered {v : NV} (h : ok v) {n : Nat} (hn : n < 2147483648) : f_X0_lowered (cB v) (nI n) = cB (opp (upn (opp v) n)) := x_lowered v h (nI_toInt hn) hn
/-! scaling -/
def scl (v : NV) (k : Int) : NV := if v.2 = 0 ∨ v.2 = 9218868437227405312 then v else (v.1, nr (wh v.2) (sh v.2 + k))
theorem ok_scl {v : NV} (h : ok v) (k : Int) : ok (scl v k) := by
  unfold scl
  split
  · exact h
  · exact nr_le (wh_pos (by omega)) (wh_lt _) _
theorem v_scaled {v : NV} (h : ok v) {a : Int32} (ha : -9000 ≤ a.toInt ∧ a.toInt ≤ 9000) : f_X0_scaled (cB v) a = cB (scl v a.toInt) ∧ f_X6_scaled (cC v) a = some (cC (scl v a.toInt)) := by
  have h' : v.2 ≤ 9218868437227405312 := h
  have s0 := sh_le h'
  have sT : (nI (sh v.2)).toInt = sh v.2 := nI_toInt (by omega)
  have e : (nI (sh v.2) + a).toInt = sh v.2 + a.toInt := by rw [fb_addI (by omega) (by omega), sT]
  unfold f_X0_scaled f_X6_scaled scl
  have m0 : f_X6_size (cC v) = lN v.2 := m_size v.1 h'
  rw [show f_X0_isZero (cB v) = decide (v.2 = 0) from x_isZero v.1 h', show f_X0_hasNoEnd (cB v) = decide (v.2 = 9218868437227405312) from x_noEnd v.1 h', m0]
  by_cases c1 : v.2 = 0
  · rw [decide_eq_true c1, if_neg (by decide), if_pos (Or.inl c1), if_pos (show lN v.2 = 0 by rw [c1]; rfl)]
    exact ⟨rfl, rfl⟩
  · rw [decide_eq_false c1, if_pos rfl, if_neg (show ¬ lN v.2 = 0 from fun k => c1 ((L_eq (b := 0) (by omega) (by omega)).mp k))]
    by_cases c2 : v.2 = 9218868437227405312
    · rw [decide_eq_true c2, if_neg (by decide), if_pos (Or.inr c2), if_pos (show lN v.2 = 9218868437227405312 by rw [c2]; rfl)]
      exact ⟨rfl, rfl⟩
    · rw [decide_eq_false c2, if_pos rfl, if_neg (show ¬ lN v.2 = 9218868437227405312 from fun k => c2 ((L_eq (b := 9218868437227405312) (by omega) (by omega)).mp k)), if_neg (by omega)]
      have w0 := wh_pos (S := v.2) (by omega)
      have w1 := wh_lt v.2
      have nn := xm_near w0 w1 (a := nI (sh v.2) + a) (by omega)
      have nl := nr_le w0 w1 (sh v.2 + a.toInt)
      rw [e] at nn
      rw [show f_X0_whole (cB v) = lN (wh v.2) from x_whole v.1 h', show f_X0_shift (cB v) = nI (sh v.2) from x_shift v.1 h', m_whole h', m_shift h', nn.1, nn.2]
      generalize nr (wh v.2) (sh v.2 + a.toInt) = T at nl ⊢
      constructor
      · show gB v.1 v.2 &&& _ ||| lN T = gB v.1 T
        rw [L_minN]
        cases v.1
        · rw [gB_f, gB_f, fb_andL, fb_orL]
          have z : v.2 &&& 9223372036854775808 = 0 := by
            have : v.2.testBit 63 = false := Nat.testBit_lt_two_pow (by omega)
            apply Nat.eq_of_testBit_eq
            intro i
            rw [Nat.testBit_and, show (9223372036854775808 : Nat) = 2 ^ 63 from rfl, Nat.testBit_two_pow, Nat.zero_testBit]
            by_cases c : 63 = i
            · subst c; rw [this]; rfl
            · simp [c]
          rw [z, Nat.zero_or]
        · rw [gB_t, gB_t, fb_andL, fb_orL]
          have z : (9223372036854775808 + v.2) &&& 9223372036854775808 = 9223372036854775808 := by
            have t := Nat.testBit_lt_two_pow (x := v.2) (i := 63) (by omega)
            apply Nat.eq_of_testBit_eq
            intro i
            rw [Nat.testBit_and, show (9223372036854775808 : Nat) = 2 ^ 63 from rfl, Nat.testBit_two_pow]
            by_cases c : 63 = i
            · subst c; rw [Nat.testBit_two_pow_add_eq, t]; rfl
            · simp [c]
          rw [z]
          have e := Nat.two_pow_add_eq_or_of_lt (i := 63) (b := T) (by omega) 1
          exact congrArg lN e.symm
      · show (if cC v < 0 then some (f_X6_opposite (lN T)) else some (lN T)) = some (gC v.1 T)
        have g := gC_neg (s := v.1) (S := v.2) (by omega)
        cases hb : v.1
        · rw [if_neg (by rw [show cC v = gC v.1 v.2 from rfl, g, hb]; simp)]; rfl
        · rw [if_pos (by rw [show cC v = gC v.1 v.2 from rfl, g, hb])]
          exact congrArg some (m_opp false nl)
/-! unit, power of two -/
def unt (v : NV) : NV := (false, if v.2 = 9218868437227405312 then 9218868437227405312 else nr 1 (sh v.2))
def pow2 (v : NV) : NV := (false, nr 1 ((wh v.2).log2 + sh v.2 : Nat))
theorem ok_unt (v : NV) : ok (unt v) := by
  unfold unt ok
  simp only
  split
  · exact Nat.le_refl _
  · exact nr_le (by decide) (by decide) _
theorem ok_pow2 (v : NV) : ok (pow2 v) := by
  have e : (pow2 v).2 = nr 1 (((wh v.2).log2 + sh v.2 : Nat) : Int) := rfl
  unfold ok
  rw [e]
  exact nr_le (w := 1) (by decide) (by decide) _
theorem p2_of (n : Nat) (hn : n ≤ 90000) : f_X0_powerOfTwo (nI n + (-1074)) = lN (nr 1 n) ∧ f_X6_made 1 ((nI n + (-1074)) + 1074) = some (lN (nr 1 n)) := by
  have t : (nI n).toInt = n := nI_toInt (by omega)
  have t1 : (-1074 : Int32).toInt = -1074 := by decide
  have t2 : (1074 : Int32).toInt = 1074 := rfl
  have e0 : (nI n + (-1074)).toInt = n - 1074 := by rw [fb_addI (by omega) (by omega)]; omega
  have e1 : (nI n + (-1074) - (-1074)).toInt = n := by rw [fb_subI (by omega) (by omega)]; omega
  have e2 : (nI n + (-1074) + 1074).toInt = n := by rw [fb_addI (by omega) (by omega)]; omega
  have a1 := xm_near (w := 1) (by decide) (by decide) (a := nI n + (-1074) - (-1074)) (by omega)
  have a2 := xm_near (w := 1) (by decide) (by decide) (a := nI n + (-1074) + 1074) (by omega)
  rw [e1] at a1
  rw [e2] at a2
  exact ⟨a1.1, a2.2⟩
theorem v_unit {v : NV} (h : ok v) : f_X0_unitOf (cB v) = cB (unt v) ∧ f_X6_unitOf (cC v) = some (cC (unt v)) := by
  have h' : v.2 ≤ 9218868437227405312 := h
  have s0 := sh_le h'
  unfold f_X0_unitOf f_X6_unitOf unt
  rw [show f_X0_hasNoEnd (cB v) = decide (v.2 = 9218868437227405312) from x_noEnd v.1 h', show f_X6_isEnd (cC v) = decide (v.2 = 9218868437227405312) from m_isEnd v.1 h']
  by_cases c : v.2 = 9218868437227405312
  · rw [decide_eq_true c, if_neg (show ¬ true = false by decide), if_neg (show ¬ true = false by decide), if_pos c]
    exact ⟨rfl, rfl⟩
  · rw [decide_eq_false c, if_pos rfl, if_pos rfl]
    have p := p2_of (sh v.2) (by omega)
    have ce : ∀ x : Int32, (-1074) + x = x + (-1074) := fun x => Int32.add_comm _ _
    rw [show f_X0_shift (cB v) = nI (sh v.2) from x_shift v.1 h', ce, p.1]
    simp only [if_neg c]
    refine ⟨rfl, ?_⟩
    have t1 : (-1022 : Int32).toInt = -1022 := by decide
    have t2 : (1023 : Int32).toInt = 1023 := rfl
    have t3 : (1022 : Int32).toInt = 1022 := rfl
    have tn : (nI (v.2 / 4503599627370496)).toInt = (v.2 / 4503599627370496 : Nat) := nI_toInt (by omega)
    have te : (nI (v.2 / 4503599627370496) - 1023).toInt = (v.2 / 4503599627370496 : Nat) - 1023 := by rw [fb_subI (by omega) (by omega)]; omega
    rw [show f_X6_exponentOf (cC v) = nI (v.2 / 4503599627370496) - 1023 from m_expOf v.1 h']
    by_cases c2 : v.2 < 4503599627370496
    · rw [if_pos (show nI (v.2 / 4503599627370496) - 1023 < -1022 by rw [fa_lt, te, t1]; omega)]
      have a2 := xm_near (w := 1) (by decide) (by decide) (a := (-1022 : Int32) + 1022) (by decide)
      have e0 : sh v.2 = 0 := by unfold sh; rw [if_pos c2]
      rw [e0]
      exact congrArg (fun o => Option.bind o (fun r => some r)) a2.2
    · rw [if_neg (show ¬ nI (v.2 / 4503599627370496) - 1023 < -1022 by rw [fa_lt, te, t1]; omega)]
      have e0 : sh v.2 = v.2 / 4503599627370496 - 1 := by unfold sh; rw [if_neg c2]
      have e2 : (nI (v.2 / 4503599627370496) - 1023 + 1022).toInt = (sh v.2 : Int) := by rw [fb_addI (by omega) (by omega), te, t3]; omega
      have a2 := xm_near (w := 1) (by decide) (by decide) (a := nI (v.2 / 4503599627370496) - 1023 + 1022) (by omega)
      rw [e2] at a2
      exact congrArg (fun o => Option.bind o (fun r => some r)) a2.2
theorem v_lead {v : NV} (h : ok v) (h0 : 0 < v.2) : f_X6_leadOf (lN v.2) = some (f_X0_leadOf (cB v)) ∧ f_X0_leadOf (cB v) = nI ((wh v.2).log2 + sh v.2) + (-1074) := xm_lead v.1 h0 h
theorem v_pow2 {v : NV} (h : ok v) (h0 : 0 < v.2) : f_X0_powerOfTwo (f_X0_leadOf (cB v)) = cB (pow2 v) ∧ f_X6_made 1 (f_X0_leadOf (cB v) + 1074) = some (cC (pow2 v)) := by
  have h' : v.2 ≤ 9218868437227405312 := h
  have s0 := sh_le h'
  have l := lg_52 (wh_pos h0) (wh_lt v.2)
  rw [(v_lead h h0).2]
  exact p2_of _ (by omega)
/-! order, distance, what lies between -/
theorem v_order {v w : NV} (h : ok v) (k : ok w) : f_X0_order (cB v) (cB w) = if pl v < pl w then -1 else if pl v = pl w then 0 else 1 := by
  unfold f_X0_order f_J13_compare_74951
  by_cases c1 : pl v < pl w
  · rw [if_pos c1, if_pos (by rw [fa_lt64, (v_place h).1, (v_place k).1]; exact c1)]
  · rw [if_neg c1, if_neg (by rw [fa_lt64, (v_place h).1, (v_place k).1]; exact c1)]
    by_cases c2 : pl v = pl w
    · rw [if_pos c2, if_pos (by rw [fa_eq64, (v_place h).1, (v_place k).1]; exact c2)]
    · rw [if_neg c2, if_neg (by rw [fa_eq64, (v_place h).1, (v_place k).1]; exact c2)]
theorem v_ord0 {v w : NV} (h : ok v) (k : ok w) : f_X0_order (cB v) (cB w) = 0 ↔ pl v = pl w := by
  rw [v_order h k]
  by_cases c1 : pl v < pl w
  · rw [if_pos c1]; constructor
    · intro x; exact absurd x (by decide)
    · intro x; omega
  · rw [if_neg c1]
    by_cases c2 : pl v = pl w
    · rw [if_pos c2]; simp [c2]
    · rw [if_neg c2]; constructor
      · intro x; exact absurd x (by decide)
      · intro x; exact absurd x c2
theorem v_ordL {v w : NV} (h : ok v) (k : ok w) : f_X0_order (cB v) (cB w) < 0 ↔ pl v < pl w := by
  rw [v_order h k]
  by_cases c1 : pl v < pl w
  · rw [if_pos c1]; constructor
    · intro _; exact c1
    · intro _; decide
  · rw [if_neg c1]
    by_cases c2 : pl v = pl w
    · rw [if_pos c2]; constructor
      · intro x; exact absurd x (by decide)
      · intro x; omega
    · rw [if_neg c2]; constructor
      · intro x; exact absurd x (by decide)
      · intro x; omega
def nrr (v w : NV) : NV := if pl v = pl w then w else if pl v < pl w then up1 v else dn1 v
theorem ok_nrr {v w : NV} (h : ok v) (k : ok w) : ok (nrr v w) := by
  unfold nrr
  split
  · exact k
  · split
    · exact ok_up1 h
    · exact ok_dn1 h
theorem v_nearer {v w : NV} (h : ok v) (k : ok w) : f_X0_nearer (cB v) (cB w) = cB (nrr v w) ∧ f_X6_nearer (cC v) (cC w) = cC (nrr v w) := by
  unfold f_X0_nearer f_X6_nearer nrr
  have r1 : f_X0_raised (cB v) 1 = cB (up1 v) := by rw [up1_eq h]; exact v_raised h (n := 1) (by decide)
  have r2 : f_X0_lowered (cB v) 1 = cB (dn1 v) := by unfold dn1; rw [up1_eq (ok_opp h)]; exact v_lowered h (n := 1) (by decide)
  rw [r1, r2, v_above h, v_below h, (v_place h).2, (v_place k).2]
  by_cases c1 : pl v = pl w
  · rw [if_pos c1, if_pos ((v_ord0 h k).mpr c1), if_pos (by rw [fa_eq64, (v_place h).1, (v_place k).1]; exact c1)]
    exact ⟨rfl, rfl⟩
  · rw [if_neg c1, if_neg (fun x => c1 ((v_ord0 h k).mp x)), if_neg (show ¬ f_X0_placeOf (cB v) = f_X0_placeOf (cB w) by rw [fa_eq64, (v_place h).1, (v_place k).1]; exact c1)]
    by_cases c2 : pl v < pl w
    · rw [if_pos c2, if_pos ((v_ordL h k).mpr c2), if_pos (by rw [fa_lt64, (v_place h).1, (v_place k).1]; exact c2)]
      exact ⟨rfl, rfl⟩
    · rw [if_neg c2, if_neg (fun x => c2 ((v_ordL h k).mp x)), if_neg (show ¬ f_X0_placeOf (cB v) < f_X0_placeOf (cB w) by rw [fa_lt64, (v_place h).1, (v_place k).1]; exact c2)]
      exact ⟨rfl, rfl⟩
theorem pO {v : NV} (h : ok v) : f_X0_placeOf (cB v) = Int64.ofInt (pl v) := by rw [← (v_place h).1, Int64.ofInt_toInt]
theorem lN_ofInt (n : Nat) : lN n = Int64.ofInt (n : Int) := rfl
theorem v_dist {v w : NV} (h : ok v) (k : ok w) : f_X0_distance (cB v) (cB w) = lN (pl v - pl w).natAbs := by
  unfold f_X0_distance
  rw [pO h, pO k, lN_ofInt]
  by_cases c : pl v < pl w
  · rw [if_pos ((v_ordL h k).mpr c), ← Int64.ofInt_sub, ← Int64.ofInt_neg]
    congr 1
    omega
  · rw [if_neg (fun x => c ((v_ordL h k).mp x)), ← Int64.ofInt_sub]
    congr 1
    omega
theorem lN_neg {d : Nat} (h : d < 18446744073709551616) : lN d < 0 ↔ 9223372036854775808 ≤ d := by
  rw [L_lt0]
  by_cases c : d < 9223372036854775808
  · rw [Lti c]; omega
  · have e : lN d = gB true (d - 9223372036854775808) := by rw [gB_t]; exact congrArg lN (by omega)
    rw [e, gB_tT (by omega)]
    omega
theorem v_more {d n : Nat} (h : d < 18446744073709551616) (hn : n < 2147483648) : f_X0_isMoreThan (lN d) (nI n) = decide (n < d) := by
  unfold f_X0_isMoreThan
  by_cases c : 9223372036854775808 ≤ d
  · rw [if_pos ((lN_neg h).mpr c), decide_eq_true (by omega)]
  · rw [if_neg (fun x => c ((lN_neg h).mp x)), nI_l hn]
    by_cases c2 : n < d
    · rw [if_pos ((pk_lLT (by omega) (by omega)).mpr c2), decide_eq_true c2]
    · rw [if_neg (fun x => c2 ((pk_lLT (by omega) (by omega)).mp x)), decide_eq_false c2]
theorem pl_d {v w : NV} (h : ok v) (k : ok w) : (pl v - pl w).natAbs < 18446744073709551616 := by
  have a := pl_b h
  have b := pl_b k
  omega
theorem and_xor (n : Nat) : ∀ m : Nat, n + m = 2 * (n &&& m) + (n ^^^ m) := by
  induction n using Nat.strongRecOn with
  | ind n ih =>
    intro m
    rcases Nat.eq_zero_or_pos n with h | h
    · subst h; rw [Nat.zero_and, Nat.zero_xor]
    · have i := ih (n / 2) (by omega) (m / 2)
      rw [← Nat.and_div_two, ← Nat.xor_div_two] at i
      have a : (n &&& m) % 2 = (n % 2) &&& (m % 2) := Nat.and_mod_two_pow (n := 1)
      have b : (n ^^^ m) % 2 = (n % 2) ^^^ (m % 2) := Nat.xor_mod_two_pow (n := 1)
      rcases Nat.mod_two_eq_zero_or_one n with e1 | e1 <;> rcases Nat.mod_two_eq_zero_or_one m with e2 | e2 <;> rw [e1, e2] at a b
      · have a' : (n &&& m) % 2 = 0 := a
        have b' : (n ^^^ m) % 2 = 0 := b
        omega
      · have a' : (n &&& m) % 2 = 0 := a
        have b' : (n ^^^ m) % 2 = 1 := b
        omega
      · have a' : (n &&& m) % 2 = 0 := a
        have b' : (n ^^^ m) % 2 = 1 := b
        omega
      · have a' : (n &&& m) % 2 = 1 := a
        have b' : (n ^^^ m) % 2 = 0 := b
        omega
theorem lN_T {d : Nat} (h : d < 18446744073709551616) : (lN d).toInt = if d < 9223372036854775808 then (d : Int) else d - 18446744073709551616 := by
  by_cases c : d < 9223372036854775808
  · rw [if_pos c, Lti c]
  · have e : lN d = gB true (d - 9223372036854775808) := by rw [gB_t]; exact congrArg lN (by omega)
    rw [if_neg c, e, gB_tT (by omega)]
    omega
theorem mid_T (x y : Int64) : (f_X6_middleOf x y).toInt = (x.toInt + y.toInt) / 2 := by
  obtain ⟨n, hn, rfl⟩ := wb_of x
  obtain ⟨m, hm, rfl⟩ := wb_of y
  unfold f_X6_middleOf
  rw [fb_andL, fb_xorL]
  have s := and_xor n m
  have a : (n &&& m) / 2 ^ 63 = (n / 2 ^ 63) &&& (m / 2 ^ 63) := Nat.and_div_two_pow
  have b : (n ^^^ m) / 2 ^ 63 = (n / 2 ^ 63) ^^^ (m / 2 ^ 63) := Nat.xor_div_two_pow
  have la : n &&& m < 2 ^ 64 := Nat.and_lt_two_pow _ hm
  have lb : n ^^^ m < 2 ^ 64 := Nat.xor_lt_two_pow hn hm
  have j : (jshr (lN (n ^^^ m)) 1).toInt = (lN (n ^^^ m)).toInt / 2 := jshr_T _ (k := 1) (by omega)
  have tn := lN_T hn
  have tm := lN_T hm
  have ta := lN_T la
  have tb := lN_T lb
  generalize n &&& m = A at *
  generalize n ^^^ m = B at *
  rcases (show n / 2 ^ 63 = 0 ∨ n / 2 ^ 63 = 1 by omega) with e1 | e1 <;> rcases (show m / 2 ^ 63 = 0 ∨ m / 2 ^ 63 = 1 by omega) with e2 | e2 <;> rw [e1, e2] at a b
  · have a' : A / 2 ^ 63 = 0 := a
    have b' : B / 2 ^ 63 = 0 := b
    rw [if_pos (by omega)] at tn tm ta tb
    rw [fb_addL (by omega) (by omega), j, tn, tm, ta, tb]; omega
  · have a' : A / 2 ^ 63 = 0 := a
    have b' : B / 2 ^ 63 = 1 := b
    rw [if_pos (by omega)] at tn ta
    rw [if_neg (by omega)] at tm tb
    rw [fb_addL (by omega) (by omega), j, tn, tm, ta, tb]; omega
  · have a' : A / 2 ^ 63 = 0 := a
    have b' : B / 2 ^ 63 = 1 := b
    rw [if_pos (by omega)] at tm ta
    rw [if_neg (by omega)] at tn tb
    rw [fb_addL (by omega) (by omega), j, tn, tm, ta, tb]; omega
  · have a' : A / 2 ^ 63 = 1 := a
    have b' : B / 2 ^ 63 = 0 := b
    rw [if_pos (by omega)] at tb
    rw [if_neg (by omega)] at tn tm ta
    rw [fb_addL (by omega) (by omega), j, tn, tm, ta, tb]; omega
def mid (v w : NV) : NV := gQ ((pl v + pl w) / 2)
theorem ok_mid {v w : NV} (h : ok v) (k : ok w) : ok (mid v w) := by
  have a := pl_b h
  have b := pl_b k
  exact ok_gQ (by omega) (by omega)
theorem v_mid {v w : NV} (h : ok v) (k : ok w) : f_X0_between (cB v) (cB w) = cB (mid v w) ∧ f_X6_codeOf (f_X6_middleOf (f_X0_placeOf (cB v)) (f_X0_placeOf (cB w))) = cC (mid v w) := by
  have a := pl_b h
  have b := pl_b k
  have e := mid_T (f_X0_placeOf (cB v)) (f_X0_placeOf (cB w))
  rw [(v_place h).1, (v_place k).1] at e
  constructor
  · show f_X0_atPlace (f_X6_middleOf (f_X0_placeOf (cB v)) (f_X0_placeOf (cB w))) = _
    rw [x_at (by omega) (by omega), e]; rfl
  · rw [m_code (by omega) (by omega), e]; rfl
