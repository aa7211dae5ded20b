/-! the reference's digits to the base 2^30 -/
def zq_dg (X j : Nat) : Nat := X / 2 ^ (30 * j) % 1073741824
theorem zq_dg_lt (X j : Nat) : zq_dg X j < 1073741824 := Nat.mod_lt _ (by omega)
theorem zq_dgs (X j : Nat) : zq_dg X j = X / 2 ^ (30 * j) - 1073741824 * (X / 2 ^ (30 * (j + 1))) := by
  unfold zq_dg
  rw [show 30 * (j + 1) = 30 * j + 30 by omega, Nat.pow_add, ← Nat.div_div_eq_div_mul, show (2 : Nat) ^ 30 = 1073741824 from rfl]
  generalize X / 2 ^ (30 * j) = y
  omega
theorem zq_dga {x k : Nat} (hx : x < 2 ^ k) (j : Nat) : zq_dg (x + 2 ^ k) j = if j = k / 30 then zq_dg x j + 2 ^ (k % 30) else zq_dg x j := by
  have p := Nat.two_pow_pos (30 * j)
  unfold zq_dg
  by_cases c : j = k / 30
  · rw [if_pos c]
    have e : 2 ^ k = 2 ^ (30 * j) * 2 ^ (k % 30) := by
      rw [← Nat.pow_add]; congr 1; omega
    rw [e] at hx ⊢
    have b := Nat.div_lt_of_lt_mul hx
    have b2 := Nat.pow_le_pow_right (n := 2) (by decide) (show k % 30 ≤ 29 by omega)
    rw [show (2 : Nat) ^ 29 = 536870912 from rfl] at b2
    rw [Nat.add_mul_div_left _ _ p]
    generalize x / 2 ^ (30 * j) = y at b ⊢
    generalize 2 ^ (k % 30) = z at b b2 ⊢
    rw [Nat.mod_eq_of_lt (show y < 1073741824 by omega), Nat.mod_eq_of_lt (show y + z < 1073741824 by omega)]
  · rw [if_neg c]
    rcases Nat.lt_or_ge j (k / 30) with d | d
    · have e : 2 ^ k = 2 ^ (30 * j) * (1073741824 * 2 ^ (k - 30 * j - 30)) := by
        rw [show (1073741824 : Nat) = 2 ^ 30 from rfl, ← Nat.pow_add, ← Nat.pow_add]; congr 1; omega
      rw [e, Nat.add_mul_div_left _ _ p, Nat.add_mul_mod_self_left]
    · have l := Nat.pow_le_pow_right (n := 2) (by decide) (show k + 1 ≤ 30 * j by omega)
      rw [Nat.pow_succ] at l
      rw [Nat.div_eq_of_lt (show x + 2 ^ k < 2 ^ (30 * j) by omega), Nat.div_eq_of_lt (show x < 2 ^ (30 * j) by omega)]
theorem zq_digL (a0 : Int64) : ∀ (f n m k x : Nat) (row : Nat → Int64), m < 2 ^ f → m < 9223372036854775808 → f < n → k + f ≤ 2160 → x < 2 ^ k → (∀ j, j < 72 → row j = lN (zq_dg x j)) → ∃ r, f_X6_digits_L16 a0 n (nI k) (lN m) row = some r ∧ ∀ j, j < 72 → r j = lN (zq_dg (x + m * 2 ^ k) j) := by
  intro f
  induction f with
  | zero =>
    intro n m k x row hm _ hn hk hx hr
    obtain ⟨n, rfl⟩ : ∃ q, n = q + 1 := ⟨n - 1, by omega⟩
    obtain rfl : m = 0 := by rw [Nat.pow_zero] at hm; omega
    rw [f_X6_digits_L16, if_neg (show ¬ 0 < lN 0 by decide +kernel), Nat.zero_mul, Nat.add_zero]
    exact ⟨row, rfl, hr⟩
  | succ f ih =>
    intro n m k x row hm h63 hn hk hx hr
    obtain ⟨n, rfl⟩ : ∃ q, n = q + 1 := ⟨n - 1, by omega⟩
    by_cases c : m = 0
    · subst c
      rw [f_X6_digits_L16, if_neg (show ¬ 0 < lN 0 by decide +kernel), Nat.zero_mul, Nat.add_zero]
      exact ⟨row, rfl, hr⟩
    · rw [Nat.pow_succ] at hm
      have e1 : lN m - lN m / 2 * 2 = lN (m % 2) := pk_lRem (b := 2) h63 (by omega) (by omega)
      have e2 : lN m / 2 = lN (m / 2) := pk_lDiv (b := 2) h63 (by omega) (by omega)
      have e3 : nI k / 30 = nI (k / 30) := pk_div (d := 30) (by omega) (by omega) (by omega)
      have e4 : nI k - nI (k / 30) * 30 = nI (k % 30) := by
        rw [← e3]; exact pk_rem (d := 30) (by omega) (by omega) (by omega)
      have inr := nI_in (c := k / 30) (N := 72) (by omega) (by omega)
      have pk1 : 2 ^ (k + 1) = 2 ^ k * 2 := by rw [Nat.pow_succ]
      have pz := Nat.two_pow_pos k
      have l0 : 0 < lN m := (pk_lLT (a := 0) (by omega) (by omega)).mpr (by omega)
      rw [f_X6_digits_L16, if_pos l0, e1, e2, e3, e4, nI_1]
      by_cases c2 : m % 2 = 1
      · have t := ih n (m / 2) (k + 1) (x + 2 ^ k) (vp_updL row (k / 30) (row (k / 30) + jshl 1 (nI (k % 30)))) (by omega) (by omega) (by omega) (by omega) (by omega) (by
          intro j hj
          rw [zq_dga hx]
          by_cases d : j = k / 30
          · rw [if_pos d, d, pk_uLs, hr (k / 30) (by omega), show jshl 1 (nI (k % 30)) = lN (1 * 2 ^ (k % 30)) from jshl_N 1 (by omega), Nat.one_mul, lN_add]
          · rw [if_neg d, pk_uLn d, hr j hj])
        rw [show x + 2 ^ k + m / 2 * 2 ^ (k + 1) = x + m * 2 ^ k by
          rw [pk1, Nat.mul_comm (2 ^ k) 2, ← Nat.mul_assoc, Nat.add_assoc]
          congr 1
          obtain ⟨q, hq⟩ : ∃ q, m = 2 * q + 1 := ⟨m / 2, by omega⟩
          rw [hq, show (2 * q + 1) / 2 * 2 = 2 * q by omega, Nat.add_mul, Nat.one_mul, Nat.add_comm]] at t
        rw [c2, if_pos (show lN 1 = 1 from rfl), if_neg inr, if_neg inr, nI_clamp (by omega)]
        exact t
      · have t := ih n (m / 2) (k + 1) x row (by omega) (by omega) (by omega) (by omega) (by omega) hr
        rw [show x + m / 2 * 2 ^ (k + 1) = x + m * 2 ^ k by
          rw [pk1, Nat.mul_comm (2 ^ k) 2, ← Nat.mul_assoc, show m / 2 * 2 = m by omega]] at t
        rw [show m % 2 = 0 by omega, if_neg (show ¬ lN 0 = 1 by decide +kernel)]
        exact t
theorem zq_dig {S : Nat} (h : S ≤ 9218868437227405312) : ∃ r, f_X6_digits (lN S) = some r ∧ ∀ j, j < 72 → r j = lN (zq_dg (zq_vl S) j) := by
  have w1 := wh_lt S
  have s1 := sh_le h
  have t := zq_digL (lN S) 53 100 (wh S) (sh S) 0 (fun _ => 0) (by omega) (by omega) (by omega) (by omega) (Nat.two_pow_pos _) (by
    intro j _
    have e : zq_dg 0 j = 0 := by unfold zq_dg; simp
    exact (congrArg lN e).symm)
  rw [Nat.zero_add] at t
  unfold f_X6_digits
  rw [m_shift h, m_whole h]
  exact t
theorem zq_shl (x : Int64) : jshl x 30 = x * 1073741824 := by
  obtain ⟨n, _, rfl⟩ := wb_of x
  exact (jshl_N n (k := 30) (by omega)).trans (lN_mul n 1073741824).symm
theorem zq_bd {x : Int} (h1 : -4 ≤ x) (h2 : x ≤ 4) : -9223372036854775808 ≤ x * 1073741824 ∧ x * 1073741824 < 9223372036854775808 := by omega
theorem zq_be (y : Nat) (h : y < 1073741824) : -9223372036854775808 ≤ (y : Int) ∧ (y : Int) < 9223372036854775808 := by omega
theorem zq_ar0 {a1 a0 b1 b0 c1 c0 S : Int} (ha : 0 ≤ c0) (hb : c0 < 1073741824) (hS : S = a0 + b0 + (1073741824 * c1 + c0 - (1073741824 * a1 + a0) - (1073741824 * b1 + b0))) : S / 1073741824 = c1 - a1 - b1 ∧ S - S / 1073741824 * 1073741824 = c0 := by omega
theorem zq_ar {yA yB yC : Nat} {X M c S g : Int} (g1 : g = 1 ∨ g = -1) (ta : X = ((yA % 1073741824 : Nat) : Int)) (tm : M = g * ((yB % 1073741824 : Nat) : Int)) (hc : c = (yC : Int) - (yA : Int) - g * (yB : Int)) (hS : S = X + M + c) (h1 : -4 ≤ c) (h2 : c ≤ 4) : S / 1073741824 = ((yC / 1073741824 : Nat) : Int) - ((yA / 1073741824 : Nat) : Int) - g * ((yB / 1073741824 : Nat) : Int) ∧ S - S / 1073741824 * 1073741824 = ((yC % 1073741824 : Nat) : Int) ∧ -4 ≤ S / 1073741824 ∧ S / 1073741824 ≤ 4 := by
  have hA := Nat.div_add_mod yA 1073741824
  have hB := Nat.div_add_mod yB 1073741824
  have hC := Nat.div_add_mod yC 1073741824
  have lA := Nat.mod_lt yA (show 0 < 1073741824 by omega)
  have lB := Nat.mod_lt yB (show 0 < 1073741824 by omega)
  have lC := Nat.mod_lt yC (show 0 < 1073741824 by omega)
  generalize yA / 1073741824 = a1 at *
  generalize yA % 1073741824 = a0 at *
  generalize yB / 1073741824 = b1 at *
  generalize yB % 1073741824 = b0 at *
  generalize yC / 1073741824 = c1 at *
  generalize yC % 1073741824 = c0 at *
  subst hA hB hC
  rcases g1 with rfl | rfl
  · have r := zq_ar0 (a1 := a1) (a0 := a0) (b1 := b1) (b0 := b0) (c1 := c1) (c0 := c0) (S := S) (by omega) (by omega) (by omega)
    refine ⟨by omega, r.2, ?_, ?_⟩
    · rw [r.1]; omega
    · rw [r.1]; omega
  · have r := zq_ar0 (a1 := a1) (a0 := a0) (b1 := -(b1 : Int)) (b0 := -(b0 : Int)) (c1 := c1) (c0 := c0) (S := S) (by omega) (by omega) (by omega)
    refine ⟨by omega, r.2, ?_, ?_⟩
    · rw [r.1]; omega
    · rw [r.1]; omega
theorem zq_sumL {ra rb : Nat → Int64} {A B C : Nat} {sg : Int32} {g : Int} (hg : sg.toInt64.toInt = g) (g1 : g = 1 ∨ g = -1) (ha : ∀ j, j < 72 → ra j = lN (zq_dg A j)) (hb : ∀ j, j < 72 → rb j = lN (zq_dg B j)) :
    ∀ (d n i : Nat) (c : Int64) (row : Nat → Int64), i + d = 72 → d < n → c.toInt = ((C / 2 ^ (30 * i) : Nat) : Int) - ((A / 2 ^ (30 * i) : Nat) : Int) - g * ((B / 2 ^ (30 * i) : Nat) : Int) → -4 ≤ c.toInt ∧ c.toInt ≤ 4 → (∀ j, j < i → row j = lN (zq_dg C j)) → ∃ r, f_X6_sum_L11 ra rb sg n (nI i) c row = some r ∧ ∀ j, j < 72 → r j = lN (zq_dg C j) := by
  intro d
  induction d with
  | zero =>
    intro n i c row hi hn hc hb2 hr
    obtain ⟨n, rfl⟩ : ∃ q, n = q + 1 := ⟨n - 1, by omega⟩
    obtain rfl : i = 72 := by omega
    rw [f_X6_sum_L11, if_neg (show ¬ nI 72 < 72 by decide)]
    exact ⟨row, rfl, hr⟩
  | succ d ih =>
    intro n i c row hi hn hc hb2 hr
    obtain ⟨n, rfl⟩ : ∃ q, n = q + 1 := ⟨n - 1, by omega⟩
    have inr := nI_in (c := i) (N := 72) (by omega) (by omega)
    have nx : ∀ X : Nat, X / 2 ^ (30 * (i + 1)) = X / 2 ^ (30 * i) / 1073741824 := by
      intro X
      rw [show 30 * (i + 1) = 30 * i + 30 by omega, Nat.pow_add, ← Nat.div_div_eq_div_mul]
    have da : zq_dg A i = A / 2 ^ (30 * i) % 1073741824 := rfl
    have db : zq_dg B i = B / 2 ^ (30 * i) % 1073741824 := rfl
    have dc : zq_dg C i = C / 2 ^ (30 * i) % 1073741824 := rfl
    have ta : (lN (zq_dg A i)).toInt = zq_dg A i := Lti (by have := zq_dg_lt A i; omega)
    have tb : (lN (zq_dg B i)).toInt = zq_dg B i := Lti (by have := zq_dg_lt B i; omega)
    have tc : (lN (zq_dg C i)).toInt = zq_dg C i := Lti (by have := zq_dg_lt C i; omega)
    have la := zq_dg_lt A i
    have lb := zq_dg_lt B i
    have lc := zq_dg_lt C i
    have tm : (sg.toInt64 * lN (zq_dg B i)).toInt = g * (zq_dg B i : Int) := by
      rcases g1 with rfl | rfl
      · rw [fb_mulL (by rw [hg, tb]; omega) (by rw [hg, tb]; omega), hg, tb]
      · rw [fb_mulL (by rw [hg, tb]; omega) (by rw [hg, tb]; omega), hg, tb]
    have im := ih n (i + 1)
    rw [nx A, nx B, nx C] at im
    have l72 : nI i < 72 := (nI_ltI (b := 72) (by omega) (by omega)).mpr (by omega)
    rw [f_X6_sum_L11, if_pos l72, if_neg inr, if_neg inr, if_neg inr, nI_clamp (by omega), ha i (by omega), hb i (by omega), nI_1, zq_shl]
    generalize sg.toInt64 * lN (zq_dg B i) = M at tm ⊢
    generalize lN (zq_dg A i) = X at ta ⊢
    rw [da] at ta
    rw [db] at tm
    rw [da] at la
    rw [db] at lb
    rw [dc] at lc
    generalize A / 2 ^ (30 * i) = yA at hc im ta la
    generalize B / 2 ^ (30 * i) = yB at hc im tm lb
    generalize hyC : C / 2 ^ (30 * i) = yC at hc im dc lc
    have gb : -1073741824 < M.toInt ∧ M.toInt < 1073741824 := by rcases g1 with rfl | rfl <;> omega
    have t1 : (X + M).toInt = X.toInt + M.toInt := fb_addL (by omega) (by omega)
    have t2 : (X + M + c).toInt = X.toInt + M.toInt + c.toInt := by rw [fb_addL (by omega) (by omega), t1]
    generalize X + M + c = S at t2 ⊢
    have jS : (jshr S 30).toInt = S.toInt / 1073741824 := jshr_T S (k := 30) (by omega)
    have L30 : (1073741824 : Int64).toInt = 1073741824 := by decide +kernel
    have sb := fb_rngL S
    obtain ⟨q1, q2, q3, q4⟩ := zq_ar g1 ta tm hc t2 hb2.1 hb2.2
    have t3 : (jshr S 30 * 1073741824).toInt = S.toInt / 1073741824 * 1073741824 := by
      rw [fb_mulL (by rw [jS, L30]; exact (zq_bd q3 q4).1) (by rw [jS, L30]; exact (zq_bd q3 q4).2), jS, L30]
    have t4 : (S - jshr S 30 * 1073741824).toInt = S.toInt - S.toInt / 1073741824 * 1073741824 := by
      rw [fb_subL (by rw [t3, q2]; exact (zq_be _ lc).1) (by rw [t3, q2]; exact (zq_be _ lc).2), t3]
    have eR : S - jshr S 30 * 1073741824 = lN (zq_dg C i) := by
      rw [fa_eq64, t4, tc, dc]
      exact q2
    refine im _ _ (by omega) (by omega) ?_ ?_ ?_
    · rw [jS]
      exact q1
    · rw [jS]
      exact ⟨q3, q4⟩
    · intro j hj
      by_cases e : j = i
      · rw [e, pk_uLs, eR]
      · rw [pk_uLn e]
        exact hr j (by omega)
theorem zq_sumA {ra rb : Nat → Int64} {A B : Nat} (ha : ∀ j, j < 72 → ra j = lN (zq_dg A j)) (hb : ∀ j, j < 72 → rb j = lN (zq_dg B j)) : ∃ r, f_X6_sum ra rb 1 = some r ∧ ∀ j, j < 72 → r j = lN (zq_dg (A + B) j) := by
  have z0 : (0 : Int64).toInt = 0 := rfl
  refine zq_sumL (C := A + B) (sg := 1) (g := 1) (by decide +kernel) (Or.inl rfl) ha hb 72 100 0 0 (fun _ => 0) (by omega) (by omega) ?_ (by rw [z0]; omega) (fun j hj => absurd hj (Nat.not_lt_zero j))
  rw [z0, Nat.mul_zero, Nat.pow_zero, Nat.div_one, Nat.div_one, Nat.div_one]
  omega
theorem zq_sumB {ra rb : Nat → Int64} {A B : Nat} (h : B ≤ A) (ha : ∀ j, j < 72 → ra j = lN (zq_dg A j)) (hb : ∀ j, j < 72 → rb j = lN (zq_dg B j)) : ∃ r, f_X6_sum ra rb (-1) = some r ∧ ∀ j, j < 72 → r j = lN (zq_dg (A - B) j) := by
  have z0 : (0 : Int64).toInt = 0 := rfl
  refine zq_sumL (C := A - B) (sg := -1) (g := -1) (by decide +kernel) (Or.inr rfl) ha hb 72 100 0 0 (fun _ => 0) (by omega) (by omega) ?_ (by rw [z0]; omega) (fun j hj => absurd hj (Nat.not_lt_zero j))
  rw [z0, Nat.mul_zero, Nat.pow_zero, Nat.div_one, Nat.div_one, Nat.div_one]
  omega
theorem zq_far {v w : NV} (ov : ok v) (ow : ok w) : ∃ r, f_X6_far (cC v) (cC w) = some r ∧ ∀ j, j < 72 → r j = lN (zq_dg (zq_sv v - zq_sv w).natAbs j) := by
  have hv : v.2 ≤ 9218868437227405312 := ov
  have hw : w.2 ≤ 9218868437227405312 := ow
  have gv := gC_neg (s := v.1) (S := v.2) (by omega)
  have gw := gC_neg (s := w.1) (S := w.2) (by omega)
  obtain ⟨r1, d1, f1⟩ := zq_dig hv
  obtain ⟨r2, d2, f2⟩ := zq_dig hw
  have lt := pk_lLT (a := v.2) (b := w.2) (by omega) (by omega)
  unfold f_X6_far
  rw [show f_X6_size (cC v) = lN v.2 from m_size v.1 hv, show f_X6_size (cC w) = lN w.2 from m_size w.1 hw, d1, obs, d2, obs]
  by_cases c : v.1 = true
  · rw [if_pos (show cC v < 0 from gv.mpr c), zq_sv_t c]
    by_cases d : w.1 = true
    · rw [if_pos (show cC w < 0 from gw.mpr d), zq_sv_t d]
      by_cases e : v.2 < w.2
      · have le := zq_le (Nat.le_of_lt e)
        obtain ⟨r, h1, h2⟩ := zq_sumB le f2 f1
        rw [if_pos (lt.mpr e), h1, obs, show (-(zq_vl v.2 : Int) - -(zq_vl w.2 : Int)).natAbs = zq_vl w.2 - zq_vl v.2 by omega]
        exact ⟨r, rfl, h2⟩
      · have le := zq_le (show w.2 ≤ v.2 by omega)
        obtain ⟨r, h1, h2⟩ := zq_sumB le f1 f2
        rw [if_neg (fun k => e (lt.mp k)), h1, obs, show (-(zq_vl v.2 : Int) - -(zq_vl w.2 : Int)).natAbs = zq_vl v.2 - zq_vl w.2 by omega]
        exact ⟨r, rfl, h2⟩
    · obtain ⟨r, h1, h2⟩ := zq_sumA f1 f2
      rw [if_neg (show ¬ cC w < 0 from fun k => d (gw.mp k)), zq_sv_f d, h1, obs, show (-(zq_vl v.2 : Int) - (zq_vl w.2 : Int)).natAbs = zq_vl v.2 + zq_vl w.2 by omega]
      exact ⟨r, rfl, h2⟩
  · rw [if_neg (show ¬ cC v < 0 from fun k => c (gv.mp k)), zq_sv_f c]
    by_cases d : w.1 = true
    · obtain ⟨r, h1, h2⟩ := zq_sumA f1 f2
      rw [if_pos (show cC w < 0 from gw.mpr d), zq_sv_t d, h1, obs, show ((zq_vl v.2 : Int) - -(zq_vl w.2 : Int)).natAbs = zq_vl v.2 + zq_vl w.2 by omega]
      exact ⟨r, rfl, h2⟩
    · rw [if_neg (show ¬ cC w < 0 from fun k => d (gw.mp k)), zq_sv_f d]
      by_cases e : v.2 < w.2
      · have le := zq_le (Nat.le_of_lt e)
        obtain ⟨r, h1, h2⟩ := zq_sumB le f2 f1
        rw [if_pos (lt.mpr e), h1, obs, show ((zq_vl v.2 : Int) - (zq_vl w.2 : Int)).natAbs = zq_vl w.2 - zq_vl v.2 by omega]
        exact ⟨r, rfl, h2⟩
      · have le := zq_le (show w.2 ≤ v.2 by omega)
        obtain ⟨r, h1, h2⟩ := zq_sumB le f1 f2
        rw [if_neg (fun k => e (lt.mp k)), h1, obs, show ((zq_vl v.2 : Int) - (zq_vl w.2 : Int)).natAbs = zq_vl v.2 - zq_vl w.2 by omega]
        exact ⟨r, rfl, h2⟩
def zq_cm (A B : Nat) : Int32 := if A < B then -1 else if A = B then 0 else 1
theorem zq_cmpL (u : StM) (a0 a1 a2 a3 : Int32) (s : StM) {ra rb : Nat → Int64} {A B : Nat} (ha : ∀ j, j < 72 → ra j = lN (zq_dg A j)) (hb : ∀ j, j < 72 → rb j = lN (zq_dg B j)) :
    ∀ (d n : Nat), d ≤ 72 → d < n → A / 2 ^ (30 * d) = B / 2 ^ (30 * d) → f_X6_compareGaps_L147 u a0 a1 a2 a3 n (nI d - 1) s ra rb = some (zq_cm A B, s) := by
  intro d
  induction d with
  | zero =>
    intro n _ hn he
    obtain ⟨n, rfl⟩ : ∃ q, n = q + 1 := ⟨n - 1, by omega⟩
    rw [Nat.mul_zero, Nat.pow_zero, Nat.div_one, Nat.div_one] at he
    rw [f_X6_compareGaps_L147, if_pos (by decide), zq_cm, if_neg (by omega), if_pos he]
  | succ d ih =>
    intro n hd hn he
    obtain ⟨n, rfl⟩ : ∃ q, n = q + 1 := ⟨n - 1, by omega⟩
    have p : nI (d + 1) - 1 = nI d := pk_sub (b := 1) (by omega)
    have p2 : nI d + -1 = nI d - 1 := (Int32.sub_eq_add_neg _ _).symm
    have inr := nI_in (c := d) (N := 72) (by omega) (by omega)
    have la := zq_dg_lt A d
    have lb := zq_dg_lt B d
    have ea := zq_dgs A d
    have eb := zq_dgs B d
    have nx : ∀ X : Nat, X / 2 ^ (30 * (d + 1)) = X / 2 ^ (30 * d) / 1073741824 := by
      intro X
      rw [show 30 * (d + 1) = 30 * d + 30 by omega, Nat.pow_add, ← Nat.div_div_eq_div_mul]
    rw [nx A] at ea he
    rw [nx B] at eb he
    rw [p, f_X6_compareGaps_L147, if_neg (nI_pos (by omega)), if_neg inr, if_neg inr, nI_clamp (by omega), ha d (by omega), hb d (by omega), p2]
    have eq := L_eq (a := zq_dg A d) (b := zq_dg B d) (by omega) (by omega)
    have lt := pk_lLT (a := zq_dg A d) (b := zq_dg B d) (by omega) (by omega)
    have m1 : A ≤ B → A / 2 ^ (30 * d) ≤ B / 2 ^ (30 * d) := Nat.div_le_div_right
    have m2 : B ≤ A → B / 2 ^ (30 * d) ≤ A / 2 ^ (30 * d) := Nat.div_le_div_right
    by_cases c : zq_dg A d = zq_dg B d
    · rw [if_pos (eq.mpr c)]
      refine ih n (by omega) (by omega) ?_
      omega
    · have inr2 : ¬ (nI d < 0 ∨ 72 ≤ d) := fun k => by
        rcases k with k | k
        · exact nI_pos (by omega) k
        · omega
      rw [if_neg (fun k => c (eq.mp k)), if_neg inr2, if_neg inr2]
      unfold zq_cm
      by_cases e : zq_dg A d < zq_dg B d
      · rw [if_pos (lt.mpr e), if_pos (show A < B by
          rcases Nat.lt_or_ge A B with x | x
          · exact x
          · have := m2 x
            omega)]
      · have gt : B < A := by
          rcases Nat.lt_or_ge B A with x | x
          · exact x
          · have := m1 x
            omega
        rw [if_neg (fun k => e (lt.mp k)), if_neg (show ¬ A < B by omega), if_neg (show ¬ A = B by omega)]
/-! comparing two gaps -/
theorem zq_cmG {T : Int} {A B : Nat} (h : T = (A : Int) - B) : zq_sg T = zq_cm A B := by
  subst h
  unfold zq_sg zq_cm
  by_cases c : A < B
  · rw [if_pos c, if_pos (by omega)]
  · rw [if_neg c, if_neg (by omega)]
    by_cases d : A = B
    · rw [if_pos d, if_pos (by omega)]
    · rw [if_neg d, if_neg (by omega)]
theorem zq_ord {a b c d : NV} (oa : ok a) (ob : ok b) (oc : ok c) (od : ok d) (na : a.2 < 9218868437227405312) (nb : b.2 < 9218868437227405312) (nc : c.2 < 9218868437227405312) (nd : d.2 < 9218868437227405312) : f_X1_orderOfGaps (cB a) (cB b) (cB c) (cB d) = some (zq_cm (zq_sv a - zq_sv b).natAbs (zq_sv c - zq_sv d).natAbs) := by
  have l1 := v_ordL oa ob
  have l2 := v_ordL oc od
  have pa := zq_opp a
  have pb := zq_opp b
  have pc := zq_opp c
  have pd := zq_opp d
  unfold f_X1_orderOfGaps
  rw [(v_opp oa).1, (v_opp ob).1, (v_opp oc).1, (v_opp od).1]
  by_cases x : pl a < pl b
  · have m := zq_svm (v := a) (w := b) (by omega)
    rw [if_pos (l1.mpr x)]
    by_cases y : pl c < pl d
    · have k := zq_svm (v := c) (w := d) (by omega)
      rw [if_pos (l2.mpr y), zq_sgn ob (ok_opp oa) (ok_opp od) oc nb na nd nc, obs, pa, pd]
      exact congrArg some (zq_cmG (by omega))
    · have k := zq_svm (v := d) (w := c) (by omega)
      rw [if_neg (fun z => y (l2.mp z)), zq_sgn ob (ok_opp oa) (ok_opp oc) od nb na nc nd, obs, pa, pc]
      exact congrArg some (zq_cmG (by omega))
  · have m := zq_svm (v := b) (w := a) (by omega)
    rw [if_neg (fun z => x (l1.mp z))]
    by_cases y : pl c < pl d
    · have k := zq_svm (v := c) (w := d) (by omega)
      rw [if_pos (l2.mpr y), zq_sgn oa (ok_opp ob) (ok_opp od) oc na nb nd nc, obs, pb, pd]
      exact congrArg some (zq_cmG (by omega))
    · have k := zq_svm (v := d) (w := c) (by omega)
      rw [if_neg (fun z => y (l2.mp z)), zq_sgn oa (ok_opp ob) (ok_opp oc) od na nb nc nd, obs, pb, pc]
      exact congrArg some (zq_cmG (by omega))
theorem zq_8 {v : NV} {n : Nat} (hv : v.2 < 9218868437227405312) (hn : 2101 ≤ n) : 8 * (zq_sv v).natAbs < 2 ^ n := by
  have k1 := zq_lt (n := n - 3) hv (by omega)
  have e : 2 ^ n = 2 ^ (n - 3) * 8 := by
    rw [show (8 : Nat) = 2 ^ 3 from rfl, ← Nat.pow_add]
    congr 1; omega
  rw [e]
  generalize 2 ^ (n - 3) = Q at k1 ⊢
  by_cases c1 : v.1 = true
  · rw [zq_sv_t c1]; omega
  · rw [zq_sv_f c1]; omega
theorem zq_fin {w : StM} (a0 a1 a2 a3 : Int32) {a b c d : NV} (oa : ok a) (ob : ok b) (oc : ok c) (od : ok d) (na : a.2 < 9218868437227405312) (nb : b.2 < 9218868437227405312) (nc : c.2 < 9218868437227405312) (nd : d.2 < 9218868437227405312) (s : StM) :
    ((f_X6_far (cC a) (cC b)).bind fun z1 => ((f_X6_far (cC c) (cC d)).bind fun z2 => f_X6_compareGaps_L147 w a0 a1 a2 a3 100 71 s z1 z2)) = some (zq_cm (zq_sv a - zq_sv b).natAbs (zq_sv c - zq_sv d).natAbs, s) := by
  obtain ⟨r1, e1, f1⟩ := zq_far oa ob
  obtain ⟨r2, e2, f2⟩ := zq_far oc od
  rw [e1, obs, e2, obs]
  have ba := zq_8 (n := 30 * 72) na (by omega)
  have bb := zq_8 (n := 30 * 72) nb (by omega)
  have bc := zq_8 (n := 30 * 72) nc (by omega)
  have bd := zq_8 (n := 30 * 72) nd (by omega)
  have t := zq_cmpL w a0 a1 a2 a3 s f1 f2 72 100 (by omega) (by omega)
  have e71 : nI 72 - 1 = 71 := by decide +kernel
  rw [e71] at t
  generalize 2 ^ (30 * 72) = Q at ba bb bc bd t
  refine t ?_
  rw [Nat.div_eq_of_lt (by omega), Nat.div_eq_of_lt (by omega)]
set_option maxHeartbeats 4000000 in
theorem ok_compareGaps {v : SH} {w : StM} (h : Rel v.1 w) (a1 a2 a3 a4 : Int32) : Ok Int32.toInt64 (f_L_compareGaps v a1 a2 a3 a4) (f_X6_compareGaps w a1 a2 a3 a4) := by
  have h0 : Rel v.1 (wt w 0) := Rel_t h 0
  have si : ¬ "java/lang/IllegalStateException" = "java/lang/IndexOutOfBoundsException" := by decide +kernel
  rcases sl_c a1 with ⟨i1, hi1, rfl⟩ | ⟨e1, e2⟩
  rotate_left
  · exact Ok_e h 1 (by decide) 0 (by unfold f_L_compareGaps f_X5_compareGaps; rw [e1, xb_l, xh_l, if_pos rfl]) (by unfold f_X6_compareGaps; rw [e2, if_pos rfl]; rfl)
  rcases sl_c a2 with ⟨i2, hi2, rfl⟩ | ⟨e1, e2⟩
  rotate_left
  · exact Ok_e h 1 (by decide) 0 (by unfold f_L_compareGaps f_X5_compareGaps; rw [chk_ok hi1, xb_r, e1, xb_l, xh_l, if_pos rfl]) (by unfold f_X6_compareGaps; rw [is_ok hi1, if_neg (by decide), e2, if_pos rfl]; rfl)
  rcases sl_c a3 with ⟨i3, hi3, rfl⟩ | ⟨e1, e2⟩
  rotate_left
  · exact Ok_e h 1 (by decide) 0 (by unfold f_L_compareGaps f_X5_compareGaps; rw [chk_ok hi1, xb_r, chk_ok hi2, xb_r, e1, xb_l, xh_l, if_pos rfl]) (by unfold f_X6_compareGaps; rw [is_ok hi1, if_neg (by decide), is_ok hi2, if_neg (by decide), e2, if_pos rfl]; rfl)
  rcases sl_c a4 with ⟨i4, hi4, rfl⟩ | ⟨e1, e2⟩
  rotate_left
  · exact Ok_e h 1 (by decide) 0 (by unfold f_L_compareGaps f_X5_compareGaps; rw [chk_ok hi1, xb_r, chk_ok hi2, xb_r, chk_ok hi3, xb_r, e1, xb_l, xh_l, if_pos rfl]) (by unfold f_X6_compareGaps; rw [is_ok hi1, if_neg (by decide), is_ok hi2, if_neg (by decide), is_ok hi3, if_neg (by decide), e2, if_pos rfl]; rfl)
  obtain ⟨z1, o1, p1, q1⟩ := h.1 i1 hi1
  obtain ⟨z2, o2, p2, q2⟩ := h.1 i2 hi2
  obtain ⟨z3, o3, p3, q3⟩ := h.1 i3 hi3
  obtain ⟨z4, o4, p4, q4⟩ := h.1 i4 hi4
  have k1 := chE o1
  have k2 := chE o2
  have k3 := chE o3
  have k4 := chE o4
  have m1 : f_X6_isEnd (cC z1) = decide (z1.2 = 9218868437227405312) := m_isEnd z1.1 o1
  have m2 : f_X6_isEnd (cC z2) = decide (z2.2 = 9218868437227405312) := m_isEnd z2.1 o2
  have m3 : f_X6_isEnd (cC z3) = decide (z3.2 = 9218868437227405312) := m_isEnd z3.1 o3
  have m4 : f_X6_isEnd (cC z4) = decide (z4.2 = 9218868437227405312) := m_isEnd z4.1 o4
  have X0 : f_X5_compareGaps v.1 (nI i1) (nI i2) (nI i3) (nI i4) = xb (f_X5_checkHasEnd (cB z1)) fun _ => xb (f_X5_checkHasEnd (cB z2)) fun _ => xb (f_X5_checkHasEnd (cB z3)) fun _ => xb (f_X5_checkHasEnd (cB z4)) fun _ => ((f_X1_orderOfGaps (cB z1) (cB z2) (cB z3) (cB z4)).bind fun r17 => some (.inr r17)) := by
    unfold f_X5_compareGaps
    rw [chk_ok hi1, xb_r, chk_ok hi2, xb_r, chk_ok hi3, xb_r, chk_ok hi4, xb_r]
    simp only [reduceIte, sl_F hi1, sl_F hi2, sl_F hi3, sl_F hi4, sl_cl hi1, sl_cl hi2, sl_cl hi3, sl_cl hi4, p1, p2, p3, p4]
  have M0 : f_X6_compareGaps w (nI i1) (nI i2) (nI i3) (nI i4) = (if f_X6_isEnd (cC z1) = false then (if f_X6_isEnd (cC z2) = false then (if f_X6_isEnd (cC z3) = false then (if f_X6_isEnd (cC z4) = false then ((f_X6_far (cC z1) (cC z2)).bind fun y1 => ((f_X6_far (cC z3) (cC z4)).bind fun y2 => f_X6_compareGaps_L147 w (nI i1) (nI i2) (nI i3) (nI i4) 100 71 (wt w 0) y1 y2)) else some (0, wt w 2)) else some (0, wt w 2)) else some (0, wt w 2)) else some (0, wt w 2)) := by
    unfold f_X6_compareGaps
    rw [is_ok hi1, if_neg (by decide), is_ok hi2, if_neg (by decide), is_ok hi3, if_neg (by decide), is_ok hi4, if_neg (by decide)]
    simp only [reduceIte, sl_F hi1, sl_F hi2, sl_F hi3, sl_F hi4, sl_cl hi1, sl_cl hi2, sl_cl hi3, sl_cl hi4, q1, q2, q3, q4]
    rfl
  have bad : (z1.2 = 9218868437227405312 ∨ z2.2 = 9218868437227405312 ∨ z3.2 = 9218868437227405312 ∨ z4.2 = 9218868437227405312) → Ok Int32.toInt64 (f_L_compareGaps v (nI i1) (nI i2) (nI i3) (nI i4)) (f_X6_compareGaps w (nI i1) (nI i2) (nI i3) (nI i4)) := by
    intro hb
    refine Ok_e h 2 (by decide) 0 ?_ ?_
    · have key : f_X5_compareGaps v.1 (nI i1) (nI i2) (nI i3) (nI i4) = some (.inl "java/lang/IllegalStateException") := by
        rw [X0, k1, k2, k3, k4]
        by_cases c1 : z1.2 = 9218868437227405312
        · rw [if_pos c1, xb_l]
        · rw [if_neg c1, xb_r]
          by_cases c2 : z2.2 = 9218868437227405312
          · rw [if_pos c2, xb_l]
          · rw [if_neg c2, xb_r]
            by_cases c3 : z3.2 = 9218868437227405312
            · rw [if_pos c3, xb_l]
            · rw [if_neg c3, xb_r, if_pos (show z4.2 = 9218868437227405312 by rcases hb with k | k | k | k; exact absurd k c1; exact absurd k c2; exact absurd k c3; exact k), xb_l]
      unfold f_L_compareGaps
      rw [key, xh_l, if_neg si, if_pos rfl]
    · rw [M0, m1, m2, m3, m4]
      by_cases c1 : z1.2 = 9218868437227405312
      · rw [decide_eq_true c1, if_neg (show ¬ true = false by decide)]
      · rw [decide_eq_false c1, if_pos ff_P]
        by_cases c2 : z2.2 = 9218868437227405312
        · rw [decide_eq_true c2, if_neg (show ¬ true = false by decide)]
        · rw [decide_eq_false c2, if_pos ff_P]
          by_cases c3 : z3.2 = 9218868437227405312
          · rw [decide_eq_true c3, if_neg (show ¬ true = false by decide)]
          · rw [decide_eq_false c3, if_pos ff_P, decide_eq_true (show z4.2 = 9218868437227405312 by rcases hb with k | k | k | k; exact absurd k c1; exact absurd k c2; exact absurd k c3; exact k), if_neg (show ¬ true = false by decide)]
  by_cases c1 : z1.2 = 9218868437227405312
  · exact bad (Or.inl c1)
  by_cases c2 : z2.2 = 9218868437227405312
  · exact bad (Or.inr (Or.inl c2))
  by_cases c3 : z3.2 = 9218868437227405312
  · exact bad (Or.inr (Or.inr (Or.inl c3)))
  by_cases c4 : z4.2 = 9218868437227405312
  · exact bad (Or.inr (Or.inr (Or.inr c4)))
  have n1 : z1.2 < 9218868437227405312 := Nat.lt_of_le_of_ne o1 c1
  have n2 : z2.2 < 9218868437227405312 := Nat.lt_of_le_of_ne o2 c2
  have n3 : z3.2 < 9218868437227405312 := Nat.lt_of_le_of_ne o3 c3
  have n4 : z4.2 < 9218868437227405312 := Nat.lt_of_le_of_ne o4 c4
  have F := zq_fin (w := w) (nI i1) (nI i2) (nI i3) (nI i4) o1 o2 o3 o4 n1 n2 n3 n4 (wt w 0)
  have G := zq_ord o1 o2 o3 o4 n1 n2 n3 n4
  generalize zq_cm (zq_sv z1 - zq_sv z2).natAbs (zq_sv z3 - zq_sv z4).natAbs = r at F G
  refine Ok_r v.2 r.toInt64 r h0 rfl rfl ?_ ?_
  · have key : f_X5_compareGaps v.1 (nI i1) (nI i2) (nI i3) (nI i4) = some (.inr r) := by
      rw [X0, k1, k2, k3, k4, if_neg c1, if_neg c2, if_neg c3, if_neg c4, xb_r, xb_r, xb_r, xb_r, G, obs]
    unfold f_L_compareGaps
    rw [key, xh_r]
  · rw [M0, m1, m2, m3, m4, decide_eq_false c1, decide_eq_false c2, decide_eq_false c3, decide_eq_false c4, if_pos ff_P, if_pos ff_P, if_pos ff_P, if_pos ff_P]
    exact F
