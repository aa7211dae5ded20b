/-! rests (draft, not compiled yet) -/
theorem lrem {a M : Nat} (ha : a < 2 ^ 63) (h0 : 0 < M) (hM : M < 2 ^ 31) : lN a - lN a / (nI M).toInt64 * (nI M).toInt64 = lN (a % M) := by
  rw [nI_l hM]; exact pk_lRem ha h0 (by omega)
theorem lne {M : Nat} (h0 : 0 < M) (hM : M < 2 ^ 31) : ¬ (nI M).toInt64 = 0 := by
  rw [nI_l hM]
  intro k
  have := (L_eq (a := M) (b := 0) (by omega) (by omega)).mp k
  omega
theorem pow_odd (r b q M : Nat) : (r * b % M) * (b * b % M) ^ q % M = r * b ^ (2 * q + 1) % M := by
  rw [Nat.mul_mod, Nat.mod_mod, ← Nat.pow_mod, ← Nat.mul_mod, ← Nat.pow_two, ← Nat.pow_mul, Nat.mul_assoc, Nat.pow_succ, Nat.mul_comm b]
theorem pow_even (r b q M : Nat) : r * (b * b % M) ^ q % M = r * b ^ (2 * q) % M := by
  rw [Nat.mul_mod, ← Nat.pow_mod, ← Nat.mul_mod, ← Nat.pow_two, ← Nat.pow_mul]
theorem x_pow (a0 : Int32) {M : Nat} (h0 : 0 < M) (hM : M ≤ 1000000) : ∀ (n e b r : Nat), e < 2 ^ n → e < 4096 → b < 1000001 → r < M → f_X1_powerRest_L14 a0 (nI M) (n + 1) (nI e) (lN b) (lN r) = some (lN (r * b ^ e % M)) := by
  intro n
  induction n with
  | zero =>
    intro e b r he _ hb hr
    obtain rfl : e = 0 := by omega
    rw [f_X1_powerRest_L14, if_neg (by decide), Nat.pow_zero, Nat.mul_one, Nat.mod_eq_of_lt hr]
  | succ n ih =>
    intro e b r he h4 hb hr
    rw [f_X1_powerRest_L14]
    by_cases c : e = 0
    · subst c
      rw [if_neg (by decide), Nat.pow_zero, Nat.mul_one, Nat.mod_eq_of_lt hr]
    · rw [Nat.pow_succ] at he
      have bb : b * b < 2 ^ 63 := by
        have := Nat.mul_le_mul (show b ≤ 1000000 by omega) (show b ≤ 1000000 by omega)
        omega
      have rb : r * b < 2 ^ 63 := by
        have := Nat.mul_le_mul (show r ≤ 1000000 by omega) (show b ≤ 1000000 by omega)
        omega
      have ms := Nat.mod_lt (b * b) h0
      have ms2 := Nat.mod_lt (r * b) h0
      have e1 : nI e &&& 1 = nI (e % 2) := pk_andN (by omega) 1 (by decide +kernel)
      have e2 : nI e >>> ((1 : Int32) &&& 31) = nI (e / 2) := pk_shrN (by omega) _ 1 (by decide +kernel)
      have l0 : 0 < nI e := (nI_ltI (a := 0) (by omega) (by omega)).mpr (by omega)
      rw [if_pos l0, e1, e2, if_neg (lne h0 (by omega)), if_neg (lne h0 (by omega)), lN_mul, lN_mul, lrem bb h0 (by omega), lrem rb h0 (by omega)]
      by_cases c2 : e % 2 = 1
      · rw [c2, if_pos (show nI 1 = 1 from rfl), ih (e / 2) _ _ (by omega) (by omega) (by omega) ms2, pow_odd, show 2 * (e / 2) + 1 = e by omega]
      · rw [show e % 2 = 0 by omega, if_neg (by decide), if_neg (lne h0 (by omega)), ih (e / 2) _ _ (by omega) (by omega) (by omega) hr, pow_even, show 2 * (e / 2) = e by omega]
theorem x_powR {M s : Nat} (h0 : 0 < M) (hM : M ≤ 1000000) (hs : s < 4096) : f_X1_powerRest (nI s) (nI M) = some (lN (2 ^ s % M)) := by
  unfold f_X1_powerRest
  have z : ¬ nI M = 0 := nI_ne0 h0 (by omega)
  have e2 : (2 : Int32) - 2 / nI M * nI M = nI (2 % M) := pk_rem (a := 2) (by omega) h0 (by omega)
  have e1 : (1 : Int32) - 1 / nI M * nI M = nI (1 % M) := pk_rem (a := 1) (by omega) h0 (by omega)
  have m2 := Nat.mod_lt 2 h0
  have m1 := Nat.mod_lt 1 h0
  have p : (2 : Nat) ^ 12 ≤ 2 ^ 99 := Nat.pow_le_pow_right (by decide) (by omega)
  rw [if_neg z, if_neg z, e2, e1, nI_l (by omega), nI_l (by omega), x_pow (nI s) h0 hM 99 s (2 % M) (1 % M) (by omega) hs (by omega) m1]
  rw [Nat.mul_mod, Nat.mod_mod, ← Nat.pow_mod, ← Nat.mul_mod, Nat.one_mul]
theorem m_restL (a0 : Int64) {M : Nat} (h0 : 0 < M) (hM : M ≤ 1000000) : ∀ (s n x : Nat), s < n → s < 4096 → f_X6_rest_L20 a0 (nI M) n (nI s) (lN (x % M)) = some (lN (x * 2 ^ s % M)) := by
  intro s
  induction s with
  | zero =>
    intro n x hn _
    obtain ⟨n, rfl⟩ : ∃ m, n = m + 1 := ⟨n - 1, by omega⟩
    rw [f_X6_rest_L20, if_neg (by decide), Nat.pow_zero, Nat.mul_one]
  | succ s ih =>
    intro n x hn h4
    obtain ⟨n, rfl⟩ : ∃ m, n = m + 1 := ⟨n - 1, by omega⟩
    have m := Nat.mod_lt x h0
    have l0 : 0 < nI (s + 1) := (nI_ltI (a := 0) (by omega) (by omega)).mpr (by omega)
    rw [f_X6_rest_L20, if_pos l0, if_neg (lne h0 (by omega)), pk_m1, lN_add, lrem (by omega) h0 (by omega), ← Nat.add_mod, ih n (x + x) (by omega) (by omega), ← Nat.two_mul, Nat.mul_comm 2 x, Nat.mul_assoc, Nat.pow_succ, Nat.mul_comm 2]
def rst (v : NV) (M : Nat) : Nat := wh v.2 * 2 ^ sh v.2 % M
theorem v_rest {v : NV} (h : ok v) {M : Nat} (h0 : 0 < M) (hM : M ≤ 1000000) : f_X1_sizeRest (cB v) (nI M) = some (nI (rst v M)) ∧ f_X6_rest (cC v) (nI M) = some (lN (rst v M)) := by
  have h' : v.2 ≤ 9218868437227405312 := h
  have s0 := sh_le h'
  have w1 := wh_lt v.2
  have m1 := Nat.mod_lt (wh v.2) h0
  have m2 := Nat.mod_lt (2 ^ sh v.2) h0
  have pr : (wh v.2 % M) * (2 ^ sh v.2 % M) < 2 ^ 63 := by
    have := Nat.mul_le_mul (show wh v.2 % M ≤ 1000000 by omega) (show 2 ^ sh v.2 % M ≤ 1000000 by omega)
    omega
  constructor
  · unfold f_X1_sizeRest rst
    rw [show f_X0_shift (cB v) = nI (sh v.2) from x_shift v.1 h', show f_X0_whole (cB v) = lN (wh v.2) from x_whole v.1 h', if_neg (lne h0 (by omega)), x_powR h0 hM (by omega), obs, if_neg (lne h0 (by omega)), lrem (by omega) h0 (by omega), lN_mul, lrem pr h0 (by omega), lN_i, ← Nat.mul_mod]
  · unfold f_X6_rest rst
    rw [show f_X6_size (cC v) = lN v.2 from m_size v.1 h', m_whole h', m_shift h', if_neg (lne h0 (by omega)), lrem (by omega) h0 (by omega)]
    exact m_restL _ h0 hM (sh v.2) 3000 (wh v.2) (by omega) (by omega)
/-! grains, gap (draft, not compiled yet) -/
theorem chE {z : NV} (hz : ok z) : f_X5_checkHasEnd (cB z) = if z.2 = 9218868437227405312 then some (.inl "java/lang/IllegalStateException") else some (.inr ()) := by
  have e1 : f_X0_hasNoEnd (cB z) = decide (z.2 = 9218868437227405312) := x_noEnd z.1 hz
  unfold f_X5_checkHasEnd
  rw [e1]
  by_cases c1 : z.2 = 9218868437227405312
  · rw [decide_eq_true c1, if_neg (show ¬ true = false by decide), if_pos c1]
  · rw [decide_eq_false c1, if_pos ff_P, if_neg c1]
theorem rg_M {a : Int32} (h1 : ¬ a < 1) (h2 : ¬ 1000000 < a) : ∃ M : Nat, 0 < M ∧ M ≤ 1000000 ∧ a = nI M := by
  have l1 : (1 : Int32).toInt = 1 := rfl
  have l2 : (1000000 : Int32).toInt = 1000000 := rfl
  rw [fa_lt] at h1 h2
  obtain ⟨M, hM⟩ : ∃ M : Nat, a.toInt = M := ⟨a.toInt.toNat, by omega⟩
  exact ⟨M, by omega, by omega, lit_n a hM (by omega)⟩
theorem ok_grains {v : SH} {w : StM} (h : Rel v.1 w) (a1 a2 : Int32) : Ok Int32.toInt64 (f_L_grains v a1 a2) (f_X6_grains w a1 a2) := by
  have h0 : Rel v.1 (wt w 0) := Rel_t h 0
  have ai : ¬ "java/lang/IllegalArgumentException" = "java/lang/IndexOutOfBoundsException" := by decide +kernel
  have si : ¬ "java/lang/IllegalStateException" = "java/lang/IndexOutOfBoundsException" := by decide +kernel
  have sa : ¬ "java/lang/IllegalStateException" = "java/lang/IllegalArgumentException" := by decide +kernel
  rcases sl_c a1 with ⟨i1, hi1, rfl⟩ | ⟨e1, e2⟩
  rotate_left
  · exact Ok_e h 1 (by decide) 0 (by unfold f_L_grains f_X5_grains; rw [e1, xb_l, xh_l, if_pos rfl]) (by unfold f_X6_grains; rw [lk1_f e2]; rfl)
  rcases rg_c a2 1 1000000 with ⟨r1, r2, r3, r4⟩ | ⟨e1, e2⟩
  rotate_left
  · exact Ok_e h 2 (by decide) 0 (by unfold f_L_grains f_X5_grains; rw [chk_ok hi1, xb_r, e1, xb_l, xh_l, if_neg ai, if_pos rfl]) (by unfold f_X6_grains; rw [lk1_t hi1, obs, if_pos ff_P, e2]; rfl)
  obtain ⟨M, m0, m1, rfl⟩ := rg_M r3 r4
  obtain ⟨z1, o1, p1, q1⟩ := h.1 i1 hi1
  have kc := chE o1
  have me : f_X6_isEnd (cC z1) = decide (z1.2 = 9218868437227405312) := m_isEnd z1.1 o1
  have M0 : f_X6_grains w (nI i1) (nI M) = (if f_X6_isEnd (cC z1) = false then ((f_X6_rest (cC z1) (nI M)).bind fun r => some (r.toInt32, wt w 0)) else some (0, wt w 3)) := by
    unfold f_X6_grains
    rw [lk1_t hi1, obs, if_pos ff_P, r2, if_pos (show (!true) = false from rfl), if_neg (sl_in hi1), sl_cl hi1]
    show (if f_X6_isEnd (w.1 i1) = false then (if (nI i1 < 0 ∨ 8 ≤ i1) then none else ((f_X6_rest (w.1 i1) (nI M)).bind fun r => some (r.toInt32, wt w 0))) else some (0, wt w 3)) = _
    rw [if_neg (sl_in2 hi1), q1]
  by_cases c : z1.2 = 9218868437227405312
  · rw [if_pos c] at kc
    rw [decide_eq_true c] at me
    have key : f_X5_grains v.1 (nI i1) (nI M) = some (.inl "java/lang/IllegalStateException") := by
      unfold f_X5_grains
      rw [chk_ok hi1, xb_r, r1, xb_r, if_neg (sl_in hi1), sl_cl hi1, p1, kc, xb_l]
    exact Ok_e h 3 (by decide) 0 (by unfold f_L_grains; rw [key, xh_l, if_neg si, if_neg sa, if_pos rfl]) (by rw [M0, me, if_neg (show ¬ true = false by decide)])
  · rw [if_neg c] at kc
    rw [decide_eq_false c] at me
    have vr := v_rest o1 m0 m1
    have key : f_X5_grains v.1 (nI i1) (nI M) = some (.inr (nI (rst z1 M))) := by
      unfold f_X5_grains
      rw [chk_ok hi1, xb_r, r1, xb_r, if_neg (sl_in hi1), sl_cl hi1, p1, kc, xb_r, if_neg (sl_in2 hi1), vr.1, obs]
    refine Ok_r v.2 (nI (rst z1 M)).toInt64 (nI (rst z1 M)) h0 rfl rfl ?_ ?_
    · unfold f_L_grains
      rw [key, xh_r]
    · rw [M0, me, if_pos ff_P, vr.2, obs, lN_i]
/-- the rest of a number with its sign, as the class keeps it -/
def srt (v : NV) (M : Nat) : Int := if v.1 = true then -(rst v M : Int) else rst v M
theorem v_srt {v : NV} (h : ok v) {M : Nat} (h0 : 0 < M) (hM : M ≤ 1000000) : ∃ r : Int32, f_X1_signedRest (cB v) (nI M) = some r ∧ r.toInt = srt v M := by
  have m := Nat.mod_lt (wh v.2 * 2 ^ sh v.2) h0
  have m' : rst v M < M := m
  have t : (nI (rst v M)).toInt = rst v M := nI_toInt (by omega)
  have g := gB_neg (s := v.1) (S := v.2) (by have : v.2 ≤ 9218868437227405312 := h; omega)
  unfold f_X1_signedRest srt
  rw [(v_rest h h0 hM).1, obs]
  by_cases c : v.1 = true
  · rw [if_pos (show cB v < 0 from g.mpr c), if_pos c]
    exact ⟨_, rfl, by rw [fb_negI (by omega), t]⟩
  · rw [if_neg (show ¬ cB v < 0 from fun k => c (g.mp k)), if_neg c]
    exact ⟨_, rfl, t⟩
/-- the reference's rest: from 0 on -/
def prt (v : NV) (M : Nat) : Nat := if v.1 = true then (M - rst v M) % M else rst v M
theorem m_prt {v : NV} (h : ok v) {M : Nat} (h0 : 0 < M) (hM : M ≤ 1000000) : f_X6_restOf (cC v) (nI M) = some (lN (prt v M)) := by
  have m' : rst v M < M := Nat.mod_lt _ h0
  have g := gC_neg (s := v.1) (S := v.2) (by have : v.2 ≤ 9218868437227405312 := h; omega)
  unfold f_X6_restOf prt
  rw [(v_rest h h0 hM).2]
  by_cases c : v.1 = true
  · rw [if_pos (show cC v < 0 from g.mpr c), if_pos c, obs, if_neg (lne h0 (by omega))]
    have e : (nI M).toInt64 - lN (rst v M) = lN (M - rst v M) := by rw [nI_l (by omega)]; exact lN_sub (by omega)
    rw [e, lrem (by omega) h0 (by omega)]
  · rw [if_neg (show ¬ cC v < 0 from fun k => c (g.mp k)), if_neg c, obs]
theorem xor_s (x : Int32) {M : Nat} (hM : M < 2 ^ 31) : (x ^^^ nI M) < 0 ↔ x.toInt < 0 := by
  have z0 : (0 : Int32).toInt = 0 := rfl
  have m1 : (x ^^^ nI M).toBitVec.msb = decide ((x ^^^ nI M).toInt < 0) := BitVec.msb_eq_toInt
  have m2 : x.toBitVec.msb = decide (x.toInt < 0) := BitVec.msb_eq_toInt
  have m3 : (nI M).toBitVec.msb = decide ((nI M).toInt < 0) := BitVec.msb_eq_toInt
  have t : (nI M).toInt = M := nI_toInt hM
  rw [t, decide_eq_false (by omega)] at m3
  rw [Int32.toBitVec_xor, BitVec.msb_xor, m2, m3, Bool.xor_false] at m1
  rw [fa_lt, z0]
  exact (decide_eq_decide.mp m1).symm
theorem fmod_T {x : Int32} {M : Nat} (h0 : 0 < M) (hM : M ≤ 1000000) (hx : -(2 * M : Int) < x.toInt ∧ x.toInt < 2 * M) : ∃ r : Nat, f_J9_floorMod_7cf53 x (nI M) = some (nI r) ∧ r < M ∧ ∃ k : Int, (-2 ≤ k ∧ k ≤ 2) ∧ (r : Int) = x.toInt + k * M := by
  have z : ¬ nI M = 0 := nI_ne0 h0 (by omega)
  have tM : (nI M).toInt = M := nI_toInt (by omega)
  have z0 : (0 : Int32).toInt = 0 := rfl
  have dq : ∀ N : Nat, N < 2 * M → N / M ≤ 1 := by
    intro N hN
    have : N / M < 2 := (Nat.div_lt_iff_lt_mul h0).mpr (by omega)
    omega
  unfold f_J9_floorMod_7cf53
  rw [if_neg z]
  by_cases c : x.toInt < 0
  · obtain ⟨N, hN⟩ : ∃ N : Nat, x.toInt = -(N : Int) := ⟨(-x.toInt).toNat, by omega⟩
    have dm := Nat.div_add_mod N M
    have ml := Nat.mod_lt N h0
    have dl := dq N (by omega)
    have ed : (x / nI M).toInt = -((N / M : Nat) : Int) := by
      rw [Int32.toInt_div_of_ne_right _ _ (fun k => by have := congrArg Int32.toInt k; rw [tM] at this; have m1 : (-1 : Int32).toInt = -1 := by decide
                                                       omega), tM, hN, Int.neg_tdiv]
      rfl
    generalize N / M = q at dm dl ed
    generalize N % M = r at dm ml
    rw [if_pos ((xor_s x (by omega)).mpr c)]
    rcases (show q = 0 ∨ q = 1 by omega) with rfl | rfl
    · rw [Nat.mul_zero, Nat.zero_add] at dm
      have em : (x / nI M * nI M).toInt = 0 := by
        rw [fb_mulI (by rw [ed, tM]; omega) (by rw [ed, tM]; omega), ed, tM]; omega
      have er : (x - x / nI M * nI M).toInt = -(N : Int) := by
        rw [fb_subI (by rw [em, hN]; omega) (by rw [em, hN]; omega), em, hN]; omega
      rw [if_neg (by rw [fa_eq, er, z0]; omega)]
      refine ⟨M - N, ?_, by omega, 1, by omega, by omega⟩
      refine congrArg some ?_
      rw [fa_eq, fb_addI (by omega) (by omega), er, tM, nI_toInt (by omega)]
      omega
    · rw [Nat.mul_one] at dm
      have em : (x / nI M * nI M).toInt = -(M : Int) := by
        rw [fb_mulI (by rw [ed, tM]; omega) (by rw [ed, tM]; omega), ed, tM]; omega
      have er : (x - x / nI M * nI M).toInt = -(r : Int) := by
        rw [fb_subI (by rw [em, hN]; omega) (by rw [em, hN]; omega), em, hN]; omega
      by_cases c2 : r = 0
      · rw [if_pos (by rw [fa_eq, er, z0]; omega)]
        refine ⟨0, ?_, h0, 1, by omega, by omega⟩
        refine congrArg some ?_
        rw [fa_eq, er, nI_toInt (by omega)]
        omega
      · rw [if_neg (by rw [fa_eq, er, z0]; omega)]
        refine ⟨M - r, ?_, by omega, 2, by omega, by omega⟩
        refine congrArg some ?_
        rw [fa_eq, fb_addI (by omega) (by omega), er, tM, nI_toInt (by omega)]
        omega
  · obtain ⟨N, hN⟩ : ∃ N : Nat, x.toInt = (N : Int) := ⟨x.toInt.toNat, by omega⟩
    obtain rfl : x = nI N := lit_n x hN (by omega)
    have dm := Nat.div_add_mod N M
    have ml := Nat.mod_lt N h0
    have dl := dq N (by omega)
    rw [if_neg (fun k => c ((xor_s _ (by omega)).mp k)), pk_rem (by omega) h0 (by omega)]
    generalize N / M = q at dm dl
    generalize N % M = r at dm ml ⊢
    rcases (show q = 0 ∨ q = 1 by omega) with rfl | rfl
    · rw [Nat.mul_zero, Nat.zero_add] at dm
      exact ⟨r, rfl, ml, 0, by omega, by omega⟩
    · rw [Nat.mul_one] at dm
      exact ⟨r, rfl, ml, -1, by omega, by omega⟩
theorem prt_s {v : NV} {M : Nat} (h0 : 0 < M) : prt v M < M ∧ ((prt v M : Int) = srt v M ∨ (prt v M : Int) = srt v M + M) ∧ -(M : Int) < srt v M ∧ srt v M < M := by
  have m' : rst v M < M := Nat.mod_lt _ h0
  unfold prt srt
  by_cases c : v.1 = true
  · rw [if_pos c, if_pos c]
    by_cases c2 : rst v M = 0
    · rw [c2, Nat.sub_zero, Nat.mod_self]
      exact ⟨h0, Or.inl rfl, by omega, by omega⟩
    · rw [Nat.mod_eq_of_lt (by omega)]
      exact ⟨by omega, Or.inr (by omega), by omega, by omega⟩
  · rw [if_neg c, if_neg c]
    exact ⟨m', Or.inl rfl, by omega, by omega⟩
/-- two rests below M that differ by some few M are one -/
theorem few_M {M r s : Nat} {x k j : Int} (hr : r < M) (hs : s < M) (hk : -2 ≤ k ∧ k ≤ 2) (hj : -2 ≤ j ∧ j ≤ 2) (e1 : (r : Int) = x + k * M) (e2 : (s : Int) = x + j * M) : r = s := by
  rcases (show k = -2 ∨ k = -1 ∨ k = 0 ∨ k = 1 ∨ k = 2 by omega) with rfl | rfl | rfl | rfl | rfl <;> rcases (show j = -2 ∨ j = -1 ∨ j = 0 ∨ j = 1 ∨ j = 2 by omega) with rfl | rfl | rfl | rfl | rfl <;> omega
/-- the reference's difference of two rests -/
theorem m_diff {p q M : Nat} (h0 : 0 < M) (hM : M ≤ 1000000) (hp : p < M) (hq : q < M) : ∃ r : Nat, ((lN p + (nI M).toInt64 - lN q) - (lN p + (nI M).toInt64 - lN q) / (nI M).toInt64 * (nI M).toInt64).toInt32 = nI r ∧ r < M ∧ ((r : Int) = p - q ∨ (r : Int) = p - q + M) := by
  have e : lN p + (nI M).toInt64 - lN q = lN (p + M - q) := by rw [nI_l (by omega), lN_add, lN_sub (by omega)]
  rw [e, lrem (by omega) h0 (by omega), lN_i]
  refine ⟨(p + M - q) % M, rfl, Nat.mod_lt _ h0, ?_⟩
  by_cases c : q ≤ p
  · rw [show p + M - q = (p - q) + M by omega, Nat.add_mod_right, Nat.mod_eq_of_lt (by omega)]
    left; omega
  · rw [Nat.mod_eq_of_lt (by omega)]
    right; omega
def gG (M : Nat) (p q : Int64) : Int32 := (((p + (nI M).toInt64) - q) - ((p + (nI M).toInt64) - q) / (nI M).toInt64 * (nI M).toInt64).toInt32
theorem x_gapR {z1 z2 : NV} (o1 : ok z1) (o2 : ok z2) {M : Nat} (m0 : 0 < M) (m1 : M ≤ 1000000) : ∃ r : Nat, f_X1_gapRest (cB z1) (cB z2) (nI M) = some (nI r) ∧ (if pl z1 < pl z2 then gG M (lN (prt z2 M)) (lN (prt z1 M)) else gG M (lN (prt z1 M)) (lN (prt z2 M))) = nI r := by
  obtain ⟨a, a1, a2⟩ := v_srt o1 m0 m1
  obtain ⟨b, b1, b2⟩ := v_srt o2 m0 m1
  obtain ⟨p1, p2, p3, p4⟩ := prt_s (v := z1) m0
  obtain ⟨q1, q2, q3, q4⟩ := prt_s (v := z2) m0
  have ol := v_ordL o1 o2
  have eab : (a - b).toInt = srt z1 M - srt z2 M := by rw [fb_subI (by omega) (by omega), a2, b2]
  have eba : (-(a - b)).toInt = srt z2 M - srt z1 M := by rw [fb_negI (by omega), eab]; omega
  unfold f_X1_gapRest
  rw [a1, obs, b1, obs]
  by_cases c : pl z1 < pl z2
  · obtain ⟨r, r1, r2, k, r3, r4⟩ := fmod_T (x := -(a - b)) m0 m1 (by omega)
    obtain ⟨s, s1, s2, s3⟩ := m_diff (p := prt z2 M) (q := prt z1 M) m0 m1 q1 p1
    refine ⟨r, ?_, ?_⟩
    · rw [if_pos (ol.mpr c), r1, obs]
    · rw [if_pos c]
      refine s1.trans (congrArg nI ?_)
      rw [eba] at r4
      have : ∃ j : Int, (-2 ≤ j ∧ j ≤ 2) ∧ (s : Int) = (srt z2 M - srt z1 M) + j * M := by
        rcases q2 with q2 | q2 <;> rcases p2 with p2 | p2 <;> rcases s3 with s3 | s3
        · exact ⟨0, by omega, by omega⟩
        · exact ⟨1, by omega, by omega⟩
        · exact ⟨-1, by omega, by omega⟩
        · exact ⟨0, by omega, by omega⟩
        · exact ⟨1, by omega, by omega⟩
        · exact ⟨2, by omega, by omega⟩
        · exact ⟨0, by omega, by omega⟩
        · exact ⟨1, by omega, by omega⟩
      obtain ⟨j, hj, ej⟩ := this
      exact few_M s2 r2 hj r3 ej r4
  · obtain ⟨r, r1, r2, k, r3, r4⟩ := fmod_T (x := a - b) m0 m1 (by omega)
    obtain ⟨s, s1, s2, s3⟩ := m_diff (p := prt z1 M) (q := prt z2 M) m0 m1 p1 q1
    refine ⟨r, ?_, ?_⟩
    · rw [if_neg (fun x => c (ol.mp x)), r1, obs]
    · rw [if_neg c]
      refine s1.trans (congrArg nI ?_)
      rw [eab] at r4
      have : ∃ j : Int, (-2 ≤ j ∧ j ≤ 2) ∧ (s : Int) = (srt z1 M - srt z2 M) + j * M := by
        rcases p2 with p2 | p2 <;> rcases q2 with q2 | q2 <;> rcases s3 with s3 | s3
        · exact ⟨0, by omega, by omega⟩
        · exact ⟨1, by omega, by omega⟩
        · exact ⟨-1, by omega, by omega⟩
        · exact ⟨0, by omega, by omega⟩
        · exact ⟨1, by omega, by omega⟩
        · exact ⟨2, by omega, by omega⟩
        · exact ⟨0, by omega, by omega⟩
        · exact ⟨1, by omega, by omega⟩
      obtain ⟨j, hj, ej⟩ := this
      exact few_M s2 r2 hj r3 ej r4
theorem ok_gap {v : SH} {w : StM} (h : Rel v.1 w) (a1 a2 a3 : Int32) : Ok Int32.toInt64 (f_L_gap v a1 a2 a3) (f_X6_gap w a1 a2 a3) := by
  have h0 : Rel v.1 (wt w 0) := Rel_t h 0
  have ai : ¬ "java/lang/IllegalArgumentException" = "java/lang/IndexOutOfBoundsException" := by decide +kernel
  have si : ¬ "java/lang/IllegalStateException" = "java/lang/IndexOutOfBoundsException" := by decide +kernel
  have sa : ¬ "java/lang/IllegalStateException" = "java/lang/IllegalArgumentException" := by decide +kernel
  rcases sl_c a1 with ⟨i1, hi1, rfl⟩ | ⟨e1, e2⟩
  rotate_left
  · exact Ok_e h 1 (by decide) 0 (by unfold f_L_gap f_X5_gap; rw [e1, xb_l, xh_l, if_pos rfl]) (by unfold f_X6_gap; rw [lk2_f _ e2]; rfl)
  rcases sl_c a2 with ⟨i2, hi2, rfl⟩ | ⟨e1, e2⟩
  rotate_left
  · exact Ok_e h 1 (by decide) 0 (by unfold f_L_gap f_X5_gap; rw [chk_ok hi1, xb_r, e1, xb_l, xh_l, if_pos rfl]) (by unfold f_X6_gap; rw [lk2_g hi1 e2]; rfl)
  rcases rg_c a3 1 1000000 with ⟨r1, r2, r3, r4⟩ | ⟨e1, e2⟩
  rotate_left
  · exact Ok_e h 2 (by decide) 0 (by unfold f_L_gap f_X5_gap; rw [chk_ok hi1, xb_r, chk_ok hi2, xb_r, e1, xb_l, xh_l, if_neg ai, if_pos rfl]) (by unfold f_X6_gap; rw [lk2_t hi1 hi2, obs, if_pos ff_P, e2]; rfl)
  obtain ⟨M, m0, m1, rfl⟩ := rg_M r3 r4
  obtain ⟨z1, o1, p1, q1⟩ := h.1 i1 hi1
  obtain ⟨z2, o2, p2, q2⟩ := h.1 i2 hi2
  have kc := chE o1
  have kd := chE o2
  have me : f_X6_isEnd (cC z1) = decide (z1.2 = 9218868437227405312) := m_isEnd z1.1 o1
  have mf : f_X6_isEnd (cC z2) = decide (z2.2 = 9218868437227405312) := m_isEnd z2.1 o2
  have pi1 : f_X6_placeIn (wt w 0) (nI i1) = some (f_X0_placeOf (cB z1)) := by
    unfold f_X6_placeIn
    rw [if_neg (sl_in hi1), sl_cl hi1]
    show some (f_X6_placeOf (w.1 i1)) = _
    rw [q1, (v_place o1).2]
  have pi2 : f_X6_placeIn (wt w 0) (nI i2) = some (f_X0_placeOf (cB z2)) := by
    unfold f_X6_placeIn
    rw [if_neg (sl_in hi2), sl_cl hi2]
    show some (f_X6_placeOf (w.1 i2)) = _
    rw [q2, (v_place o2).2]
  have M0 : f_X6_gap w (nI i1) (nI i2) (nI M) = (if f_X6_isEnd (cC z1) = false then (if f_X6_isEnd (cC z2) = false then (if f_X0_placeOf (cB z1) < f_X0_placeOf (cB z2) then some (gG M (lN (prt z2 M)) (lN (prt z1 M)), wt w 0) else some (gG M (lN (prt z1 M)) (lN (prt z2 M)), wt w 0)) else some (0, wt w 3)) else some (0, wt w 3)) := by
    unfold f_X6_gap
    rw [lk2_t hi1 hi2, obs, if_pos ff_P, r2, if_pos (show (!true) = false from rfl), if_neg (sl_in hi1), sl_cl hi1, sl_cl hi2]
    show (if f_X6_isEnd (w.1 i1) = false then (if (nI i2 < 0 ∨ 8 ≤ i2) then none else (if f_X6_isEnd (w.1 i2) = false then ((f_X6_placeIn (wt w 0) (nI i1)).bind fun r8 => ((f_X6_placeIn (wt w 0) (nI i2)).bind fun r9 => (if r8 < r9 then (if (nI i2 < 0 ∨ 8 ≤ i2) then none else (if (nI i1 < 0 ∨ 8 ≤ i1) then none else ((f_X6_restOf (w.1 i2) (nI M)).bind fun r13 => ((f_X6_restOf (w.1 i1) (nI M)).bind fun r14 => (if (nI M).toInt64 = 0 then none else some (gG M r13 r14, wt w 0)))))) else (if (nI i1 < 0 ∨ 8 ≤ i1) then none else (if (nI i2 < 0 ∨ 8 ≤ i2) then none else ((f_X6_restOf (w.1 i1) (nI M)).bind fun r18 => ((f_X6_restOf (w.1 i2) (nI M)).bind fun r19 => (if (nI M).toInt64 = 0 then none else some (gG M r18 r19, wt w 0)))))))) ) else some (0, wt w 3))) else some (0, wt w 3)) = _
    rw [if_neg (sl_in2 hi2), pi1, obs, pi2, obs, if_neg (sl_in2 hi2), if_neg (sl_in2 hi1), if_neg (sl_in2 hi1), if_neg (sl_in2 hi2), q1, q2, m_prt o1 m0 m1, m_prt o2 m0 m1, obs, obs, obs, obs, if_neg (lne m0 (by omega)), if_neg (lne m0 (by omega))]
  by_cases c : z1.2 = 9218868437227405312
  · rw [if_pos c] at kc
    rw [decide_eq_true c] at me
    have key : f_X5_gap v.1 (nI i1) (nI i2) (nI M) = some (.inl "java/lang/IllegalStateException") := by
      unfold f_X5_gap
      rw [chk_ok hi1, xb_r, chk_ok hi2, xb_r, r1, xb_r, if_neg (sl_in hi1), sl_cl hi1, p1, kc, xb_l]
    exact Ok_e h 3 (by decide) 0 (by unfold f_L_gap; rw [key, xh_l, if_neg si, if_neg sa, if_pos rfl]) (by rw [M0, me, if_neg (show ¬ true = false by decide)])
  · rw [if_neg c] at kc
    rw [decide_eq_false c] at me
    by_cases d : z2.2 = 9218868437227405312
    · rw [if_pos d] at kd
      rw [decide_eq_true d] at mf
      have key : f_X5_gap v.1 (nI i1) (nI i2) (nI M) = some (.inl "java/lang/IllegalStateException") := by
        unfold f_X5_gap
        rw [chk_ok hi1, xb_r, chk_ok hi2, xb_r, r1, xb_r, if_neg (sl_in hi1), sl_cl hi1, p1, kc, xb_r, if_neg (sl_in hi2), sl_cl hi2, p2, kd, xb_l]
      exact Ok_e h 3 (by decide) 0 (by unfold f_L_gap; rw [key, xh_l, if_neg si, if_neg sa, if_pos rfl]) (by rw [M0, me, if_pos ff_P, mf, if_neg (show ¬ true = false by decide)])
    · rw [if_neg d] at kd
      rw [decide_eq_false d] at mf
      obtain ⟨r, g1, g2⟩ := x_gapR o1 o2 m0 m1
      have k0 : (f_X0_placeOf (cB z1) < f_X0_placeOf (cB z2)) ↔ pl z1 < pl z2 := by rw [fa_lt64, (v_place o1).1, (v_place o2).1]
      have key : f_X5_gap v.1 (nI i1) (nI i2) (nI M) = some (.inr (nI r)) := by
        unfold f_X5_gap
        rw [chk_ok hi1, xb_r, chk_ok hi2, xb_r, r1, xb_r, if_neg (sl_in hi1), sl_cl hi1, p1, kc, xb_r, if_neg (sl_in hi2), sl_cl hi2, p2, kd, xb_r, if_neg (sl_in2 hi1), if_neg (sl_in2 hi2), g1, obs]
      refine Ok_r v.2 (nI r).toInt64 (nI r) h0 rfl rfl ?_ ?_
      · unfold f_L_gap
        rw [key, xh_r]
      · rw [M0, me, if_pos ff_P, mf, if_pos ff_P]
        by_cases o : pl z1 < pl z2
        · rw [if_pos o] at g2
          rw [if_pos (k0.mpr o), g2]
        · rw [if_neg o] at g2
          rw [if_neg (fun x => o (k0.mp x)), g2]
/-! the exact size of a number, in grains -/
def zq_vl (S : Nat) : Nat := wh S * 2 ^ sh S
def zq_sv (v : NV) : Int := if v.1 = true then -(zq_vl v.2 : Int) else zq_vl v.2
theorem zq_sv_t {v : NV} (h : v.1 = true) : zq_sv v = -(zq_vl v.2 : Int) := if_pos h
theorem zq_sv_f {v : NV} (h : ¬ v.1 = true) : zq_sv v = zq_vl v.2 := if_neg h
theorem zq_opp (v : NV) : zq_sv (opp v) = - zq_sv v := by
  obtain ⟨s, S⟩ := v
  cases s
  · exact (zq_sv_t (v := opp (false, S)) rfl).trans (congrArg (fun x : Int => -x) (zq_sv_f (v := (false, S)) Bool.false_ne_true).symm)
  · exact (zq_sv_f (v := opp (true, S)) Bool.false_ne_true).trans ((Int.neg_neg _).symm.trans (congrArg (fun x : Int => -x) (zq_sv_t (v := (true, S)) rfl).symm))
theorem zq_vl0 : zq_vl 0 = 0 := by
  unfold zq_vl wh
  rw [if_pos (by omega), Nat.zero_mul]
theorem zq_s (S : Nat) : zq_vl (S + 1) = zq_vl S + 2 ^ sh S := by
  unfold zq_vl wh sh
  by_cases c : S < 4503599627370496
  · rw [if_pos c, if_pos c]
    by_cases d : S + 1 < 4503599627370496
    · rw [if_pos d, if_pos d, Nat.pow_zero, Nat.mul_one, Nat.mul_one]
    · rw [if_neg d, if_neg d, show S + 1 = 4503599627370496 by omega, Nat.mod_self, Nat.div_self (by omega), Nat.sub_self, Nat.pow_zero]
      omega
  · have c2 : ¬ S + 1 < 4503599627370496 := by omega
    rw [if_neg c, if_neg c, if_neg c2, if_neg c2]
    by_cases d : S % 4503599627370496 = 4503599627370495
    · have e1 : (S + 1) % 4503599627370496 = 0 := by omega
      have e2 : (S + 1) / 4503599627370496 = S / 4503599627370496 + 1 := by omega
      obtain ⟨q, hq⟩ : ∃ q, S / 4503599627370496 = q + 1 := ⟨S / 4503599627370496 - 1, by omega⟩
      rw [e1, e2, d, hq, show q + 1 + 1 - 1 = q + 1 by omega, show q + 1 - 1 = q by omega, Nat.pow_succ]
      generalize 2 ^ q = X
      omega
    · have e1 : (S + 1) % 4503599627370496 = S % 4503599627370496 + 1 := by omega
      have e2 : (S + 1) / 4503599627370496 = S / 4503599627370496 := by omega
      rw [e1, e2, ← Nat.add_assoc, Nat.add_mul (4503599627370496 + S % 4503599627370496) 1, Nat.one_mul]
theorem zq_mono (S : Nat) : ∀ d, zq_vl S ≤ zq_vl (S + d)
  | 0 => Nat.le_refl _
  | d + 1 => Nat.le_trans (zq_mono S d) (by rw [show S + (d + 1) = (S + d) + 1 from rfl, zq_s (S + d)]; exact Nat.le_add_right _ _)
theorem zq_le {S T : Nat} (h : S ≤ T) : zq_vl S ≤ zq_vl T := by
  have := zq_mono S (T - S)
  rw [show S + (T - S) = T by omega] at this
  exact this
theorem zq_svm {v w : NV} (h : pl v ≤ pl w) : zq_sv v ≤ zq_sv w := by
  have h' : gP v.1 v.2 ≤ gP w.1 w.2 := h
  unfold gP at h'
  by_cases c : v.1 = true
  · rw [zq_sv_t c]
    rw [if_pos c] at h'
    by_cases d : w.1 = true
    · rw [zq_sv_t d]
      rw [if_pos d] at h'
      have := zq_le (S := w.2) (T := v.2) (by omega)
      omega
    · rw [zq_sv_f d]
      omega
  · rw [zq_sv_f c]
    rw [if_neg c] at h'
    by_cases d : w.1 = true
    · rw [zq_sv_t d]
      rw [if_pos d] at h'
      rw [show v.2 = 0 by omega, show w.2 = 0 by omega, zq_vl0]
      omega
    · rw [zq_sv_f d]
      rw [if_neg d] at h'
      have := zq_le (S := v.2) (T := w.2) (by omega)
      omega
theorem zq_lt {S n : Nat} (h : S < 9218868437227405312) (hn : 2098 ≤ n) : zq_vl S < 2 ^ n := by
  have a := wh_lt S
  have s := sh_lt h
  have b := Nat.pow_le_pow_right (n := 2) (by decide) (show sh S ≤ n - 53 by omega)
  have p := Nat.two_pow_pos (sh S)
  have e : 2 ^ n = 9007199254740992 * 2 ^ (n - 53) := by
    rw [show 9007199254740992 = 2 ^ 53 by decide, ← Nat.pow_add]
    congr 1; omega
  rw [e]
  exact Nat.lt_of_lt_of_le (Nat.mul_lt_mul_of_pos_right a p) (Nat.mul_le_mul_left _ b)
theorem zq_negL {n : Nat} (h : n < 9223372036854775808) : (-lN n).toInt = -(n : Int) := by
  have t : (lN n).toInt = n := Lti h
  rw [Int64.toInt_neg, fb_bmodL (by omega) (by omega), t]
/-! a part of 32 bits -/
def zq_sq (v : NV) (P : Nat) : Int := if v.1 = true then -((zq_vl v.2 / P : Nat) : Int) else (zq_vl v.2 / P : Nat)
def zq_sp (v : NV) (P : Nat) : Int := if v.1 = true then -((zq_vl v.2 / P % 4294967296 : Nat) : Int) else (zq_vl v.2 / P % 4294967296 : Nat)
theorem zq_spq (v : NV) (P : Nat) : zq_sp v P = zq_sq v P - 4294967296 * zq_sq v (P * 4294967296) ∧ -4294967296 < zq_sp v P ∧ zq_sp v P < 4294967296 := by
  unfold zq_sp zq_sq
  rw [← Nat.div_div_eq_div_mul]
  generalize zq_vl v.2 / P = y
  by_cases c : v.1 = true
  · rw [if_pos c, if_pos c, if_pos c]; omega
  · rw [if_neg c, if_neg c, if_neg c]; omega
theorem zq_sq1 (v : NV) : zq_sq v 1 = zq_sv v := by
  unfold zq_sq zq_sv
  rw [Nat.div_one]
theorem zq_sqE {v : NV} {P : Nat} (h : zq_vl v.2 < P) : zq_sq v P = 0 := by
  unfold zq_sq
  rw [Nat.div_eq_of_lt h]
  by_cases c : v.1 = true
  · rw [if_pos c] <;> rfl
  · rw [if_neg c] <;> rfl
theorem zq_sgnX {v : NV} (h : ok v) {P n : Nat} {X : Int64} (hX : X = lN n) (hn : n = zq_vl v.2 / P % 4294967296) : (if cB v < 0 then -X else X).toInt = zq_sp v P := by
  have h' : v.2 ≤ 9218868437227405312 := h
  have g := gB_neg (s := v.1) (S := v.2) (by omega)
  have m := Nat.mod_lt (zq_vl v.2 / P) (show 0 < 4294967296 by omega)
  unfold zq_sp
  rw [← hn] at m ⊢
  subst hX
  by_cases c : v.1 = true
  · rw [if_pos (show cB v < 0 from g.mpr c), if_pos c, zq_negL (by omega)]
  · rw [if_neg (show ¬ cB v < 0 from fun k => c (g.mp k)), if_neg c, Lti (by omega)]
theorem zq_vlu (S P : Nat) : zq_vl S = wh S * 2 ^ sh S := rfl
theorem zq_part {v : NV} (h : ok v) {i : Nat} (hi : i < 66) : (f_X1_signedPart (cB v) (nI i)).toInt = zq_sp v (2 ^ (32 * i)) := by
  have h' : v.2 ≤ 9218868437227405312 := h
  have s0 := sh_le h'
  have w1 := wh_lt v.2
  have tF : ((32 : Int32) * nI i - nI (sh v.2)).toInt = 32 * (i : Int) - (sh v.2 : Int) := by
    rw [show (32 : Int32) * nI i = nI (32 * i) from pk_mul 32 i, pk_sub_toInt (by omega) (by omega)]
    omega
  have z0 : (0 : Int32).toInt = 0 := rfl
  have z64 : (64 : Int32).toInt = 64 := rfl
  have zm : (-32 : Int32).toInt = -32 := rfl
  have msk : (4294967295 : Int64) = lN (2 ^ 32 - 1) := by decide +kernel
  have l0 : (0 : Int64) = lN 0 := rfl
  unfold f_X1_signedPart
  rw [show f_X0_shift (cB v) = nI (sh v.2) from x_shift v.1 h', show f_X0_whole (cB v) = lN (wh v.2) from x_whole v.1 h']
  generalize (32 : Int32) * nI i - nI (sh v.2) = F at tF ⊢
  by_cases c : F < 0
  · rw [if_pos c, if_pos c]
    rw [fa_lt, z0, tF] at c
    obtain ⟨k, hk⟩ : ∃ k : Nat, sh v.2 = 32 * i + k := ⟨sh v.2 - 32 * i, by omega⟩
    have vv : zq_vl v.2 / 2 ^ (32 * i) = wh v.2 * 2 ^ k := by
      unfold zq_vl
      rw [hk, Nat.pow_add, Nat.mul_comm (2 ^ (32 * i)), ← Nat.mul_assoc, Nat.mul_div_cancel _ (Nat.two_pow_pos _)]
    by_cases d : -32 < F
    · rw [if_pos d]
      rw [fa_lt, zm, tF] at d
      have eF : -F = nI k := lit_n _ (by rw [fb_negI (by omega), tF]; omega) (by omega)
      refine zq_sgnX h (n := wh v.2 * 2 ^ k % 2 ^ 32) ?_ (by rw [vv])
      rw [eF, jshl_N _ (by omega), msk, fb_maskL]
    · rw [if_neg d]
      rw [fa_lt, zm, tF] at d
      refine zq_sgnX h (n := 0) l0 ?_
      obtain ⟨j, hj⟩ : ∃ j : Nat, k = j + 32 := ⟨k - 32, by omega⟩
      rw [vv, hj, Nat.pow_add, ← Nat.mul_assoc, show (2 : Nat) ^ 32 = 4294967296 from rfl, Nat.mul_mod_left]
  · rw [if_neg c, if_neg c]
    rw [fa_lt, z0, tF] at c
    obtain ⟨k, hk⟩ : ∃ k : Nat, 32 * i = k + sh v.2 := ⟨32 * i - sh v.2, by omega⟩
    have vv : zq_vl v.2 / 2 ^ (32 * i) = wh v.2 / 2 ^ k := by
      unfold zq_vl
      rw [hk, Nat.pow_add, Nat.mul_div_mul_right _ _ (Nat.two_pow_pos _)]
    by_cases d : F < 64
    · rw [if_pos d]
      rw [fa_lt, z64, tF] at d
      have eF : F = nI k := lit_n _ (by omega) (by omega)
      refine zq_sgnX h (n := wh v.2 / 2 ^ k % 2 ^ 32) ?_ (by rw [vv])
      rw [eF, jshr_N (by omega) (by omega), msk, fb_maskL]
    · rw [if_neg d]
      rw [fa_lt, z64, tF] at d
      refine zq_sgnX h (n := 0) l0 ?_
      have p := Nat.pow_le_pow_right (n := 2) (by decide) (show 53 ≤ k by omega)
      rw [vv, Nat.div_eq_of_lt (Nat.lt_of_lt_of_le w1 p)]
/-! the sign of the exact sum of four numbers -/
theorem zq_em (T P : Int) (hP : 0 < P) : T % (P * 4294967296) = P * (T / P % 4294967296) + T % P := by
  have a := Int.mul_ediv_add_emod T (P * 4294967296)
  have b := Int.mul_ediv_add_emod T P
  have d := Int.mul_ediv_add_emod (T / P) 4294967296
  rw [← Int.ediv_ediv_of_nonneg (show 0 ≤ P by omega), Int.mul_assoc] at a
  have e : P * (T / P) = P * (4294967296 * (T / P / 4294967296)) + P * (T / P % 4294967296) := by rw [← Int.mul_add, d]
  generalize T % (P * 4294967296) = x1 at a ⊢
  generalize P * (4294967296 * (T / P / 4294967296)) = x2 at a e
  generalize P * (T / P % 4294967296) = x3 at e ⊢
  generalize P * (T / P) = x4 at b e
  omega
theorem zq_em0 (T P : Int) (hP : 0 < P) : T % (P * 4294967296) = 0 ↔ T / P % 4294967296 = 0 ∧ T % P = 0 := by
  rw [zq_em T P hP]
  have a : 0 ≤ T / P % 4294967296 := by omega
  have b := Int.emod_nonneg T (show P ≠ 0 by omega)
  constructor
  · intro k
    by_cases c : T / P % 4294967296 = 0
    · rw [c, Int.mul_zero] at k
      exact ⟨c, by omega⟩
    · have := Int.mul_pos hP (show 0 < T / P % 4294967296 by omega)
      omega
  · rintro ⟨k1, k2⟩
    rw [k1, k2, Int.mul_zero] <;> rfl
theorem zq_msk (x : Int64) : x &&& 4294967295 = 0 ↔ x.toInt % 4294967296 = 0 := by
  have msk : (4294967295 : Int64) = lN (2 ^ 32 - 1) := by decide +kernel
  obtain ⟨n, hn, rfl⟩ := wb_of x
  have m := Nat.mod_lt n (show 0 < 2 ^ 32 by decide)
  rw [msk, fb_maskL, show (0 : Int64) = lN 0 from rfl, L_eq (by omega) (by omega), lN_T (by omega)]
  split <;> omega
def zq_sg (T : Int) : Int32 := if T < 0 then -1 else if T = 0 then 0 else 1
theorem zq_sum {a b c d : NV} (oa : ok a) (ob : ok b) (oc : ok c) (od : ok d) (na : a.2 < 9218868437227405312) (nb : b.2 < 9218868437227405312) (nc : c.2 < 9218868437227405312) (nd : d.2 < 9218868437227405312) {T : Int} (hT : T = zq_sv a + zq_sv b + zq_sv c + zq_sv d) :
    ∀ (m n i : Nat) (h : Int32) (C : Int64), i + m = 66 → m < n → C.toInt = T / ((2 ^ (32 * i) : Nat) : Int) - (zq_sq a (2 ^ (32 * i)) + zq_sq b (2 ^ (32 * i)) + zq_sq c (2 ^ (32 * i)) + zq_sq d (2 ^ (32 * i))) → -8 ≤ C.toInt ∧ C.toInt ≤ 8 → (h = 0 ↔ T % ((2 ^ (32 * i) : Nat) : Int) = 0) → f_X1_signOfSum_L9 (cB a) (cB b) (cB c) (cB d) n (nI i) h C = some (zq_sg T) := by
  intro m
  induction m with
  | zero =>
    intro n i h C hi hn hC hb hh
    obtain ⟨n, rfl⟩ : ∃ k, n = k + 1 := ⟨n - 1, by omega⟩
    have n66 : ¬ nI i < 66 := nI_nlt (b := 66) (by omega) (by omega)
    have big : ∀ v : NV, v.2 < 9218868437227405312 → zq_vl v.2 < 2 ^ (32 * i) ∧ 8 * zq_vl v.2 < 2 ^ (32 * i) := by
      intro v hv
      have k1 := zq_lt (n := 32 * i - 3) hv (by omega)
      have e : 2 ^ (32 * i) = 2 ^ (32 * i - 3) * 8 := by
        rw [show (8 : Nat) = 2 ^ 3 from rfl, ← Nat.pow_add]
        congr 1; omega
      rw [e]
      generalize 2 ^ (32 * i - 3) = Q at k1 ⊢
      omega
    have pp0 := Nat.two_pow_pos (32 * i)
    have bs : ∀ v : NV, v.2 < 9218868437227405312 → 8 * zq_sv v < ((2 ^ (32 * i) : Nat) : Int) ∧ -((2 ^ (32 * i) : Nat) : Int) < 8 * zq_sv v := by
      intro v hv
      have k1 := (big v hv).2
      generalize 2 ^ (32 * i) = Q at k1 pp0 ⊢
      by_cases c1 : v.1 = true
      · rw [zq_sv_t c1]; omega
      · rw [zq_sv_f c1]; omega
    have ba := bs a na
    have bb := bs b nb
    have bc := bs c nc
    have bd := bs d nd
    rw [zq_sqE (big a na).1, zq_sqE (big b nb).1, zq_sqE (big c nc).1, zq_sqE (big d nd).1] at hC
    clear bs big
    generalize 2 ^ (32 * i) = Q at hC hh ba bb bc bd pp0
    have pp : 0 < (Q : Int) := by omega
    generalize (Q : Int) = P at hC hh ba bb bc bd pp
    rw [f_X1_signOfSum_L9, if_neg n66]
    have l0 : C < 0 ↔ T < 0 := by
      rw [L_lt0, hC]
      have := Int.ediv_nonneg_iff_of_pos (a := T) pp
      omega
    unfold zq_sg
    by_cases c1 : T < 0
    · rw [if_pos (l0.mpr c1), if_pos c1]
    · rw [if_neg (fun k => c1 (l0.mp k)), if_neg c1]
      rw [Int.emod_eq_of_lt (by omega) (by omega)] at hh
      by_cases c2 : T = 0
      · rw [if_pos (hh.mpr c2), if_pos c2]
      · rw [if_neg (fun k => c2 (hh.mp k)), if_neg c2]
  | succ m ih =>
    intro n i h C hi hn hC hb hh
    obtain ⟨n, rfl⟩ : ∃ k, n = k + 1 := ⟨n - 1, by omega⟩
    have l66 : nI i < 66 := (nI_ltI (b := 66) (by omega) (by omega)).mpr (by omega)
    have p0 := Nat.two_pow_pos (32 * i)
    have pN : 2 ^ (32 * (i + 1)) = 2 ^ (32 * i) * 4294967296 := by rw [show 32 * (i + 1) = 32 * i + 32 by omega, Nat.pow_add]
    obtain ⟨a1, a2, a3⟩ := zq_spq a (2 ^ (32 * i))
    obtain ⟨b1, b2, b3⟩ := zq_spq b (2 ^ (32 * i))
    obtain ⟨c1, c2, c3⟩ := zq_spq c (2 ^ (32 * i))
    obtain ⟨d1, d2, d3⟩ := zq_spq d (2 ^ (32 * i))
    rw [← zq_part oa (show i < 66 by omega)] at a1 a2 a3
    rw [← zq_part ob (show i < 66 by omega)] at b1 b2 b3
    rw [← zq_part oc (show i < 66 by omega)] at c1 c2 c3
    rw [← zq_part od (show i < 66 by omega)] at d1 d2 d3
    rw [f_X1_signOfSum_L9, if_pos l66, nI_1]
    have ih2 := fun h' C' => ih n (i + 1) h' C' (by omega) (by omega)
    rw [pN] at ih2
    have ec : ((2 ^ (32 * i) * 4294967296 : Nat) : Int) = ((2 ^ (32 * i) : Nat) : Int) * 4294967296 := Int.natCast_mul _ _
    rw [ec] at ih2
    have pp : 0 < ((2 ^ (32 * i) : Nat) : Int) := by omega
    have em := zq_em0 T _ pp
    rw [← Int.ediv_ediv_of_nonneg (show 0 ≤ ((2 ^ (32 * i) : Nat) : Int) by omega)] at ih2
    generalize f_X1_signedPart (cB a) (nI i) = A at a1 a2 a3 ⊢
    generalize f_X1_signedPart (cB b) (nI i) = B at b1 b2 b3 ⊢
    generalize f_X1_signedPart (cB c) (nI i) = G at c1 c2 c3 ⊢
    generalize f_X1_signedPart (cB d) (nI i) = D at d1 d2 d3 ⊢
    generalize zq_sq a (2 ^ (32 * i) * 4294967296) = qa at a1 ih2
    generalize zq_sq b (2 ^ (32 * i) * 4294967296) = qb at b1 ih2
    generalize zq_sq c (2 ^ (32 * i) * 4294967296) = qc at c1 ih2
    generalize zq_sq d (2 ^ (32 * i) * 4294967296) = qd at d1 ih2
    generalize ((2 ^ (32 * i) : Nat) : Int) = P at hC hh ih2 pp em
    generalize zq_sq a (2 ^ (32 * i)) = ra at hC a1
    generalize zq_sq b (2 ^ (32 * i)) = rb at hC b1
    generalize zq_sq c (2 ^ (32 * i)) = rc at hC c1
    generalize zq_sq d (2 ^ (32 * i)) = rd at hC d1
    clear pN ec p0
    have t1 : (C + A).toInt = C.toInt + A.toInt := fb_addL (by omega) (by omega)
    have t2 : (C + A + B).toInt = C.toInt + A.toInt + B.toInt := by rw [fb_addL (by omega) (by omega), t1]
    have t3 : (C + A + B + G).toInt = C.toInt + A.toInt + B.toInt + G.toInt := by rw [fb_addL (by omega) (by omega), t2]
    have t4 : (C + A + B + G + D).toInt = C.toInt + A.toInt + B.toInt + G.toInt + D.toInt := by rw [fb_addL (by omega) (by omega), t3]
    generalize C + A + B + G + D = S at t4 ⊢
    have mS := zq_msk S
    have jS : (jshr S 32).toInt = S.toInt / 4294967296 := jshr_T S (k := 32) (by omega)
    have sm : S.toInt % 4294967296 = T / P % 4294967296 := by omega
    have hC2 : (jshr S 32).toInt = T / P / 4294967296 - (qa + qb + qc + qd) := by rw [jS]; omega
    have hb2 : -8 ≤ (jshr S 32).toInt ∧ (jshr S 32).toInt ≤ 8 := by rw [jS]; omega
    by_cases e1 : h = 0
    · rw [if_pos e1]
      have g1 := hh.mp e1
      by_cases e2 : S &&& 4294967295 = 0
      · rw [if_pos e2]
        exact ih2 0 _ hC2 hb2 ⟨fun _ => em.mpr ⟨by rw [← sm]; exact mS.mp e2, g1⟩, fun _ => rfl⟩
      · rw [if_neg e2]
        exact ih2 1 _ hC2 hb2 ⟨fun k => absurd k (by decide), fun k => absurd (mS.mpr (by rw [sm]; exact (em.mp k).1)) e2⟩
    · rw [if_neg e1]
      exact ih2 1 _ hC2 hb2 ⟨fun k => absurd k (by decide), fun k => absurd (hh.mpr (em.mp k).2) e1⟩
theorem zq_sgn {a b c d : NV} (oa : ok a) (ob : ok b) (oc : ok c) (od : ok d) (na : a.2 < 9218868437227405312) (nb : b.2 < 9218868437227405312) (nc : c.2 < 9218868437227405312) (nd : d.2 < 9218868437227405312) : f_X1_signOfSum (cB a) (cB b) (cB c) (cB d) = some (zq_sg (zq_sv a + zq_sv b + zq_sv c + zq_sv d)) := by
  unfold f_X1_signOfSum
  have z0 : (0 : Int64).toInt = 0 := rfl
  have e1 : ((2 ^ (32 * 0) : Nat) : Int) = 1 := rfl
  refine zq_sum oa ob oc od na nb nc nd rfl 66 100 0 0 0 (by omega) (by omega) ?_ (by rw [z0]; omega) ?_
  · rw [e1, show 2 ^ (32 * 0) = 1 from rfl, zq_sq1, zq_sq1, zq_sq1, zq_sq1, Int.ediv_one, z0, Int.sub_self]
  · rw [e1, Int.emod_one]
    exact ⟨fun _ => rfl, fun _ => rfl⟩
