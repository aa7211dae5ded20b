/-! share and mean exponent: the counts are alike -/
theorem x_cntS {v : StX} {w : StM} (hS : RelS v.1 w.1) (U : StM) : ∀ (d n i k : Nat), i + d = 8 → d < n → k ≤ i → ∃ c : Nat, c ≤ 8 ∧ (∀ r, (if ¬ ((FP.fdiv (FP.i2f (nI c)) 1090519040) &&& 0x7fffffff ≤ 0x7f800000) then none else some (FP.fdiv (FP.i2f (nI c)) 1090519040)) = some r → f_X5_share_L4 v n (nI i) (nI k) = some r ∧ f_X6_share_L9 U n (nI i) (nI k) w = some (r, w)) := by
  intro d
  induction d with
  | zero =>
    intro n i k hi hn hk
    obtain ⟨n, rfl⟩ : ∃ m, n = m + 1 := ⟨n - 1, by omega⟩
    obtain rfl : i = 8 := by omega
    refine ⟨k, hk, fun r hr => ?_⟩
    have n8 : ¬ nI 8 < 8 := by decide
    rw [f_X5_share_L4, f_X6_share_L9, if_neg n8, if_neg n8]
    by_cases c : ¬ ((FP.fdiv (FP.i2f (nI k)) 1090519040) &&& 0x7fffffff ≤ 0x7f800000)
    · rw [if_pos c] at hr; cases hr
    · rw [if_neg c] at hr ⊢
      cases hr
      rw [if_neg c]
      exact ⟨rfl, rfl⟩
  | succ d ih =>
    intro n i k hi hn hk
    obtain ⟨n, rfl⟩ : ∃ m, n = m + 1 := ⟨n - 1, by omega⟩
    have i8 : i < 8 := by omega
    obtain ⟨z, hz, p1, q1⟩ := hS i i8
    have l : nI i < 8 := (nI_ltI (b := 8) (by omega) (by omega)).mpr i8
    have e : f_X6_isLittle (cC z) = f_X0_hasLeastExponent (cB z) := m_isLittle z.1 hz
    rw [f_X5_share_L4, f_X6_share_L9, if_pos l, if_pos l, if_neg (sl_in i8), if_neg (sl_in i8), sl_cl i8, p1, q1, e, nI_1, nI_1]
    by_cases c : f_X0_hasLeastExponent (cB z) = false
    · rw [if_pos c, if_pos c, show nI k + 0 = nI k from Int32.add_zero _]
      exact ih n (i + 1) k (by omega) (by omega) (by omega)
    · rw [if_neg c, if_neg c]
      exact ih n (i + 1) (k + 1) (by omega) (by omega) (by omega)
theorem x_cntM {v : StX} {w : StM} (hS : RelS v.1 w.1) (U : StM) : ∀ (d n i : Nat) (k : Int32), i + d = 8 → d < n → -(1023 * i : Int) ≤ k.toInt → k.toInt ≤ 1024 * i → ∃ c : Int32, -8184 ≤ c.toInt ∧ c.toInt ≤ 8192 ∧ (∀ r, (if ¬ ((FP.ddiv (FP.i2d c) 4620693217682128896) &&& 0x7fffffffffffffff ≤ 0x7ff0000000000000) then none else some (FP.ddiv (FP.i2d c) 4620693217682128896)) = some r → f_X5_meanExponent_L4 v n (nI i) k = some r ∧ f_X6_meanExponent_L9 U n (nI i) k w = some (r, w)) := by
  intro d
  induction d with
  | zero =>
    intro n i k hi hn hk1 hk2
    obtain ⟨n, rfl⟩ : ∃ m, n = m + 1 := ⟨n - 1, by omega⟩
    obtain rfl : i = 8 := by omega
    refine ⟨k, by omega, by omega, fun r hr => ?_⟩
    have n8 : ¬ nI 8 < 8 := by decide
    rw [f_X5_meanExponent_L4, f_X6_meanExponent_L9, if_neg n8, if_neg n8]
    by_cases c : ¬ ((FP.ddiv (FP.i2d k) 4620693217682128896) &&& 0x7fffffffffffffff ≤ 0x7ff0000000000000)
    · rw [if_pos c] at hr; cases hr
    · rw [if_neg c] at hr ⊢
      cases hr
      rw [if_neg c]
      exact ⟨rfl, rfl⟩
  | succ d ih =>
    intro n i k hi hn hk1 hk2
    obtain ⟨n, rfl⟩ : ∃ m, n = m + 1 := ⟨n - 1, by omega⟩
    have i8 : i < 8 := by omega
    obtain ⟨z, hz, p1, q1⟩ := hS i i8
    have hz' : z.2 ≤ 9218868437227405312 := hz
    have l : nI i < 8 := (nI_ltI (b := 8) (by omega) (by omega)).mpr i8
    have e1 : f_X6_exponentOf (cC z) = nI (z.2 / 4503599627370496) - 1023 := m_expOf z.1 hz
    have e2 : f_X0_exponentOf (cB z) = nI (z.2 / 4503599627370496) - 1023 := x_expOf z.1 hz
    have t2 : (1023 : Int32).toInt = 1023 := rfl
    have tn : (nI (z.2 / 4503599627370496)).toInt = (z.2 / 4503599627370496 : Nat) := nI_toInt (by omega)
    have te : (nI (z.2 / 4503599627370496) - 1023).toInt = (z.2 / 4503599627370496 : Nat) - 1023 := by rw [fb_subI (by omega) (by omega), tn, t2]
    have ta : (k + (nI (z.2 / 4503599627370496) - 1023)).toInt = k.toInt + ((z.2 / 4503599627370496 : Nat) - 1023) := by rw [fb_addI (by omega) (by omega), te]
    rw [f_X5_meanExponent_L4, f_X6_meanExponent_L9, if_pos l, if_pos l, if_neg (sl_in i8), if_neg (sl_in i8), sl_cl i8, p1, q1, e1, e2, nI_1]
    exact ih n (i + 1) _ (by omega) (by omega) (by omega) (by omega)
theorem shr_tab : ∀ c, c < 9 → (FP.fdiv (FP.i2f (nI c)) 1090519040) &&& 0x7fffffff ≤ 0x7f800000 := by decide +kernel
theorem ok_share0 {v : SH} {w : StM} (h : Rel v.1 w) : ∃ (zH : UInt32) (zM : UInt32 × StM), f_X5_share v.1 = some zH ∧ f_X6_share w = some zM ∧ zH = zM.1 ∧ Rel v.1 zM.2 := by
  obtain ⟨c, hc, hr⟩ := x_cntS (v := v.1) (w := wt w 0) h.1 w 8 100 0 0 (by omega) (by omega) (by omega)
  obtain ⟨r1, r2⟩ := hr _ (if_neg (not_not_intro (shr_tab c (by omega))))
  exact ⟨_, (_, wt w 0), r1, r2, rfl, Rel_t h 0⟩
