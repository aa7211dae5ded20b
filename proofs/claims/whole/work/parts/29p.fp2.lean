/-! share and mean exponent, whole: tables -/
theorem shr_tab2 : ∀ c, c < 9 → (FP.f2d (FP.fdiv (FP.i2f (nI c)) 1090519040)) &&& 0x7fffffffffffffff ≤ 0x7ff0000000000000 ∧ Op.cmpValue (FP.dcmp (FP.f2d (FP.fdiv (FP.i2f (nI c)) 1090519040)) (FP.f2d (FP.fdiv (FP.i2f (nI c)) 1090519040))) .l = 0 := by decide +kernel
theorem ok_share {v : SH} {w : StM} (h : Rel v.1 w) : ∃ (zH : UInt32) (zM : UInt32 × StM), f_X5_share v.1 = some zH ∧ f_X6_share w = some zM ∧ vf_n64 (FP.f2d zH) ∧ Op.cmpValue (FP.dcmp (FP.f2d zH) (FP.f2d zM.1)) .l = 0 ∧ zH = zM.1 ∧ Rel v.1 zM.2 := by
  obtain ⟨c, hc, hr⟩ := x_cntS (v := v.1) (w := wt w 0) h.1 w 8 100 0 0 (by omega) (by omega) (by omega)
  obtain ⟨r1, r2⟩ := hr _ (if_neg (not_not_intro (shr_tab c (by omega))))
  have t := shr_tab2 c (by omega)
  exact ⟨_, (_, wt w 0), r1, r2, t.1, t.2, rfl, Rel_t h 0⟩
abbrev mn_P (n : Nat) : Prop := (FP.ddiv (FP.i2d (nI n - 8184)) 4620693217682128896) &&& 0x7fffffffffffffff ≤ 0x7ff0000000000000 ∧ Op.cmpValue (FP.dcmp (FP.ddiv (FP.i2d (nI n - 8184)) 4620693217682128896) (FP.ddiv (FP.i2d (nI n - 8184)) 4620693217682128896)) .l = 0
theorem mn_t0 : ∀ i, i < 32 → ∀ j, j < 32 → mn_P (0 + i * 32 + j) := by decide +kernel
theorem mn_t1 : ∀ i, i < 32 → ∀ j, j < 32 → mn_P (1024 + i * 32 + j) := by decide +kernel
theorem mn_t2 : ∀ i, i < 32 → ∀ j, j < 32 → mn_P (2048 + i * 32 + j) := by decide +kernel
theorem mn_t3 : ∀ i, i < 32 → ∀ j, j < 32 → mn_P (3072 + i * 32 + j) := by decide +kernel
theorem mn_t4 : ∀ i, i < 32 → ∀ j, j < 32 → mn_P (4096 + i * 32 + j) := by decide +kernel
theorem mn_t5 : ∀ i, i < 32 → ∀ j, j < 32 → mn_P (5120 + i * 32 + j) := by decide +kernel
theorem mn_t6 : ∀ i, i < 32 → ∀ j, j < 32 → mn_P (6144 + i * 32 + j) := by decide +kernel
theorem mn_t7 : ∀ i, i < 32 → ∀ j, j < 32 → mn_P (7168 + i * 32 + j) := by decide +kernel
theorem mn_t8 : ∀ i, i < 32 → ∀ j, j < 32 → mn_P (8192 + i * 32 + j) := by decide +kernel
theorem mn_t9 : ∀ i, i < 32 → ∀ j, j < 32 → mn_P (9216 + i * 32 + j) := by decide +kernel
theorem mn_t10 : ∀ i, i < 32 → ∀ j, j < 32 → mn_P (10240 + i * 32 + j) := by decide +kernel
theorem mn_t11 : ∀ i, i < 32 → ∀ j, j < 32 → mn_P (11264 + i * 32 + j) := by decide +kernel
theorem mn_t12 : ∀ i, i < 32 → ∀ j, j < 32 → mn_P (12288 + i * 32 + j) := by decide +kernel
theorem mn_t13 : ∀ i, i < 32 → ∀ j, j < 32 → mn_P (13312 + i * 32 + j) := by decide +kernel
theorem mn_t14 : ∀ i, i < 32 → ∀ j, j < 32 → mn_P (14336 + i * 32 + j) := by decide +kernel
theorem mn_t15 : ∀ i, i < 32 → ∀ j, j < 32 → mn_P (15360 + i * 32 + j) := by decide +kernel
theorem mn_all {n : Nat} (h : n < 16384) : mn_P n := by
  have a1 : n % 1024 / 32 < 32 := by omega
  have a2 : n % 32 < 32 := by omega
  rcases (show n / 1024 = 0 ∨ n / 1024 = 1 ∨ n / 1024 = 2 ∨ n / 1024 = 3 ∨ n / 1024 = 4 ∨ n / 1024 = 5 ∨ n / 1024 = 6 ∨ n / 1024 = 7 ∨ n / 1024 = 8 ∨ n / 1024 = 9 ∨ n / 1024 = 10 ∨ n / 1024 = 11 ∨ n / 1024 = 12 ∨ n / 1024 = 13 ∨ n / 1024 = 14 ∨ n / 1024 = 15 by omega) with c | c | c | c | c | c | c | c | c | c | c | c | c | c | c | c
  · have t := mn_t0 _ a1 _ a2
    rw [show 0 + n % 1024 / 32 * 32 + n % 32 = n by omega] at t
    exact t
  · have t := mn_t1 _ a1 _ a2
    rw [show 1024 + n % 1024 / 32 * 32 + n % 32 = n by omega] at t
    exact t
  · have t := mn_t2 _ a1 _ a2
    rw [show 2048 + n % 1024 / 32 * 32 + n % 32 = n by omega] at t
    exact t
  · have t := mn_t3 _ a1 _ a2
    rw [show 3072 + n % 1024 / 32 * 32 + n % 32 = n by omega] at t
    exact t
  · have t := mn_t4 _ a1 _ a2
    rw [show 4096 + n % 1024 / 32 * 32 + n % 32 = n by omega] at t
    exact t
  · have t := mn_t5 _ a1 _ a2
    rw [show 5120 + n % 1024 / 32 * 32 + n % 32 = n by omega] at t
    exact t
  · have t := mn_t6 _ a1 _ a2
    rw [show 6144 + n % 1024 / 32 * 32 + n % 32 = n by omega] at t
    exact t
  · have t := mn_t7 _ a1 _ a2
    rw [show 7168 + n % 1024 / 32 * 32 + n % 32 = n by omega] at t
    exact t
  · have t := mn_t8 _ a1 _ a2
    rw [show 8192 + n % 1024 / 32 * 32 + n % 32 = n by omega] at t
    exact t
  · have t := mn_t9 _ a1 _ a2
    rw [show 9216 + n % 1024 / 32 * 32 + n % 32 = n by omega] at t
    exact t
  · have t := mn_t10 _ a1 _ a2
    rw [show 10240 + n % 1024 / 32 * 32 + n % 32 = n by omega] at t
    exact t
  · have t := mn_t11 _ a1 _ a2
    rw [show 11264 + n % 1024 / 32 * 32 + n % 32 = n by omega] at t
    exact t
  · have t := mn_t12 _ a1 _ a2
    rw [show 12288 + n % 1024 / 32 * 32 + n % 32 = n by omega] at t
    exact t
  · have t := mn_t13 _ a1 _ a2
    rw [show 13312 + n % 1024 / 32 * 32 + n % 32 = n by omega] at t
    exact t
  · have t := mn_t14 _ a1 _ a2
    rw [show 14336 + n % 1024 / 32 * 32 + n % 32 = n by omega] at t
    exact t
  · have t := mn_t15 _ a1 _ a2
    rw [show 15360 + n % 1024 / 32 * 32 + n % 32 = n by omega] at t
    exact t
theorem ok_meanExponent {v : SH} {w : StM} (h : Rel v.1 w) : ∃ (zH : UInt64) (zM : UInt64 × StM), f_X5_meanExponent v.1 = some zH ∧ f_X6_meanExponent w = some zM ∧ vf_n64 zH ∧ Op.cmpValue (FP.dcmp zH zM.1) .l = 0 ∧ zH = zM.1 ∧ Rel v.1 zM.2 := by
  obtain ⟨c, c1, c2, hr⟩ := x_cntM (v := v.1) (w := wt w 0) h.1 w 8 100 0 0 (by omega) (by omega) (by decide) (by decide)
  have t8 : (8184 : Int32).toInt = 8184 := rfl
  obtain ⟨n, hn⟩ : ∃ n : Nat, c.toInt + 8184 = n := ⟨(c.toInt + 8184).toNat, by omega⟩
  have ec : c = nI n - 8184 := by
    rw [fa_eq, fb_subI (by rw [nI_toInt (by omega), t8]; omega) (by rw [nI_toInt (by omega), t8]; omega), nI_toInt (by omega), t8]
    omega
  have t := mn_all (n := n) (by omega)
  unfold mn_P at t
  rw [← ec] at t
  obtain ⟨r1, r2⟩ := hr _ (if_neg (not_not_intro t.1))
  exact ⟨_, (_, wt w 0), r1, r2, t.1, t.2, rfl, Rel_t h 0⟩
