theorem fa_lt (a b : Int32) : a < b ↔ a.toInt < b.toInt := Int32.lt_iff_toInt_lt
theorem fa_le (a b : Int32) : a ≤ b ↔ a.toInt ≤ b.toInt := Int32.le_iff_toInt_le
theorem fa_eq (a b : Int32) : a = b ↔ a.toInt = b.toInt := Int32.toInt_inj.symm
theorem fa_lt64 (a b : Int64) : a < b ↔ a.toInt < b.toInt := Int64.lt_iff_toInt_lt
theorem fa_le64 (a b : Int64) : a ≤ b ↔ a.toInt ≤ b.toInt := Int64.le_iff_toInt_le
theorem fa_eq64 (a b : Int64) : a = b ↔ a.toInt = b.toInt := Int64.toInt_inj.symm
theorem fb_andL (a b : Nat) : lN a &&& lN b = lN (a &&& b) := by
  apply Int64.toBitVec_inj.1
  show BitVec.ofNat 64 a &&& BitVec.ofNat 64 b = BitVec.ofNat 64 (a &&& b)
  apply BitVec.eq_of_getLsbD_eq
  intro i hi
  simp [hi]
theorem fb_orL (a b : Nat) : lN a ||| lN b = lN (a ||| b) := by
  apply Int64.toBitVec_inj.1
  show BitVec.ofNat 64 a ||| BitVec.ofNat 64 b = BitVec.ofNat 64 (a ||| b)
  apply BitVec.eq_of_getLsbD_eq
  intro i hi
  simp [hi]
theorem fb_xorL (a b : Nat) : lN a ^^^ lN b = lN (a ^^^ b) := by
  apply Int64.toBitVec_inj.1
  show BitVec.ofNat 64 a ^^^ BitVec.ofNat 64 b = BitVec.ofNat 64 (a ^^^ b)
  apply BitVec.eq_of_getLsbD_eq
  intro i hi
  simp [hi]
theorem fb_maskL (n k : Nat) : lN n &&& lN (2 ^ k - 1) = lN (n % 2 ^ k) := by rw [fb_andL, Nat.and_two_pow_sub_one_eq_mod]
theorem fb_or_sumL {a k : Nat} (b : Nat) (h : a < 2 ^ k) : lN (2 ^ k * b) ||| lN a = lN (2 ^ k * b + a) := by rw [fb_orL, Nat.two_pow_add_eq_or_of_lt h]
theorem fb_lN_inj {a b : Nat} (ha : a < 2 ^ 63) (hb : b < 2 ^ 63) : lN a = lN b ↔ a = b := by
  constructor
  · intro h
    have h1 : (BitVec.ofNat 64 a).toNat = (BitVec.ofNat 64 b).toNat := congrArg (fun x : Int64 => x.toBitVec.toNat) h
    rw [BitVec.toNat_ofNat, BitVec.toNat_ofNat, Nat.mod_eq_of_lt (by omega), Nat.mod_eq_of_lt (by omega)] at h1
    exact h1
  · rintro rfl; rfl
/-! ===== signed ints as whole numbers, within bounds ===== -/
theorem fb_rng (x : Int32) : -2147483648 ≤ x.toInt ∧ x.toInt < 2147483648 := by
  have h1 := Int32.le_toInt x
  have h2 := Int32.toInt_lt x
  omega
theorem fb_bmod {z : Int} (h1 : -2147483648 ≤ z) (h2 : z < 2147483648) : z.bmod (2 ^ 32) = z := by
  rw [Int.bmod_eq_of_le (by omega) (by omega)]
theorem fb_addI {x y : Int32} (h1 : -2147483648 ≤ x.toInt + y.toInt) (h2 : x.toInt + y.toInt < 2147483648) : (x + y).toInt = x.toInt + y.toInt := by
  rw [Int32.toInt_add, fb_bmod h1 h2]
theorem fb_subI {x y : Int32} (h1 : -2147483648 ≤ x.toInt - y.toInt) (h2 : x.toInt - y.toInt < 2147483648) : (x - y).toInt = x.toInt - y.toInt := by
  rw [Int32.toInt_sub, fb_bmod h1 h2]
theorem fb_mulI {x y : Int32} (h1 : -2147483648 ≤ x.toInt * y.toInt) (h2 : x.toInt * y.toInt < 2147483648) : (x * y).toInt = x.toInt * y.toInt := by
  rw [Int32.toInt_mul, fb_bmod h1 h2]
theorem fb_negI {x : Int32} (h : x.toInt ≠ -2147483648) : (-x).toInt = -x.toInt := by
  have := fb_rng x
  rw [Int32.toInt_neg, fb_bmod (by omega) (by omega)]
theorem fb_ofI {z : Int} (h1 : -2147483648 ≤ z) (h2 : z < 2147483648) : (Int32.ofInt z).toInt = z := by
  rw [Int32.toInt_ofInt, fb_bmod h1 h2]
theorem fb_asI (x : Int32) : Int32.ofInt x.toInt = x := Int32.ofInt_toInt x
theorem fb_rngL (x : Int64) : -9223372036854775808 ≤ x.toInt ∧ x.toInt < 9223372036854775808 := by
  have h1 := Int64.le_toInt x
  have h2 := Int64.toInt_lt x
  omega
theorem fb_bmodL {z : Int} (h1 : -9223372036854775808 ≤ z) (h2 : z < 9223372036854775808) : z.bmod (2 ^ 64) = z := by
  rw [Int.bmod_eq_of_le (by omega) (by omega)]
theorem fb_addL {x y : Int64} (h1 : -9223372036854775808 ≤ x.toInt + y.toInt) (h2 : x.toInt + y.toInt < 9223372036854775808) : (x + y).toInt = x.toInt + y.toInt := by
  rw [Int64.toInt_add, fb_bmodL h1 h2]
theorem fb_subL {x y : Int64} (h1 : -9223372036854775808 ≤ x.toInt - y.toInt) (h2 : x.toInt - y.toInt < 9223372036854775808) : (x - y).toInt = x.toInt - y.toInt := by
  rw [Int64.toInt_sub, fb_bmodL h1 h2]
theorem fb_mulL {x y : Int64} (h1 : -9223372036854775808 ≤ x.toInt * y.toInt) (h2 : x.toInt * y.toInt < 9223372036854775808) : (x * y).toInt = x.toInt * y.toInt := by
  rw [Int64.toInt_mul, fb_bmodL h1 h2]
/-! ===== lN n to 2^64: shifts, and, or, masks, one bit ===== -/
theorem wb_tb (n : Nat) : (lN n).toBitVec = BitVec.ofNat 64 n := rfl
theorem wb_inj {a b : Int64} (h : a.toBitVec = b.toBitVec) : a = b := Int64.toBitVec_inj.mp h
theorem wb_tn {n : Nat} (h : n < 2 ^ 64) : (lN n).toBitVec.toNat = n := by rw [wb_tb, BitVec.toNat_ofNat, Nat.mod_eq_of_lt h]
theorem wb_of (x : Int64) : ∃ n, n < 2 ^ 64 ∧ x = lN n := ⟨x.toBitVec.toNat, x.toBitVec.isLt, wb_inj (by rw [wb_tb]; simp)⟩
theorem wb_of32 (x : Int32) : ∃ n, n < 2 ^ 32 ∧ x = nI n := ⟨x.toBitVec.toNat, x.toBitVec.isLt, Int32.toBitVec_inj.mp (by show _ = BitVec.ofNat 32 _; simp)⟩
theorem wb_c : ∀ k, k < 64 → ((nI k).toInt64 &&& 63) = lN k := by decide +kernel
theorem wb_cu : ∀ k, k < 64 → ((nI k).toInt64.toUInt64 &&& Int64.toUInt64 63) = UInt64.ofNat k := by decide +kernel
theorem wb_sm : ∀ k, k < 64 → (BitVec.ofNat 64 k).smod 64 = BitVec.ofNat 64 k := by decide +kernel
theorem wb_pw {a b : Nat} (h : a ≤ b) : 2 ^ b = 2 ^ a * 2 ^ (b - a) := by rw [← Nat.pow_add]; congr 1; omega
theorem wb_lt2 {a b : Nat} (h : a < b) : 2 ^ a < 2 ^ b := Nat.pow_lt_pow_right (by decide) h
theorem wb_mod (n : Nat) : lN n = lN (n % 2 ^ 64) := wb_inj (by rw [wb_tb, wb_tb]; apply BitVec.eq_of_toNat_eq; rw [BitVec.toNat_ofNat, BitVec.toNat_ofNat, Nat.mod_mod])
theorem wb_shr {n k : Nat} (hn : n < 2 ^ 64) (hk : k < 64) : ((lN n).toUInt64 >>> ((nI k).toInt64.toUInt64 &&& Int64.toUInt64 63)).toInt64 = lN (n / 2 ^ k) := by
  rw [wb_cu k hk]
  apply wb_inj
  apply BitVec.eq_of_toNat_eq
  show ((lN n).toUInt64 >>> UInt64.ofNat k).toNat = (BitVec.ofNat 64 _).toNat
  have h1 : (UInt64.ofNat k).toNat = k := by
    show (BitVec.ofNat 64 k).toNat = k
    rw [BitVec.toNat_ofNat, Nat.mod_eq_of_lt (by omega)]
  have h2 : (lN n).toUInt64.toNat = n := wb_tn hn
  rw [UInt64.toNat_shiftRight, h1, h2, Nat.mod_eq_of_lt hk, Nat.shiftRight_eq_div_pow, BitVec.toNat_ofNat, Nat.mod_eq_of_lt (Nat.lt_of_le_of_lt (Nat.div_le_self _ _) hn)]
theorem wb_shl (n : Nat) {k : Nat} (hk : k < 64) : lN n <<< ((nI k).toInt64 &&& 63) = lN (n * 2 ^ k) := by
  rw [wb_c k hk]
  apply wb_inj
  rw [Int64.toBitVec_shiftLeft, wb_tb, wb_tb, wb_tb, wb_sm k hk]
  apply BitVec.eq_of_toNat_eq
  rw [BitVec.shiftLeft_eq', BitVec.toNat_shiftLeft, BitVec.toNat_ofNat, BitVec.toNat_ofNat, BitVec.toNat_ofNat, Nat.mod_eq_of_lt (show k < 2 ^ 64 by omega), Nat.shiftLeft_eq, Nat.mul_mod, Nat.mod_mod, ← Nat.mul_mod]
theorem wb_and {a b : Nat} (ha : a < 2 ^ 64) (hb : b < 2 ^ 64) : lN a &&& lN b = lN (a &&& b) := by
  apply wb_inj
  rw [Int64.toBitVec_and, wb_tb, wb_tb, wb_tb]
  apply BitVec.eq_of_toNat_eq
  rw [BitVec.toNat_and, BitVec.toNat_ofNat, BitVec.toNat_ofNat, BitVec.toNat_ofNat, Nat.mod_eq_of_lt ha, Nat.mod_eq_of_lt hb, Nat.mod_eq_of_lt (Nat.and_lt_two_pow _ hb)]
theorem wb_or {a b : Nat} (ha : a < 2 ^ 64) (hb : b < 2 ^ 64) : lN a ||| lN b = lN (a ||| b) := by
  apply wb_inj
  rw [Int64.toBitVec_or, wb_tb, wb_tb, wb_tb]
  apply BitVec.eq_of_toNat_eq
  rw [BitVec.toNat_or, BitVec.toNat_ofNat, BitVec.toNat_ofNat, BitVec.toNat_ofNat, Nat.mod_eq_of_lt ha, Nat.mod_eq_of_lt hb, Nat.mod_eq_of_lt (Nat.or_lt_two_pow ha hb)]
theorem wb_mask {n k : Nat} (hn : n < 2 ^ 64) (hk : k < 64) : lN n &&& lN (2 ^ k - 1) = lN (n % 2 ^ k) := by
  rw [wb_and hn (by have := wb_lt2 hk; omega), Nat.and_two_pow_sub_one_eq_mod]
theorem wb_a1 {n : Nat} (hn : n < 2 ^ 64) : lN n &&& 1 = lN (n % 2) := wb_mask (k := 1) hn (by decide)
theorem wb_bit {n k : Nat} (hn : n < 2 ^ 64) (hk : k < 64) : ((lN n).toUInt64 >>> ((nI k).toInt64.toUInt64 &&& Int64.toUInt64 63)).toInt64 &&& 1 = lN (n / 2 ^ k % 2) := by
  rw [wb_shr hn hk, wb_a1 (Nat.lt_of_le_of_lt (Nat.div_le_self _ _) hn)]
theorem wb_xor {q k : Nat} (hk : k < 63) (h : 2 ^ k ≤ q) (h2 : q < 2 ^ (k + 1)) : lN q ^^^ lN (2 ^ k) = lN (q - 2 ^ k) := by
  obtain ⟨r, rfl⟩ : ∃ r, q = 2 ^ k + r := ⟨q - 2 ^ k, by omega⟩
  have hr : r < 2 ^ k := by rw [Nat.pow_succ] at h2; omega
  have hx : (2 ^ k + r) ^^^ 2 ^ k = r := by
    apply Nat.eq_of_testBit_eq
    intro i
    rw [Nat.testBit_xor, Nat.testBit_two_pow]
    rcases Nat.lt_trichotomy i k with h | h | h
    · rw [Nat.testBit_two_pow_add_gt h]
      simp [show ¬ k = i by omega]
    · subst h
      rw [Nat.testBit_two_pow_add_eq]
      simp
    · have a1 : 2 ^ (k + 1) ≤ 2 ^ i := Nat.pow_le_pow_right (by decide) h
      rw [Nat.testBit_lt_two_pow (show 2 ^ k + r < 2 ^ i by omega), Nat.testBit_lt_two_pow (show r < 2 ^ i by omega)]
      simp [show ¬ k = i by omega]
  have b1 := wb_lt2 (show k + 1 < 64 by omega)
  have b2 := wb_lt2 (show k < 64 by omega)
  apply wb_inj
  rw [Int64.toBitVec_xor, wb_tb, wb_tb, wb_tb]
  apply BitVec.eq_of_toNat_eq
  rw [BitVec.toNat_xor, BitVec.toNat_ofNat, BitVec.toNat_ofNat, BitVec.toNat_ofNat, Nat.mod_eq_of_lt (by omega : 2 ^ k + r < 2 ^ 64), Nat.mod_eq_of_lt b2, hx, Nat.add_sub_cancel_left, Nat.mod_eq_of_lt (by omega)]
/-! ===== lN to 2^62 under >> and >>> ===== -/
theorem pf_lI {a : Nat} (h : a < 2 ^ 63) : (lN a).toInt = (a : Int) := lg_ofNat_toInt h
theorem pf_shr {a d : Nat} {D : Int64} (hD : (D.toBitVec.smod 64).toNat = d) (h : a < 2 ^ 62) : lN a >>> D = lN (a / 2 ^ d) := by
  have hd : a / 2 ^ d ≤ a := Nat.div_le_self _ _
  apply Int64.toInt_inj.mp
  have e : (lN a >>> D).toInt = (lN a).toInt >>> d := by
    rw [← hD]
    exact BitVec.toInt_sshiftRight ..
  rw [e, Int.shiftRight_eq_div_pow, pf_lI (by omega), pf_lI (by omega)]
  rfl
/-! numbers: a sign and a size; the class keeps the bits, the reference a code -/
def gB (s : Bool) (S : Nat) : Int64 := if s = true then lN (9223372036854775808 + S) else lN S
def gC (s : Bool) (S : Nat) : Int64 := if s = true then -1 - lN S else lN S
def gP (s : Bool) (S : Nat) : Int := if s = true then -(S : Int) else S
def wh (S : Nat) : Nat := if S < 4503599627370496 then S else 4503599627370496 + S % 4503599627370496
def sh (S : Nat) : Nat := if S < 4503599627370496 then 0 else S / 4503599627370496 - 1
theorem Lti {n : Nat} (h : n < 9223372036854775808) : (lN n).toInt = (n : Int) := pf_lI h
theorem L_0 : (0 : Int64).toInt = 0 := rfl
theorem L_min : (-9223372036854775808 : Int64).toInt = -9223372036854775808 := by decide +kernel
theorem L_m1 : (-1 : Int64).toInt = -1 := by decide +kernel
theorem L_minN : (-9223372036854775808 : Int64) = lN 9223372036854775808 := by decide +kernel
theorem L_lt0 (x : Int64) : x < 0 ↔ x.toInt < 0 := by rw [fa_lt64, L_0]
theorem L_lit {n : Nat} (h : n < 9223372036854775808) : (OfNat.ofNat n : Int64).toInt = (n : Int) := pf_lI h
theorem gB_f (S : Nat) : gB false S = lN S := rfl
theorem gB_t (S : Nat) : gB true S = lN (9223372036854775808 + S) := rfl
theorem gC_f (S : Nat) : gC false S = lN S := rfl
theorem gC_t (S : Nat) : gC true S = -1 - lN S := rfl
theorem gP_f (S : Nat) : gP false S = S := rfl
theorem gP_t (S : Nat) : gP true S = -(S : Int) := rfl
theorem gP_n (s : Bool) (S : Nat) : gP (!s) S = - gP s S := by cases s <;> simp [gP]
theorem gP_b (s : Bool) (S : Nat) {M : Nat} (h : S ≤ M) : -(M : Int) ≤ gP s S ∧ gP s S ≤ M := by cases s <;> simp only [gP_f, gP_t] <;> omega
theorem gP_abs (s : Bool) (S : Nat) : (gP s S).natAbs = S := by cases s <;> simp [gP]
theorem gB_fT {S : Nat} (h : S < 9223372036854775808) : (gB false S).toInt = S := Lti h
theorem gB_tT {S : Nat} (h : S < 9223372036854775808) : (gB true S).toInt = (S : Int) - 9223372036854775808 := by
  have e : gB true S = lN 9223372036854775808 + lN S := (lN_add 9223372036854775808 S).symm
  have a : (lN 9223372036854775808).toInt = -9223372036854775808 := by decide +kernel
  have b := Lti h
  rw [e, fb_addL (by omega) (by omega), a, b]
  omega
theorem gC_fT {S : Nat} (h : S < 9223372036854775808) : (gC false S).toInt = S := Lti h
theorem gC_tT {S : Nat} (h : S < 9223372036854775808) : (gC true S).toInt = -1 - (S : Int) := by
  have b := Lti h
  have a := L_m1
  show (-1 - lN S).toInt = _
  rw [fb_subL (by omega) (by omega), a, b]
theorem gB_neg {s : Bool} {S : Nat} (h : S < 9223372036854775808) : gB s S < 0 ↔ s = true := by
  rw [L_lt0]
  cases s
  · rw [gB_fT h]; simp
  · rw [gB_tT h]; simp; omega
theorem gC_neg {s : Bool} {S : Nat} (h : S < 9223372036854775808) : gC s S < 0 ↔ s = true := by
  rw [L_lt0]
  cases s
  · rw [gC_fT h]; simp
  · rw [gC_tT h]; simp; omega
theorem gB_inj {s t : Bool} {S T : Nat} (h : S < 9223372036854775808) (k : T < 9223372036854775808) : gB s S = gB t T ↔ s = t ∧ S = T := by
  constructor
  · intro e
    have e2 := congrArg Int64.toInt e
    cases s <;> cases t <;> simp only [gB_fT h, gB_tT h, gB_fT k, gB_tT k] at e2 <;> refine ⟨?_, ?_⟩ <;> first | rfl | omega
  · rintro ⟨rfl, rfl⟩; rfl
theorem gC_inj {s t : Bool} {S T : Nat} (h : S < 9223372036854775808) (k : T < 9223372036854775808) : gC s S = gC t T ↔ s = t ∧ S = T := by
  constructor
  · intro e
    have e2 := congrArg Int64.toInt e
    cases s <;> cases t <;> simp only [gC_fT h, gC_tT h, gC_fT k, gC_tT k] at e2 <;> refine ⟨?_, ?_⟩ <;> first | rfl | omega
  · rintro ⟨rfl, rfl⟩; rfl
/-- the number at a place -/
def gQ (z : Int) : Bool × Nat := (decide (z < 0), z.natAbs)
theorem gQ_P (z : Int) : gP (gQ z).1 (gQ z).2 = z := by
  unfold gQ gP
  by_cases h : z < 0
  · simp only [h, decide_true, if_true]; omega
  · simp only [h, decide_false, Bool.false_eq_true, if_false]; omega
theorem x_place (s : Bool) {S : Nat} (h : S ≤ 9218868437227405312) : (f_X0_placeOf (gB s S)).toInt = gP s S := by
  unfold f_X0_placeOf
  cases s
  · rw [if_neg (by rw [gB_neg (by omega)]; simp), gB_fT (by omega)]; rfl
  · have a := L_min
    have b := gB_tT (S := S) (by omega)
    rw [if_pos (by rw [gB_neg (by omega)]), fb_subL (by omega) (by omega), a, b]
    simp only [gP_t]; omega
theorem m_place (s : Bool) {S : Nat} (h : S ≤ 9218868437227405312) : (f_X6_placeOf (gC s S)).toInt = gP s S := by
  unfold f_X6_placeOf
  cases s
  · rw [if_neg (by rw [gC_neg (by omega)]; simp), gC_fT (by omega)]; rfl
  · have b := gC_tT (S := S) (by omega)
    have a : (1 : Int64).toInt = 1 := rfl
    rw [if_pos (by rw [gC_neg (by omega)]), fb_addL (by omega) (by omega), a, b]
    simp only [gP_t]; omega
theorem xm_place (s : Bool) {S : Nat} (h : S ≤ 9218868437227405312) : f_X0_placeOf (gB s S) = f_X6_placeOf (gC s S) := by
  rw [fa_eq64, x_place s h, m_place s h]
theorem x_at {z : Int64} (h1 : -9218868437227405312 ≤ z.toInt) (h2 : z.toInt ≤ 9218868437227405312) : f_X0_atPlace z = gB (gQ z.toInt).1 (gQ z.toInt).2 := by
  unfold f_X0_atPlace gQ
  by_cases h : z.toInt < 0
  · have a := L_min
    rw [if_pos ((L_lt0 z).mpr h), decide_eq_true h, fa_eq64, gB_tT (by omega), fb_subL (by omega) (by omega), a]
    omega
  · rw [if_neg (fun e => h ((L_lt0 z).mp e)), decide_eq_false h, fa_eq64, gB_fT (by omega)]
    omega
theorem m_code {z : Int64} (h1 : -9218868437227405312 ≤ z.toInt) (h2 : z.toInt ≤ 9218868437227405312) : f_X6_codeOf z = gC (gQ z.toInt).1 (gQ z.toInt).2 := by
  unfold f_X6_codeOf gQ
  have a : (1 : Int64).toInt = 1 := rfl
  by_cases h : z.toInt < 0
  · rw [if_pos ((L_lt0 z).mpr h), decide_eq_true h, fa_eq64, gC_tT (by omega), fb_subL (by omega) (by omega), a]
    omega
  · rw [if_neg (fun e => h ((L_lt0 z).mp e)), decide_eq_false h, fa_eq64, gC_fT (by omega)]
    omega
theorem x_opp (s : Bool) {S : Nat} (h : S ≤ 9218868437227405312) : f_X0_opposite (gB s S) = gB (!s) S := by
  have k : ∀ x : Nat, x < 2 ^ 63 → (2 ^ 63 + x) ^^^ 2 ^ 63 = x := by
    intro x hx
    apply Nat.eq_of_testBit_eq
    intro i
    rw [Nat.testBit_xor, Nat.testBit_two_pow]
    rcases Nat.lt_trichotomy i 63 with h | h | h
    · rw [Nat.testBit_two_pow_add_gt h]
      simp [show ¬ 63 = i by omega]
    · subst h
      rw [Nat.testBit_two_pow_add_eq]
      simp
    · have a1 : 2 ^ 64 ≤ 2 ^ i := Nat.pow_le_pow_right (by decide) h
      rw [Nat.testBit_lt_two_pow (show 2 ^ 63 + x < 2 ^ i by omega), Nat.testBit_lt_two_pow (show x < 2 ^ i by omega)]
      simp [show ¬ 63 = i by omega]
  unfold f_X0_opposite
  rw [L_minN]
  cases s
  · show lN S ^^^ lN 9223372036854775808 = lN (9223372036854775808 + S)
    rw [fb_xorL]
    have e := k S (by omega)
    have e2 : S ^^^ 2 ^ 63 = 2 ^ 63 + S := by
      have e3 := congrArg (fun t => t ^^^ 2 ^ 63) e
      simp only [Nat.xor_assoc, Nat.xor_self, Nat.xor_zero] at e3
      exact e3.symm
    exact congrArg lN e2
  · show lN (9223372036854775808 + S) ^^^ lN 9223372036854775808 = lN S
    rw [fb_xorL]
    exact congrArg lN (k S (by omega))
theorem m_opp (s : Bool) {S : Nat} (h : S ≤ 9218868437227405312) : f_X6_opposite (gC s S) = gC (!s) S := by
  unfold f_X6_opposite
  have a := L_m1
  rw [fa_eq64]
  cases s
  · have b := gC_fT (S := S) (by omega)
    rw [fb_subL (by omega) (by omega), a, b, Bool.not_false, gC_tT (by omega)]
  · have b := gC_tT (S := S) (by omega)
    rw [fb_subL (by omega) (by omega), a, b, Bool.not_true, gC_fT (by omega)]
    omega
theorem x_size (s : Bool) {S : Nat} (h : S ≤ 9218868437227405312) : f_X0_sizeOf (gB s S) = lN S := by
  unfold f_X0_sizeOf
  show _ &&& lN (2 ^ 63 - 1) = _
  cases s
  · rw [gB_f, wb_mask (by omega) (by omega), Nat.mod_eq_of_lt (by omega)]
  · rw [gB_t, wb_mask (by omega) (by omega)]
    congr 1
    omega
theorem m_size (s : Bool) {S : Nat} (h : S ≤ 9218868437227405312) : f_X6_size (gC s S) = lN S := by
  unfold f_X6_size
  cases s
  · rw [if_neg (by rw [gC_neg (by omega)]; simp)]; rfl
  · have a := L_m1
    have b := gC_tT (S := S) (by omega)
    rw [if_pos (by rw [gC_neg (by omega)]), fa_eq64, fb_subL (by omega) (by omega), a, b, Lti (by omega)]
    omega
theorem L_eq {a b : Nat} (ha : a < 9223372036854775808) (hb : b < 9223372036854775808) : lN a = lN b ↔ a = b := fb_lN_inj ha hb
theorem x_isZero (s : Bool) {S : Nat} (h : S ≤ 9218868437227405312) : f_X0_isZero (gB s S) = decide (S = 0) := by
  unfold f_X0_isZero
  rw [x_size s h]
  by_cases e : S = 0
  · subst e; rfl
  · rw [if_neg (show ¬ lN S = 0 from fun k => e ((L_eq (a := S) (b := 0) (by omega) (by omega)).mp k)), decide_eq_false e]
theorem x_noEnd (s : Bool) {S : Nat} (h : S ≤ 9218868437227405312) : f_X0_hasNoEnd (gB s S) = decide (S = 9218868437227405312) := by
  unfold f_X0_hasNoEnd
  rw [x_size s h]
  by_cases e : S = 9218868437227405312
  · subst e; rfl
  · rw [if_neg (show ¬ lN S = 9218868437227405312 from fun k => e ((L_eq (a := S) (b := 9218868437227405312) (by omega) (by omega)).mp k)), decide_eq_false e]
theorem m_isEnd (s : Bool) {S : Nat} (h : S ≤ 9218868437227405312) : f_X6_isEnd (gC s S) = decide (S = 9218868437227405312) := by
  unfold f_X6_isEnd
  rw [m_size s h]
  by_cases e : S = 9218868437227405312
  · subst e; rfl
  · rw [if_neg (show ¬ lN S = 9218868437227405312 from fun k => e ((L_eq (a := S) (b := 9218868437227405312) (by omega) (by omega)).mp k)), decide_eq_false e]
theorem m_isNothing (s : Bool) {S : Nat} (h : S ≤ 9218868437227405312) : f_X6_isNothing (gC s S) = decide (S = 0) := by
  unfold f_X6_isNothing
  rw [m_size s h]
  by_cases e : S = 0
  · subst e; rfl
  · rw [if_neg (show ¬ lN S = 0 from fun k => e ((L_eq (a := S) (b := 0) (by omega) (by omega)).mp k)), decide_eq_false e]
theorem m_bitsOf (s : Bool) {S : Nat} (h : S ≤ 9218868437227405312) : f_X6_bitsOf (gC s S) = gB s S := by
  unfold f_X6_bitsOf
  cases s
  · rw [if_neg (by rw [gC_neg (by omega)]; simp), gC_f, gB_f]
  · have a := L_min
    have b := m_place true h
    rw [gP_t] at b
    rw [if_pos (by rw [gC_neg (by omega)]), fa_eq64, fb_subL (by omega) (by omega), a, b, gB_tT (by omega)]
    omega
/-! one step up, n steps up -/
def up1 (v : Bool × Nat) : Bool × Nat := if gP v.1 v.2 = 9218868437227405312 then v else if gP v.1 v.2 = -1 then (true, 0) else gQ (gP v.1 v.2 + 1)
def upn (v : Bool × Nat) (n : Nat) : Bool × Nat := if (9218868437227405312 : Int) < gP v.1 v.2 + n then (false, 9218868437227405312) else if 0 < n ∧ gP v.1 v.2 + n = 0 then (true, 0) else if n = 0 then v else gQ (gP v.1 v.2 + n)
def opp (v : Bool × Nat) : Bool × Nat := (!v.1, v.2)
theorem opp_opp (v : Bool × Nat) : opp (opp v) = v := by cases v; simp [opp]
theorem opp_2 (v : Bool × Nat) : (opp v).2 = v.2 := rfl
theorem gQ_le {z : Int} {M : Nat} (h1 : -(M : Int) ≤ z) (h2 : z ≤ M) : (gQ z).2 ≤ M := by unfold gQ; simp only; omega
theorem upn_0 (v : Bool × Nat) (h : v.2 ≤ 9218868437227405312) : upn v 0 = v := by
  have b := gP_b v.1 v.2 h
  unfold upn
  rw [if_neg (by omega), if_neg (by omega), if_pos rfl]
theorem upn_le (v : Bool × Nat) (n : Nat) (h : v.2 ≤ 9218868437227405312) : (upn v n).2 ≤ 9218868437227405312 := by
  have b := gP_b v.1 v.2 h
  unfold upn
  by_cases c1 : (9218868437227405312 : Int) < gP v.1 v.2 + n
  · rw [if_pos c1]; exact Nat.le_refl _
  · rw [if_neg c1]
    by_cases c2 : 0 < n ∧ gP v.1 v.2 + n = 0
    · rw [if_pos c2]; exact Nat.zero_le _
    · rw [if_neg c2]
      by_cases c3 : n = 0
      · rw [if_pos c3]; exact h
      · rw [if_neg c3]; exact gQ_le (by omega) (by omega)
theorem upn_P (v : Bool × Nat) (n : Nat) (h : v.2 ≤ 9218868437227405312) : gP (upn v n).1 (upn v n).2 = if (9218868437227405312 : Int) < gP v.1 v.2 + n then (9218868437227405312 : Int) else gP v.1 v.2 + n := by
  have b := gP_b v.1 v.2 h
  unfold upn
  by_cases c1 : (9218868437227405312 : Int) < gP v.1 v.2 + n
  · rw [if_pos c1, if_pos c1]; rfl
  · rw [if_neg c1, if_neg c1]
    by_cases c2 : 0 < n ∧ gP v.1 v.2 + n = 0
    · rw [if_pos c2, c2.2]; rfl
    · rw [if_neg c2]
      by_cases c3 : n = 0
      · rw [if_pos c3]; subst c3; omega
      · rw [if_neg c3, gQ_P]
theorem upn_s (v : Bool × Nat) (n : Nat) (h : v.2 ≤ 9218868437227405312) : up1 (upn v n) = upn v (n + 1) := by
  have b := gP_b v.1 v.2 h
  have e := upn_P v n h
  by_cases c1 : (9218868437227405312 : Int) < gP v.1 v.2 + n
  · have e1 : upn v n = (false, 9218868437227405312) := by unfold upn; rw [if_pos c1]
    have e2 : upn v (n + 1) = (false, 9218868437227405312) := by unfold upn; rw [if_pos (by omega)]
    rw [e1, e2]; unfold up1; rw [if_pos (show gP (false, 9218868437227405312).1 (false, 9218868437227405312).2 = 9218868437227405312 from rfl)]
  · rw [if_neg c1] at e
    by_cases c2 : gP v.1 v.2 + n = 9218868437227405312
    · have e2 : upn v (n + 1) = (false, 9218868437227405312) := by unfold upn; rw [if_pos (by omega)]
      have e1 : upn v n = (false, 9218868437227405312) := by
        have hs : (upn v n).1 = false := by
          cases hb : (upn v n).1
          · rfl
          · rw [hb, gP_t] at e; omega
        have hS : (upn v n).2 = 9218868437227405312 := by rw [hs, gP_f] at e; omega
        exact Prod.ext hs hS
      rw [e1, e2]; unfold up1; rw [if_pos (show gP (false, 9218868437227405312).1 (false, 9218868437227405312).2 = 9218868437227405312 from rfl)]
    · unfold up1
      rw [e, if_neg c2]
      by_cases c3 : gP v.1 v.2 + n = -1
      · rw [if_pos c3]; unfold upn; rw [if_neg (by omega), if_pos (by omega)]
      · rw [if_neg c3]; unfold upn
        rw [if_neg (by omega), if_neg (by omega), if_neg (by omega)]
        congr 1
        omega
theorem m_above (v : Bool × Nat) (h : v.2 ≤ 9218868437227405312) : f_X6_above (gC v.1 v.2) = gC (up1 v).1 (up1 v).2 := by
  have b := gP_b v.1 v.2 h
  have e := m_place v.1 h
  have a1 : (1 : Int64).toInt = 1 := rfl
  have a2 : (9218868437227405312 : Int64).toInt = 9218868437227405312 := rfl
  unfold f_X6_above up1
  by_cases c1 : gP v.1 v.2 = 9218868437227405312
  · rw [if_pos c1, if_pos (by rw [fa_eq64, e, c1, a2])]
  · rw [if_neg c1, if_neg (by rw [fa_eq64, e, a2]; exact c1)]
    by_cases c2 : gP v.1 v.2 = -1
    · rw [if_pos c2, if_pos (by rw [fa_eq64, e, c2, L_m1])]; rfl
    · have e3 : (f_X6_placeOf (gC v.1 v.2) + 1).toInt = gP v.1 v.2 + 1 := by rw [fb_addL (by omega) (by omega), e, a1]
      rw [if_neg c2, if_neg (by rw [fa_eq64, e, L_m1]; exact c2), m_code (by omega) (by omega), e3]
theorem m_below (v : Bool × Nat) (h : v.2 ≤ 9218868437227405312) : f_X6_below (gC v.1 v.2) = gC (opp (up1 (opp v))).1 (opp (up1 (opp v))).2 := by
  have k : (up1 (opp v)).2 ≤ 9218868437227405312 := by
    have e := upn_s (opp v) 0 h
    rw [upn_0 (opp v) h] at e
    rw [e]; exact upn_le _ _ h
  unfold f_X6_below
  rw [m_opp v.1 h, show gC (!v.1) v.2 = gC (opp v).1 (opp v).2 from rfl, m_above (opp v) h, m_opp _ k]
  rfl
theorem x_raised (v : Bool × Nat) (h : v.2 ≤ 9218868437227405312) {a : Int32} {n : Nat} (ha : a.toInt = n) (hn : n < 2147483648) : f_X0_raised (gB v.1 v.2) a = gB (upn v n).1 (upn v n).2 := by
  have b := gP_b v.1 v.2 h
  have e := x_place v.1 h
  have w : a.toInt64.toInt = n := by rw [Int32.toInt_toInt64, ha]
  have a2 : (9218868437227405312 : Int64).toInt = 9218868437227405312 := rfl
  have e1 : (9218868437227405312 - a.toInt64).toInt = 9218868437227405312 - n := by rw [fb_subL (by omega) (by omega), a2, w]
  have z0 : (0 : Int32).toInt = 0 := rfl
  unfold f_X0_raised upn
  by_cases c1 : (9218868437227405312 : Int) < gP v.1 v.2 + n
  · rw [if_pos c1, if_pos (by rw [fa_lt64, e1, e]; omega)]; rfl
  · have e2 : (f_X0_placeOf (gB v.1 v.2) + a.toInt64).toInt = gP v.1 v.2 + n := by rw [fb_addL (by omega) (by omega), e, w]
    rw [if_neg c1, if_neg (by rw [fa_lt64, e1, e]; omega)]
    by_cases c3 : n = 0
    · rw [if_neg (show ¬ (0 : Int32) < a by rw [fa_lt, z0, ha]; omega), if_neg (show ¬ (0 < n ∧ gP v.1 v.2 + n = 0) by omega), if_pos c3, if_pos (show a = 0 by rw [fa_eq, z0, ha]; omega)]
    · rw [if_pos (show (0 : Int32) < a by rw [fa_lt, z0, ha]; omega)]
      by_cases c2 : gP v.1 v.2 + n = 0
      · rw [if_pos (show 0 < n ∧ gP v.1 v.2 + n = 0 from And.intro (by omega) c2), if_pos (show f_X0_placeOf (gB v.1 v.2) + a.toInt64 = 0 by rw [fa_eq64, e2, c2]; rfl)]
        exact L_minN
      · rw [if_neg (show ¬ f_X0_placeOf (gB v.1 v.2) + a.toInt64 = 0 by rw [fa_eq64, e2]; exact c2), if_neg (show ¬ a = 0 by rw [fa_eq, z0, ha]; omega), if_neg (show ¬ (0 < n ∧ gP v.1 v.2 + n = 0) by omega), if_neg c3, x_at (by omega) (by omega), e2]
theorem x_lowered (v : Bool × Nat) (h : v.2 ≤ 9218868437227405312) {a : Int32} {n : Nat} (ha : a.toInt = n) (hn : n < 2147483648) : f_X0_lowered (gB v.1 v.2) a = gB (opp (upn (opp v) n)).1 (opp (upn (opp v) n)).2 := by
  unfold f_X0_lowered
  rw [x_opp v.1 h, show gB (!v.1) v.2 = gB (opp v).1 (opp v).2 from rfl, x_raised (opp v) h ha hn, x_opp _ (upn_le (opp v) n h)]
  rfl
