theorem jiu {a : Nat} (h : a < 2 ^ 32) (s : Int32) (k : Nat) (hs : ((s.toUInt32 &&& Int32.toUInt32 31).toBitVec % 32).toNat = k) : jiushr (nI a) s = nI (a / 2 ^ k) := pk_ushrN h s k hs
theorem nlz_leaf {w v t : Nat} (ht : v = w / 2 ^ t) (h1 : 1 ≤ v) (h4 : v < 4) : w.log2 = t + v / 2 := by
  have h0 : w ≠ 0 := by intro e; subst e; rw [Nat.zero_div] at ht; omega
  have p := Nat.two_pow_pos t
  have a := Nat.div_add_mod w (2 ^ t)
  have b := Nat.mod_lt w p
  rw [← ht] at a
  apply (Nat.log2_eq_iff h0).mpr
  generalize w % 2 ^ t = r at a b
  rcases (show v = 1 ∨ v = 2 ∨ v = 3 by omega) with e | e | e <;> subst e
  · rw [show t + 1 / 2 = t by omega, Nat.pow_succ]; omega
  · rw [show t + 2 / 2 = t + 1 by omega, Nat.pow_succ, Nat.pow_succ]; omega
  · rw [show t + 3 / 2 = t + 1 by omega, Nat.pow_succ, Nat.pow_succ]; omega
set_option maxRecDepth 4000 in
theorem x_nlz32 {w : Nat} (h0 : 0 < w) (h : w < 2 ^ 32) : f_J6_numberOfLeadingZeros_0f7a4 (nI w) = nI (31 - w.log2) := by
  unfold f_J6_numberOfLeadingZeros_0f7a4
  by_cases hs : w < 2 ^ 31
  · rw [if_pos (show (0 : Int32) < nI w from (nI_ltI (a := 0) (b := w) (by omega) (by omega)).mpr h0)]
    by_cases c0 : (w) < 65536
    · rw [if_pos (by show nI (w) < nI 65536; rw [nI_ltI (by omega) (by omega)]; omega)]
      by_cases c1 : (w) < 256
      · rw [if_pos (by show nI (w) < nI 256; rw [nI_ltI (by omega) (by omega)]; omega)]
        by_cases c2 : (w) < 16
        · rw [if_pos (by show nI (w) < nI 16; rw [nI_ltI (by omega) (by omega)]; omega)]
          by_cases c3 : (w) < 4
          · rw [if_pos (by show nI (w) < nI 4; rw [nI_ltI (by omega) (by omega)]; omega)]
            have e9 : jiushr (nI (w)) 1 = nI ((w) / 2 ^ 1) := jiu (by omega) 1 1 (by decide +kernel)
            rw [e9, nlz_leaf (w := w) (v := w) (t := 0) (by omega) (by omega) (by omega)]
            rcases (show (w) / 2 = 0 ∨ (w) / 2 = 1 by omega) with e | e <;> rw [show (w) / 2 ^ 1 = (w) / 2 from rfl, e] <;> decide
          · rw [if_neg (by show ¬ (nI (w) < nI 4); rw [nI_ltI (by omega) (by omega)]; omega)]
            have e3 : jiushr (nI (w)) 2 = nI (w / 4) := (jiu (by omega) 2 2 (by decide +kernel)).trans (congrArg nI (by omega))
            rw [e3]
            have e9 : jiushr (nI (w / 4)) 1 = nI ((w / 4) / 2 ^ 1) := jiu (by omega) 1 1 (by decide +kernel)
            rw [e9, nlz_leaf (w := w) (v := w / 4) (t := 2) (by omega) (by omega) (by omega)]
            rcases (show (w / 4) / 2 = 0 ∨ (w / 4) / 2 = 1 by omega) with e | e <;> rw [show (w / 4) / 2 ^ 1 = (w / 4) / 2 from rfl, e] <;> decide
        · rw [if_neg (by show ¬ (nI (w) < nI 16); rw [nI_ltI (by omega) (by omega)]; omega)]
          have e2 : jiushr (nI (w)) 4 = nI (w / 16) := (jiu (by omega) 4 4 (by decide +kernel)).trans (congrArg nI (by omega))
          rw [e2]
          by_cases c3 : (w / 16) < 4
          · rw [if_pos (by show nI (w / 16) < nI 4; rw [nI_ltI (by omega) (by omega)]; omega)]
            have e9 : jiushr (nI (w / 16)) 1 = nI ((w / 16) / 2 ^ 1) := jiu (by omega) 1 1 (by decide +kernel)
            rw [e9, nlz_leaf (w := w) (v := w / 16) (t := 4) (by omega) (by omega) (by omega)]
            rcases (show (w / 16) / 2 = 0 ∨ (w / 16) / 2 = 1 by omega) with e | e <;> rw [show (w / 16) / 2 ^ 1 = (w / 16) / 2 from rfl, e] <;> decide
          · rw [if_neg (by show ¬ (nI (w / 16) < nI 4); rw [nI_ltI (by omega) (by omega)]; omega)]
            have e3 : jiushr (nI (w / 16)) 2 = nI (w / 64) := (jiu (by omega) 2 2 (by decide +kernel)).trans (congrArg nI (by omega))
            rw [e3]
            have e9 : jiushr (nI (w / 64)) 1 = nI ((w / 64) / 2 ^ 1) := jiu (by omega) 1 1 (by decide +kernel)
            rw [e9, nlz_leaf (w := w) (v := w / 64) (t := 6) (by omega) (by omega) (by omega)]
            rcases (show (w / 64) / 2 = 0 ∨ (w / 64) / 2 = 1 by omega) with e | e <;> rw [show (w / 64) / 2 ^ 1 = (w / 64) / 2 from rfl, e] <;> decide
      · rw [if_neg (by show ¬ (nI (w) < nI 256); rw [nI_ltI (by omega) (by omega)]; omega)]
        have e1 : jiushr (nI (w)) 8 = nI (w / 256) := (jiu (by omega) 8 8 (by decide +kernel)).trans (congrArg nI (by omega))
        rw [e1]
        by_cases c2 : (w / 256) < 16
        · rw [if_pos (by show nI (w / 256) < nI 16; rw [nI_ltI (by omega) (by omega)]; omega)]
          by_cases c3 : (w / 256) < 4
          · rw [if_pos (by show nI (w / 256) < nI 4; rw [nI_ltI (by omega) (by omega)]; omega)]
            have e9 : jiushr (nI (w / 256)) 1 = nI ((w / 256) / 2 ^ 1) := jiu (by omega) 1 1 (by decide +kernel)
            rw [e9, nlz_leaf (w := w) (v := w / 256) (t := 8) (by omega) (by omega) (by omega)]
            rcases (show (w / 256) / 2 = 0 ∨ (w / 256) / 2 = 1 by omega) with e | e <;> rw [show (w / 256) / 2 ^ 1 = (w / 256) / 2 from rfl, e] <;> decide
          · rw [if_neg (by show ¬ (nI (w / 256) < nI 4); rw [nI_ltI (by omega) (by omega)]; omega)]
            have e3 : jiushr (nI (w / 256)) 2 = nI (w / 1024) := (jiu (by omega) 2 2 (by decide +kernel)).trans (congrArg nI (by omega))
            rw [e3]
            have e9 : jiushr (nI (w / 1024)) 1 = nI ((w / 1024) / 2 ^ 1) := jiu (by omega) 1 1 (by decide +kernel)
            rw [e9, nlz_leaf (w := w) (v := w / 1024) (t := 10) (by omega) (by omega) (by omega)]
            rcases (show (w / 1024) / 2 = 0 ∨ (w / 1024) / 2 = 1 by omega) with e | e <;> rw [show (w / 1024) / 2 ^ 1 = (w / 1024) / 2 from rfl, e] <;> decide
        · rw [if_neg (by show ¬ (nI (w / 256) < nI 16); rw [nI_ltI (by omega) (by omega)]; omega)]
          have e2 : jiushr (nI (w / 256)) 4 = nI (w / 4096) := (jiu (by omega) 4 4 (by decide +kernel)).trans (congrArg nI (by omega))
          rw [e2]
          by_cases c3 : (w / 4096) < 4
          · rw [if_pos (by show nI (w / 4096) < nI 4; rw [nI_ltI (by omega) (by omega)]; omega)]
            have e9 : jiushr (nI (w / 4096)) 1 = nI ((w / 4096) / 2 ^ 1) := jiu (by omega) 1 1 (by decide +kernel)
            rw [e9, nlz_leaf (w := w) (v := w / 4096) (t := 12) (by omega) (by omega) (by omega)]
            rcases (show (w / 4096) / 2 = 0 ∨ (w / 4096) / 2 = 1 by omega) with e | e <;> rw [show (w / 4096) / 2 ^ 1 = (w / 4096) / 2 from rfl, e] <;> decide
          · rw [if_neg (by show ¬ (nI (w / 4096) < nI 4); rw [nI_ltI (by omega) (by omega)]; omega)]
            have e3 : jiushr (nI (w / 4096)) 2 = nI (w / 16384) := (jiu (by omega) 2 2 (by decide +kernel)).trans (congrArg nI (by omega))
            rw [e3]
            have e9 : jiushr (nI (w / 16384)) 1 = nI ((w / 16384) / 2 ^ 1) := jiu (by omega) 1 1 (by decide +kernel)
            rw [e9, nlz_leaf (w := w) (v := w / 16384) (t := 14) (by omega) (by omega) (by omega)]
            rcases (show (w / 16384) / 2 = 0 ∨ (w / 16384) / 2 = 1 by omega) with e | e <;> rw [show (w / 16384) / 2 ^ 1 = (w / 16384) / 2 from rfl, e] <;> decide
    · rw [if_neg (by show ¬ (nI (w) < nI 65536); rw [nI_ltI (by omega) (by omega)]; omega)]
      have e0 : jiushr (nI (w)) 16 = nI (w / 65536) := (jiu (by omega) 16 16 (by decide +kernel)).trans (congrArg nI (by omega))
      rw [e0]
      by_cases c1 : (w / 65536) < 256
      · rw [if_pos (by show nI (w / 65536) < nI 256; rw [nI_ltI (by omega) (by omega)]; omega)]
        by_cases c2 : (w / 65536) < 16
        · rw [if_pos (by show nI (w / 65536) < nI 16; rw [nI_ltI (by omega) (by omega)]; omega)]
          by_cases c3 : (w / 65536) < 4
          · rw [if_pos (by show nI (w / 65536) < nI 4; rw [nI_ltI (by omega) (by omega)]; omega)]
            have e9 : jiushr (nI (w / 65536)) 1 = nI ((w / 65536) / 2 ^ 1) := jiu (by omega) 1 1 (by decide +kernel)
            rw [e9, nlz_leaf (w := w) (v := w / 65536) (t := 16) (by omega) (by omega) (by omega)]
            rcases (show (w / 65536) / 2 = 0 ∨ (w / 65536) / 2 = 1 by omega) with e | e <;> rw [show (w / 65536) / 2 ^ 1 = (w / 65536) / 2 from rfl, e] <;> decide
          · rw [if_neg (by show ¬ (nI (w / 65536) < nI 4); rw [nI_ltI (by omega) (by omega)]; omega)]
            have e3 : jiushr (nI (w / 65536)) 2 = nI (w / 262144) := (jiu (by omega) 2 2 (by decide +kernel)).trans (congrArg nI (by omega))
            rw [e3]
            have e9 : jiushr (nI (w / 262144)) 1 = nI ((w / 262144) / 2 ^ 1) := jiu (by omega) 1 1 (by decide +kernel)
            rw [e9, nlz_leaf (w := w) (v := w / 262144) (t := 18) (by omega) (by omega) (by omega)]
            rcases (show (w / 262144) / 2 = 0 ∨ (w / 262144) / 2 = 1 by omega) with e | e <;> rw [show (w / 262144) / 2 ^ 1 = (w / 262144) / 2 from rfl, e] <;> decide
        · rw [if_neg (by show ¬ (nI (w / 65536) < nI 16); rw [nI_ltI (by omega) (by omega)]; omega)]
          have e2 : jiushr (nI (w / 65536)) 4 = nI (w / 1048576) := (jiu (by omega) 4 4 (by decide +kernel)).trans (congrArg nI (by omega))
          rw [e2]
          by_cases c3 : (w / 1048576) < 4
          · rw [if_pos (by show nI (w / 1048576) < nI 4; rw [nI_ltI (by omega) (by omega)]; omega)]
            have e9 : jiushr (nI (w / 1048576)) 1 = nI ((w / 1048576) / 2 ^ 1) := jiu (by omega) 1 1 (by decide +kernel)
            rw [e9, nlz_leaf (w := w) (v := w / 1048576) (t := 20) (by omega) (by omega) (by omega)]
            rcases (show (w / 1048576) / 2 = 0 ∨ (w / 1048576) / 2 = 1 by omega) with e | e <;> rw [show (w / 1048576) / 2 ^ 1 = (w / 1048576) / 2 from rfl, e] <;> decide
          · rw [if_neg (by show ¬ (nI (w / 1048576) < nI 4); rw [nI_ltI (by omega) (by omega)]; omega)]
            have e3 : jiushr (nI (w / 1048576)) 2 = nI (w / 4194304) := (jiu (by omega) 2 2 (by decide +kernel)).trans (congrArg nI (by omega))
            rw [e3]
            have e9 : jiushr (nI (w / 4194304)) 1 = nI ((w / 4194304) / 2 ^ 1) := jiu (by omega) 1 1 (by decide +kernel)
            rw [e9, nlz_leaf (w := w) (v := w / 4194304) (t := 22) (by omega) (by omega) (by omega)]
            rcases (show (w / 4194304) / 2 = 0 ∨ (w / 4194304) / 2 = 1 by omega) with e | e <;> rw [show (w / 4194304) / 2 ^ 1 = (w / 4194304) / 2 from rfl, e] <;> decide
      · rw [if_neg (by show ¬ (nI (w / 65536) < nI 256); rw [nI_ltI (by omega) (by omega)]; omega)]
        have e1 : jiushr (nI (w / 65536)) 8 = nI (w / 16777216) := (jiu (by omega) 8 8 (by decide +kernel)).trans (congrArg nI (by omega))
        rw [e1]
        by_cases c2 : (w / 16777216) < 16
        · rw [if_pos (by show nI (w / 16777216) < nI 16; rw [nI_ltI (by omega) (by omega)]; omega)]
          by_cases c3 : (w / 16777216) < 4
          · rw [if_pos (by show nI (w / 16777216) < nI 4; rw [nI_ltI (by omega) (by omega)]; omega)]
            have e9 : jiushr (nI (w / 16777216)) 1 = nI ((w / 16777216) / 2 ^ 1) := jiu (by omega) 1 1 (by decide +kernel)
            rw [e9, nlz_leaf (w := w) (v := w / 16777216) (t := 24) (by omega) (by omega) (by omega)]
            rcases (show (w / 16777216) / 2 = 0 ∨ (w / 16777216) / 2 = 1 by omega) with e | e <;> rw [show (w / 16777216) / 2 ^ 1 = (w / 16777216) / 2 from rfl, e] <;> decide
          · rw [if_neg (by show ¬ (nI (w / 16777216) < nI 4); rw [nI_ltI (by omega) (by omega)]; omega)]
            have e3 : jiushr (nI (w / 16777216)) 2 = nI (w / 67108864) := (jiu (by omega) 2 2 (by decide +kernel)).trans (congrArg nI (by omega))
            rw [e3]
            have e9 : jiushr (nI (w / 67108864)) 1 = nI ((w / 67108864) / 2 ^ 1) := jiu (by omega) 1 1 (by decide +kernel)
            rw [e9, nlz_leaf (w := w) (v := w / 67108864) (t := 26) (by omega) (by omega) (by omega)]
            rcases (show (w / 67108864) / 2 = 0 ∨ (w / 67108864) / 2 = 1 by omega) with e | e <;> rw [show (w / 67108864) / 2 ^ 1 = (w / 67108864) / 2 from rfl, e] <;> decide
        · rw [if_neg (by show ¬ (nI (w / 16777216) < nI 16); rw [nI_ltI (by omega) (by omega)]; omega)]
          have e2 : jiushr (nI (w / 16777216)) 4 = nI (w / 268435456) := (jiu (by omega) 4 4 (by decide +kernel)).trans (congrArg nI (by omega))
          rw [e2]
          by_cases c3 : (w / 268435456) < 4
          · rw [if_pos (by show nI (w / 268435456) < nI 4; rw [nI_ltI (by omega) (by omega)]; omega)]
            have e9 : jiushr (nI (w / 268435456)) 1 = nI ((w / 268435456) / 2 ^ 1) := jiu (by omega) 1 1 (by decide +kernel)
            rw [e9, nlz_leaf (w := w) (v := w / 268435456) (t := 28) (by omega) (by omega) (by omega)]
            rcases (show (w / 268435456) / 2 = 0 ∨ (w / 268435456) / 2 = 1 by omega) with e | e <;> rw [show (w / 268435456) / 2 ^ 1 = (w / 268435456) / 2 from rfl, e] <;> decide
          · rw [if_neg (by show ¬ (nI (w / 268435456) < nI 4); rw [nI_ltI (by omega) (by omega)]; omega)]
            have e3 : jiushr (nI (w / 268435456)) 2 = nI (w / 1073741824) := (jiu (by omega) 2 2 (by decide +kernel)).trans (congrArg nI (by omega))
            rw [e3]
            have e9 : jiushr (nI (w / 1073741824)) 1 = nI ((w / 1073741824) / 2 ^ 1) := jiu (by omega) 1 1 (by decide +kernel)
            rw [e9, nlz_leaf (w := w) (v := w / 1073741824) (t := 30) (by omega) (by omega) (by omega)]
            rcases (show (w / 1073741824) / 2 = 0 ∨ (w / 1073741824) / 2 = 1 by omega) with e | e <;> rw [show (w / 1073741824) / 2 ^ 1 = (w / 1073741824) / 2 from rfl, e] <;> decide
  · have e : w.log2 = 31 := (Nat.log2_eq_iff (by omega)).mpr ⟨by omega, h⟩
    have n : (nI w).toInt < 0 := by
      have a : (nI w).toInt = (w : Int) - 2 ^ 32 := by
        show (Int32.ofNat w).toInt = _
        rw [Int32.toInt_ofNat']
        show Int.bmod (w : Int) 4294967296 = _
        rw [Int.bmod_def]
        omega
      omega
    have z : (0 : Int32).toInt = 0 := rfl
    rw [if_neg (by rw [fa_lt, z]; omega), if_neg (by rw [fa_eq, z]; omega), e]
    rfl
theorem i_tn (x : Int32) : ((x.toBitVec.toNat : Nat) : Int) = x.toInt % 4294967296 := by
  have h : x.toInt = Int.bmod x.toBitVec.toNat (2 ^ 32) := BitVec.toInt_eq_toNat_bmod x.toBitVec
  have l := x.toBitVec.isLt
  rw [h, show (4294967296 : Int) = ((2 ^ 32 : Nat) : Int) from rfl, Int.bmod_emod]
  omega
theorem nI_mod (n : Nat) : nI n = nI (n % 2 ^ 32) := by
  apply Int32.toBitVec_inj.mp
  show BitVec.ofNat 32 n = BitVec.ofNat 32 (n % 2 ^ 32)
  apply BitVec.eq_of_toNat_eq
  rw [BitVec.toNat_ofNat, BitVec.toNat_ofNat, Nat.mod_mod]
theorem jshr_T (x : Int64) {k : Nat} (hk : k < 64) : (jshr x (nI k)).toInt = x.toInt / ((2 ^ k : Nat) : Int) := by
  have key : ∀ D : Int64, (D.toBitVec.smod 64).toNat = k → (x >>> D).toInt = x.toInt >>> k := by
    intro D hD
    rw [← hD]
    exact BitVec.toInt_sshiftRight ..
  unfold jshr
  rw [wb_c k hk, key _ (by rw [wb_tb, wb_sm k hk, BitVec.toNat_ofNat, Nat.mod_eq_of_lt (by omega)]), Int.shiftRight_eq_div_pow]
theorem jshr_N {n k : Nat} (hn : n < 2 ^ 63) (hk : k < 64) : jshr (lN n) (nI k) = lN (n / 2 ^ k) := by
  have d : n / 2 ^ k ≤ n := Nat.div_le_self _ _
  rw [fa_eq64, jshr_T _ hk, pf_lI (by omega), pf_lI (by omega)]
  rfl
theorem jshl_N (n : Nat) {k : Nat} (hk : k < 64) : jshl (lN n) (nI k) = lN (n * 2 ^ k) := wb_shl n hk
theorem x_eb (s : Bool) {S : Nat} (h : S ≤ 9218868437227405312) : f_X0_exponentBits (gB s S) = nI (S / 4503599627370496) := by
  unfold f_X0_exponentBits
  have e1 : (jshr (gB s S) 52).toInt = (gB s S).toInt / 4503599627370496 := jshr_T _ (k := 52) (by omega)
  have e3 := i_tn (jshr (gB s S) 52).toInt32
  rw [Int64.toInt_toInt32, e1, show (4294967296 : Int) = ((2 ^ 32 : Nat) : Int) from rfl, Int.bmod_emod, show ((2 ^ 32 : Nat) : Int) = 4294967296 from rfl] at e3
  rw [pk_and _ (m := 2047) 11 (by decide +kernel)]
  congr 1
  cases s
  · rw [gB_fT (by omega)] at e3; omega
  · rw [gB_tT (by omega)] at e3; omega
theorem x_whole (s : Bool) {S : Nat} (h : S ≤ 9218868437227405312) : f_X0_whole (gB s S) = lN (wh S) := by
  have m : gB s S &&& 4503599627370495 = lN (S % 4503599627370496) := by
    show gB s S &&& lN (2 ^ 52 - 1) = _
    cases s
    · rw [gB_f, wb_mask (by omega) (by omega)]
    · rw [gB_t, wb_mask (by omega) (by omega)]
      congr 1
      omega
  unfold f_X0_whole wh
  rw [x_eb s h, m]
  by_cases c : S < 4503599627370496
  · rw [if_pos c, if_pos (by rw [show S / 4503599627370496 = 0 by omega]; rfl), Nat.mod_eq_of_lt c]
  · rw [if_neg c, if_neg (nI_ne0 (by omega) (by omega))]
    show lN (S % 4503599627370496) ||| lN 4503599627370496 = _
    rw [fb_orL, Nat.or_comm]
    have e := Nat.two_pow_add_eq_or_of_lt (i := 52) (b := S % 4503599627370496) (by omega) 1
    exact congrArg lN e.symm
theorem x_shift (s : Bool) {S : Nat} (h : S ≤ 9218868437227405312) : f_X0_shift (gB s S) = nI (sh S) := by
  unfold f_X0_shift sh
  rw [x_eb s h]
  have b : S / 4503599627370496 ≤ 2047 := by omega
  by_cases c : S < 4503599627370496
  · rw [if_pos c, show S / 4503599627370496 = 0 by omega]; rfl
  · rw [if_neg c, if_neg (show ¬ nI (S / 4503599627370496) < 1 from nI_nlt (b := 1) (by omega) (by omega))]
    exact pk_sub (a := S / 4503599627370496) (b := 1) (by omega)
theorem sh_le {S : Nat} (h : S ≤ 9218868437227405312) : sh S ≤ 2046 := by unfold sh; split <;> omega
theorem sh_lt {S : Nat} (h : S < 9218868437227405312) : sh S ≤ 2045 := by unfold sh; split <;> omega
theorem wh_lt (S : Nat) : wh S < 9007199254740992 := by unfold wh; split <;> omega
theorem wh_pos {S : Nat} (h : 0 < S) : 0 < wh S := by unfold wh; split <;> omega
theorem m_whole {S : Nat} (h : S ≤ 9218868437227405312) : f_X6_whole (lN S) = lN (wh S) := by
  unfold f_X6_whole wh
  by_cases c : S < 4503599627370496
  · rw [if_pos c, if_pos (show lN S < 4503599627370496 from (pk_lLT (a := S) (b := 4503599627370496) (by omega) (by omega)).mpr c)]
  · rw [if_neg c, if_neg (show ¬ lN S < 4503599627370496 from fun k => c ((pk_lLT (a := S) (b := 4503599627370496) (by omega) (by omega)).mp k))]
    show lN 4503599627370496 + (lN S - lN S / lN 4503599627370496 * lN 4503599627370496) = _
    rw [pk_lRem (by omega) (by omega) (by omega), lN_add]
theorem m_shift {S : Nat} (h : S ≤ 9218868437227405312) : f_X6_shift (lN S) = nI (sh S) := by
  unfold f_X6_shift sh
  by_cases c : S < 4503599627370496
  · rw [if_pos c, if_pos (show lN S < 4503599627370496 from (pk_lLT (a := S) (b := 4503599627370496) (by omega) (by omega)).mpr c)]; rfl
  · rw [if_neg c, if_neg (show ¬ lN S < 4503599627370496 from fun k => c ((pk_lLT (a := S) (b := 4503599627370496) (by omega) (by omega)).mp k))]
    show (lN S / lN 4503599627370496).toInt32 - nI 1 = _
    rw [pk_lDiv (by omega) (by omega) (by omega), lN_i, pk_sub (by omega)]
theorem m_isLittle (s : Bool) {S : Nat} (h : S ≤ 9218868437227405312) : f_X6_isLittle (gC s S) = f_X0_hasLeastExponent (gB s S) := by
  unfold f_X6_isLittle f_X0_hasLeastExponent
  rw [m_size s h, x_eb s h]
  by_cases c : S < 4503599627370496
  · rw [if_pos (show lN S < 4503599627370496 from (pk_lLT (a := S) (b := 4503599627370496) (by omega) (by omega)).mpr c), if_pos (by rw [show S / 4503599627370496 = 0 by omega]; rfl)]
  · rw [if_neg (show ¬ lN S < 4503599627370496 from fun k => c ((pk_lLT (a := S) (b := 4503599627370496) (by omega) (by omega)).mp k)), if_neg (nI_ne0 (by omega) (by omega))]
theorem m_expOf (s : Bool) {S : Nat} (h : S ≤ 9218868437227405312) : f_X6_exponentOf (gC s S) = nI (S / 4503599627370496) - 1023 := by
  unfold f_X6_exponentOf
  rw [m_size s h]
  show (lN S / lN 4503599627370496).toInt32 - 1023 = _
  rw [pk_lDiv (by omega) (by omega) (by omega), lN_i]
theorem x_expOf (s : Bool) {S : Nat} (h : S ≤ 9218868437227405312) : f_X0_exponentOf (gB s S) = nI (S / 4503599627370496) - 1023 := by
  unfold f_X0_exponentOf
  rw [x_eb s h]
/-! the leading power -/
theorem x_nlz {w : Nat} (h0 : 0 < w) (h : w < 2 ^ 63) : 63 - f_J13_numberOfLeadingZeros_95d88 (lN w) = nI w.log2 := by
  have e1 : jushr (lN w) 32 = lN (w / 2 ^ 32) := wb_shr (k := 32) (by omega) (by omega)
  have lg : w.log2 < 63 := (Nat.log2_lt (by omega)).mpr h
  unfold f_J13_numberOfLeadingZeros_95d88
  rw [e1, lN_i, lN_i]
  by_cases c : w / 2 ^ 32 = 0
  · rw [c, if_pos (show nI 0 = 0 from rfl), x_nlz32 h0 (by omega)]
    have lg : w.log2 < 32 := (Nat.log2_lt (by omega)).mpr (by omega)
    show nI 63 - (nI 32 + nI (31 - w.log2)) = _
    rw [nI_add, pk_sub (by omega)]
    congr 1
    omega
  · rw [if_neg (nI_ne0 (by omega) (by omega)), x_nlz32 (by omega) (by omega)]
    have e : w.log2 = 32 + (w / 2 ^ 32).log2 := by
      have a := (Nat.log2_eq_iff (n := w / 2 ^ 32) (k := (w / 2 ^ 32).log2) c).mp rfl
      apply (Nat.log2_eq_iff (by omega)).mpr
      generalize (w / 2 ^ 32).log2 = L at a ⊢
      have p1 : 2 ^ (32 + L) = 2 ^ L * 4294967296 := by rw [Nat.add_comm, Nat.pow_add]
      have p2 : 2 ^ (32 + L + 1) = 2 ^ (L + 1) * 4294967296 := by rw [show 32 + L + 1 = (L + 1) + 32 by omega, Nat.pow_add]
      rw [p1, p2]
      generalize 2 ^ L = A at a ⊢
      generalize 2 ^ (L + 1) = B at a ⊢
      omega
    have l2 : (w / 2 ^ 32).log2 ≤ 31 := by omega
    show nI 63 - nI (31 - (w / 2 ^ 32).log2) = _
    rw [pk_sub (by omega)]
    congr 1
    omega
theorem m_bits {L : Nat} : ∀ (a : Int64) (n w c : Nat), L + 1 < n → 2 ^ L ≤ w → w < 2 ^ (L + 1) → L < 62 → f_X6_bits_L4 a n (lN w) (nI c) = some (nI (c + L + 1)) := by
  induction L with
  | zero =>
    intro a n w c hn h1 h2 hL
    obtain ⟨n, rfl⟩ : ∃ k, n = k + 2 := ⟨n - 2, by omega⟩
    have e : w = 1 := by omega
    subst e
    rw [f_X6_bits_L4, if_pos (by decide), f_X6_bits_L4, if_neg (by decide)]
    exact congrArg some (nI_1 c)
  | succ L ih =>
    intro a n w c hn h1 h2 hL
    obtain ⟨n, rfl⟩ : ∃ k, n = k + 1 := ⟨n - 1, by omega⟩
    rw [Nat.pow_succ] at h1 h2
    have p := wb_lt2 (a := L + 1 + 1) (b := 63 + 1) (by omega)
    have q := Nat.pow_succ 2 L
    have hw : w < 2 ^ 63 := by
      have := Nat.pow_le_pow_right (n := 2) (by decide) (show L + 1 + 1 ≤ 63 by omega)
      omega
    rw [f_X6_bits_L4, if_pos (show 0 < lN w from (pk_lLT (a := 0) (b := w) (by omega) (by omega)).mpr (by have := Nat.two_pow_pos L; omega))]
    show f_X6_bits_L4 a n (lN w / lN 2) (nI c + nI 1) = _
    rw [pk_lDiv (by omega) (by omega) (by omega), nI_add, ih a n (w / 2) (c + 1) (by omega) (by omega) (by omega) (by omega)]
    congr 2
    omega
theorem lg_of {w : Nat} (h0 : 0 < w) : 2 ^ w.log2 ≤ w ∧ w < 2 ^ (w.log2 + 1) := (Nat.log2_eq_iff (by omega)).mp rfl
theorem lg_52 {w : Nat} (h0 : 0 < w) (h : w < 9007199254740992) : w.log2 ≤ 52 := by
  have := (Nat.log2_lt (n := w) (k := 53) (by omega)).mpr h
  omega
/-- leading powers alike -/
theorem xm_lead (s : Bool) {S : Nat} (h0 : 0 < S) (h : S ≤ 9218868437227405312) : f_X6_leadOf (lN S) = some (f_X0_leadOf (gB s S)) ∧ f_X0_leadOf (gB s S) = nI ((wh S).log2 + sh S) + (-1074) := by
  have w0 := wh_pos h0
  have w1 := wh_lt S
  have lg := lg_of w0
  have l2 := lg_52 w0 w1
  have e2 : f_X0_leadOf (gB s S) = nI ((wh S).log2 + sh S) + (-1074) := by
    unfold f_X0_leadOf
    rw [x_whole s h, x_shift s h, x_nlz w0 (by omega), nI_add]
  refine ⟨?_, e2⟩
  unfold f_X6_leadOf f_X6_bits
  rw [m_whole h, m_shift h, e2]
  have e := m_bits (L := (wh S).log2) (lN (wh S)) 100 (wh S) 0 (by omega) lg.1 lg.2 (by omega)
  rw [show (0 : Int32) = nI 0 from rfl, e]
  show some (((nI (0 + (wh S).log2 + 1) - nI 1) + nI (sh S)) - 1074) = _
  rw [pk_sub (by omega), nI_add]
  have k : ∀ x : Int32, x - 1074 = x + (-1074) := fun x => Int32.sub_eq_add_neg x 1074
  rw [k, show 0 + (wh S).log2 + 1 - 1 = (wh S).log2 by omega]
/-! trailing zeros -/
theorem tz_of : ∀ {w : Nat}, 0 < w → ∃ t q, w = 2 ^ t * (2 * q + 1) := by
  intro w
  induction w using Nat.strongRecOn with
  | ind w ih =>
    intro h
    rcases Nat.mod_two_eq_zero_or_one w with e | e
    · obtain ⟨t, q, hq⟩ := ih (w / 2) (by omega) (by omega)
      refine ⟨t + 1, q, ?_⟩
      rw [Nat.pow_succ, Nat.mul_assoc, Nat.mul_left_comm, ← hq]
      omega
    · exact ⟨0, w / 2, by omega⟩
theorem xorI_n (a b : Nat) : nI a ^^^ nI b = nI (a ^^^ b) := by
  apply Int32.toBitVec_inj.1
  show BitVec.ofNat 32 a ^^^ BitVec.ofNat 32 b = BitVec.ofNat 32 (a ^^^ b)
  apply BitVec.eq_of_getLsbD_eq
  intro i hi
  simp [hi]
theorem andI_n (a b : Nat) : nI a &&& nI b = nI (a &&& b) := by
  apply Int32.toBitVec_inj.1
  show BitVec.ofNat 32 a &&& BitVec.ofNat 32 b = BitVec.ofNat 32 (a &&& b)
  apply BitVec.eq_of_getLsbD_eq
  intro i hi
  simp [hi]
theorem x_low (t q : Nat) (h : 2 ^ t * (2 * q + 1) < 2 ^ 32) : (nI (2 ^ t * (2 * q + 1)) ^^^ (-1)) &&& (nI (2 ^ t * (2 * q + 1)) - 1) = nI (2 ^ t - 1) := by
  have p := Nat.two_pow_pos t
  have ht : t < 32 := by
    apply Nat.lt_of_not_le
    intro k
    have := Nat.pow_le_pow_right (n := 2) (by decide) k
    have := Nat.le_mul_of_pos_right (2 ^ t) (show 0 < 2 * q + 1 by omega)
    omega
  have e1 : 2 ^ t * (2 * q + 1) - 1 = 2 ^ t * (2 * q) + (2 ^ t - 1) := by rw [Nat.mul_add]; omega
  have h1 : 1 ≤ 2 ^ t * (2 * q + 1) := Nat.mul_pos p (by omega)
  show (nI (2 ^ t * (2 * q + 1)) ^^^ nI (2 ^ 32 - 1)) &&& (nI (2 ^ t * (2 * q + 1)) - nI 1) = _
  rw [xorI_n, pk_sub h1, andI_n]
  congr 1
  apply Nat.eq_of_testBit_eq
  intro i
  rw [Nat.testBit_and, Nat.testBit_xor, Nat.testBit_two_pow_sub_one, Nat.testBit_two_pow_sub_one, e1, Nat.testBit_two_pow_mul_add _ (by omega)]
  have e2 : (2 ^ t * (2 * q + 1)).testBit i = if i < t then false else (2 * q + 1).testBit (i - t) := by
    have e := Nat.testBit_two_pow_mul_add (2 * q + 1) (b := 0) (i := t) p i
    rw [Nat.add_zero, Nat.zero_testBit] at e
    exact e
  rw [e2]
  by_cases c : i < t
  · rw [if_pos c, if_pos c, Nat.testBit_two_pow_sub_one]
    simp [c, show i < 32 by omega]
  · rw [if_neg c, if_neg c]
    by_cases c2 : i - t = 0
    · rw [c2]
      simp [c, Nat.testBit_zero]
    · obtain ⟨j, hj⟩ : ∃ j, i - t = j + 1 := ⟨i - t - 1, by omega⟩
      have b1 : (2 * q + 1).testBit (j + 1) = q.testBit j := by rw [Nat.testBit_succ, show (2 * q + 1) / 2 = q by omega]
      have b2 : (2 * q).testBit (j + 1) = q.testBit j := by rw [Nat.testBit_succ, show (2 * q) / 2 = q by omega]
      rw [hj, b1, b2]
      by_cases c3 : i < 32
      · simp [c, c3]
      · have big : q.testBit j = false := by
          apply Nat.testBit_lt_two_pow
          have a1 : 2 ^ 32 ≤ 2 ^ i := Nat.pow_le_pow_right (by decide) (by omega)
          have a2 : 2 ^ i = 2 ^ t * (2 * 2 ^ j) := by rw [show i = t + (1 + j) by omega, Nat.pow_add, Nat.pow_add, Nat.pow_one]
          have a3 : 2 ^ t * (2 * q + 1) < 2 ^ t * (2 * 2 ^ j) := by omega
          have a4 := Nat.lt_of_mul_lt_mul_left a3
          omega
        simp [c, big]
set_option maxRecDepth 4000 in
theorem x_ntz32 (t q : Nat) (h : 2 ^ t * (2 * q + 1) < 2 ^ 32) (ht : t < 32) : f_J6_numberOfTrailingZeros_0f7a4 (nI (2 ^ t * (2 * q + 1))) = nI t := by
  unfold f_J6_numberOfTrailingZeros_0f7a4
  rw [x_low t q h]
  clear h
  revert t
  decide +kernel
theorem odd_mod {t q : Nat} (ht : t < 32) : (2 ^ t * (2 * q + 1)) % 2 ^ 32 = 2 ^ t * (2 * (((2 * q + 1) % 2 ^ (32 - t)) / 2) + 1) := by
  have e : (2 : Nat) ^ 32 = 2 ^ t * 2 ^ (32 - t) := by rw [← Nat.pow_add]; congr 1; omega
  have m : (2 * q + 1) % 2 ^ (32 - t) % 2 = (2 * q + 1) % 2 := Nat.mod_mod_of_dvd _ ⟨2 ^ (31 - t), by rw [show 32 - t = (31 - t) + 1 by omega, Nat.pow_succ, Nat.mul_comm]⟩
  rw [e, Nat.mul_mod_mul_left]
  congr 1
  omega
theorem x_ntz (t q : Nat) (h : 2 ^ t * (2 * q + 1) < 2 ^ 63) : f_J13_numberOfTrailingZeros_95d88 (lN (2 ^ t * (2 * q + 1))) = nI t := by
  have p := Nat.two_pow_pos t
  have e1 : jushr (lN (2 ^ t * (2 * q + 1))) 32 = lN (2 ^ t * (2 * q + 1) / 2 ^ 32) := wb_shr (k := 32) (by omega) (by omega)
  unfold f_J13_numberOfTrailingZeros_95d88
  rw [e1, lN_i, lN_i, nI_mod (2 ^ t * (2 * q + 1))]
  by_cases c : t < 32
  · have o := odd_mod (q := q) c
    have r := Nat.mod_lt (2 ^ t * (2 * q + 1)) (Nat.two_pow_pos 32)
    have z : ¬ nI ((2 ^ t * (2 * q + 1)) % 2 ^ 32) = 0 := by
      intro k
      have k2 := congrArg (fun x : Int32 => x.toBitVec.toNat) k
      simp only [pk_tn r] at k2
      have k3 : 0 < 2 ^ t * (2 * (((2 * q + 1) % 2 ^ (32 - t)) / 2) + 1) := Nat.mul_pos p (by omega)
      rw [o] at k2
      have k4 : (0 : Int32).toBitVec.toNat = 0 := rfl
      omega
    rw [if_neg z, o]
    exact x_ntz32 t _ (by rw [← o]; exact r) c
  · have e : 2 ^ t * (2 * q + 1) = 2 ^ 32 * (2 ^ (t - 32) * (2 * q + 1)) := by
      rw [← Nat.mul_assoc, ← Nat.pow_add, show 32 + (t - 32) = t by omega]
    have h2 : 2 ^ (t - 32) * (2 * q + 1) < 2 ^ 31 := by omega
    have ht : t - 32 < 32 := by
      apply Nat.lt_of_not_le
      intro k
      have := Nat.pow_le_pow_right (n := 2) (by decide) k
      have := Nat.le_mul_of_pos_right (2 ^ (t - 32)) (show 0 < 2 * q + 1 by omega)
      omega
    rw [e, Nat.mul_mod_right, Nat.mul_div_cancel_left _ (Nat.two_pow_pos 32), if_pos (show nI 0 = 0 from rfl), x_ntz32 _ _ (by omega) ht]
    show nI 32 + _ = _
    rw [nI_add]
    congr 1
    omega
theorem m_tail (a : Int64) : ∀ (t n q c : Nat), t < n → 2 ^ t * (2 * q + 1) < 2 ^ 63 → f_X6_tailOf_L7 a n (lN (2 ^ t * (2 * q + 1))) (nI c) = some ((nI (c + t) + f_X6_shift a) - 1074) := by
  intro t
  induction t with
  | zero =>
    intro n q c hn h
    obtain ⟨n, rfl⟩ : ∃ k, n = k + 1 := ⟨n - 1, by omega⟩
    rw [f_X6_tailOf_L7]
    have e : lN (2 ^ 0 * (2 * q + 1)) - lN (2 ^ 0 * (2 * q + 1)) / 2 * 2 = lN 1 := by
      show lN (2 ^ 0 * (2 * q + 1)) - lN (2 ^ 0 * (2 * q + 1)) / lN 2 * lN 2 = lN 1
      rw [pk_lRem (by omega) (by omega) (by omega)]
      congr 1
      omega
    rw [e, if_neg (by decide)]
    rfl
  | succ t ih =>
    intro n q c hn h
    obtain ⟨n, rfl⟩ : ∃ k, n = k + 1 := ⟨n - 1, by omega⟩
    have e0 : 2 ^ (t + 1) * (2 * q + 1) = 2 * (2 ^ t * (2 * q + 1)) := by rw [Nat.pow_succ, Nat.mul_assoc, Nat.mul_left_comm]
    rw [e0] at h ⊢
    rw [f_X6_tailOf_L7]
    have e : lN (2 * (2 ^ t * (2 * q + 1))) - lN (2 * (2 ^ t * (2 * q + 1))) / 2 * 2 = 0 := by
      show lN (2 * (2 ^ t * (2 * q + 1))) - lN (2 * (2 ^ t * (2 * q + 1))) / lN 2 * lN 2 = lN 0
      rw [pk_lRem (by omega) (by omega) (by omega)]
      congr 1
      omega
    rw [e, if_pos rfl]
    show f_X6_tailOf_L7 a n (lN (2 * (2 ^ t * (2 * q + 1))) / lN 2) (nI c + nI 1) = _
    rw [pk_lDiv (by omega) (by omega) (by omega), nI_add, show 2 * (2 ^ t * (2 * q + 1)) / 2 = 2 ^ t * (2 * q + 1) by omega, ih n q (c + 1) (by omega) (by omega), show c + 1 + t = c + (t + 1) by omega]
theorem pow_lt_of {t w : Nat} (h : 2 ^ t ≤ w) (k : w < 9007199254740992) : t ≤ 52 := by
  apply Nat.le_of_not_lt
  intro c
  have := Nat.pow_le_pow_right (n := 2) (by decide) (show 53 ≤ t by omega)
  omega
theorem xm_tail (s : Bool) {S : Nat} (h0 : 0 < S) (h : S ≤ 9218868437227405312) : f_X6_tailOf (lN S) = some (f_X0_tailOf (gB s S)) ∧ ∃ t, t ≤ (wh S).log2 ∧ f_X0_tailOf (gB s S) = nI (t + sh S) + (-1074) := by
  have w0 := wh_pos h0
  have w1 := wh_lt S
  obtain ⟨t, q, hq⟩ := tz_of w0
  have p := Nat.le_mul_of_pos_right (2 ^ t) (show 0 < 2 * q + 1 by omega)
  have ht := pow_lt_of (t := t) (w := wh S) (by omega) w1
  have e2 : f_X0_tailOf (gB s S) = nI (t + sh S) + (-1074) := by
    unfold f_X0_tailOf
    rw [x_whole s h, x_shift s h, hq, x_ntz t q (by omega), nI_add]
  refine ⟨?_, t, ?_, e2⟩
  · unfold f_X6_tailOf
    rw [m_whole h, hq, e2]
    have e := m_tail (lN S) t 100 q 0 (by omega) (by omega)
    rw [show (0 : Int32) = nI 0 from rfl, e, m_shift h, nI_add, Nat.zero_add]
    have k : ∀ x : Int32, x - 1074 = x + (-1074) := fun x => Int32.sub_eq_add_neg x 1074
    rw [k]
  · exact (Nat.le_log2 (by omega)).mpr (by omega)
/-! rounding -/
def hv (w j : Nat) : Nat := if 54 < j then 0 else if 2 ^ (j - 1) < w % 2 ^ j then w / 2 ^ j + 1 else if w % 2 ^ j = 2 ^ (j - 1) then (if w / 2 ^ j % 2 = 1 then w / 2 ^ j + 1 else w / 2 ^ j) else w / 2 ^ j
def mk (w L k : Nat) : Nat := if k + L ≤ 52 then w * 2 ^ k else if k + L - 52 < 2046 then (k + L - 52) * 4503599627370496 + w * 2 ^ (52 - L) else 9218868437227405312
def nr (w : Nat) (k : Int) : Nat := if k < 0 then hv w (-k).toNat else mk w w.log2 k.toNat
theorem hv_le {w j : Nat} (hj : 1 ≤ j) (h : w < 9007199254740992) : hv w j ≤ 4503599627370496 := by
  have e : 2 ^ j = 2 ^ (j - 1) * 2 := by rw [← Nat.pow_succ]; congr 1; omega
  have p := Nat.two_pow_pos (j - 1)
  have d : w / 2 ^ j ≤ w / 2 := by
    rw [e, Nat.mul_comm, ← Nat.div_div_eq_div_mul]
    exact Nat.div_le_self _ _
  have a := Nat.div_add_mod w (2 ^ j)
  unfold hv
  generalize w / 2 ^ j = d1 at d a ⊢
  split
  · omega
  · split
    · have b : d1 + 1 ≤ 4503599627370496 := by
        rcases Nat.lt_or_ge d1 4503599627370496 with x | x
        · exact x
        · have := Nat.mul_le_mul (show 2 ≤ 2 ^ j by omega) x
          omega
      exact b
    · split
      · split
        · have b : d1 + 1 ≤ 4503599627370496 := by
            rcases Nat.lt_or_ge d1 4503599627370496 with x | x
            · exact x
            · have := Nat.mul_le_mul (show 2 ≤ 2 ^ j by omega) x
              omega
          exact b
        · omega
      · omega
theorem mk_w {w L k : Nat} (h1 : 2 ^ L ≤ w) (h2 : w < 2 ^ (L + 1)) (hL : L ≤ 52) : 4503599627370496 ≤ w * 2 ^ (52 - L) ∧ w * 2 ^ (52 - L) < 9007199254740992 := by
  have p := Nat.two_pow_pos (52 - L)
  have a := Nat.mul_le_mul_right (2 ^ (52 - L)) h1
  have b := Nat.mul_lt_mul_of_pos_right h2 p
  rw [← Nat.pow_add] at a b
  rw [show L + (52 - L) = 52 by omega] at a
  rw [show L + 1 + (52 - L) = 53 by omega] at b
  exact ⟨a, b⟩
theorem mk_le {w L k : Nat} (h1 : 2 ^ L ≤ w) (h2 : w < 2 ^ (L + 1)) (hL : L ≤ 52) : mk w L k ≤ 9218868437227405312 := by
  have a := mk_w (k := k) h1 h2 hL
  unfold mk
  split
  · have b := Nat.mul_le_mul_left w (Nat.pow_le_pow_right (n := 2) (by decide) (show k ≤ 52 - L by omega))
    omega
  · split
    · omega
    · exact Nat.le_refl _
theorem nr_le {w : Nat} (h0 : 0 < w) (h : w < 9007199254740992) (k : Int) : nr w k ≤ 9218868437227405312 := by
  have lg := lg_of h0
  unfold nr
  split
  · have := hv_le (j := (-k).toNat) (by omega) h; omega
  · exact mk_le lg.1 lg.2 (lg_52 h0 h)
theorem m_made (a0 : Int64) (a1 : Int32) : ∀ (d n k w L : Nat), L + d = 52 → d < n → k < 1000000 → 2 ^ L ≤ w → w < 2 ^ (L + 1) → f_X6_made_L81 a0 a1 n (nI k) (lN w) = some (lN (mk w L k)) := by
  intro d
  induction d with
  | zero =>
    intro n k w L hL hn hk h1 h2
    obtain ⟨n, rfl⟩ : ∃ k, n = k + 1 := ⟨n - 1, by omega⟩
    obtain rfl : L = 52 := by omega
    rw [f_X6_made_L81]
    have g : ¬ lN w < 4503599627370496 := fun c => by
      have := (pk_lLT (a := w) (b := 4503599627370496) (by omega) (by omega)).mp c
      omega
    rw [if_neg g, if_neg g]
    unfold mk
    by_cases c : k < 2046
    · rw [if_pos (show nI k < 2046 from (nI_ltI (a := k) (b := 2046) (by omega) (by omega)).mpr c)]
      show some ((nI k + nI 1).toInt64 * lN 4503599627370496 + (lN w - lN 4503599627370496)) = _
      rw [nI_add, nI_l (by omega), lN_mul, lN_sub (by omega), lN_add]
      refine congrArg (fun t => some (lN t)) ?_
      by_cases c2 : k = 0
      · subst c2; rw [if_pos (by omega)]; omega
      · rw [if_neg (by omega), if_pos (by omega)]
        omega
    · rw [if_neg (show ¬ nI k < 2046 from fun x => c ((nI_ltI (a := k) (b := 2046) (by omega) (by omega)).mp x)), if_neg (by omega), if_neg (by omega)]
      rfl
  | succ d ih =>
    intro n k w L hL hn hk h1 h2
    obtain ⟨n, rfl⟩ : ∃ k, n = k + 1 := ⟨n - 1, by omega⟩
    have w52 : w < 4503599627370496 := by
      have := Nat.pow_le_pow_right (n := 2) (by decide) (show L + 1 ≤ 52 by omega)
      omega
    have g : lN w < 4503599627370496 := (pk_lLT (a := w) (b := 4503599627370496) (by omega) (by omega)).mpr w52
    rw [f_X6_made_L81, if_pos g]
    by_cases c : k = 0
    · subst c
      rw [if_neg (by decide), if_pos g]
      unfold mk
      rw [if_pos (by omega), Nat.pow_zero, Nat.mul_one]
    · obtain ⟨k, rfl⟩ : ∃ j, k = j + 1 := ⟨k - 1, by omega⟩
      rw [if_pos (show 0 < nI (k + 1) from (nI_ltI (a := 0) (b := k + 1) (by omega) (by omega)).mpr (by omega)), pk_m1, lN_add, ih n k (w + w) (L + 1) (by omega) (by omega) (by omega) (by rw [Nat.pow_succ]; omega) (by rw [Nat.pow_succ]; omega)]
      refine congrArg (fun t => some (lN t)) ?_
      unfold mk
      by_cases c2 : k + 1 + L ≤ 52
      · rw [if_pos (by omega), if_pos c2, Nat.pow_succ, ← Nat.two_mul, Nat.mul_comm 2 w, Nat.mul_assoc, Nat.mul_comm 2]
      · rw [if_neg (by omega), if_neg c2, show k + (L + 1) - 52 = k + 1 + L - 52 by omega]
        have e : (w + w) * 2 ^ (52 - (L + 1)) = w * 2 ^ (52 - L) := by
          rw [show 52 - L = (52 - (L + 1)) + 1 by omega, Nat.pow_succ, ← Nat.two_mul, Nat.mul_comm 2 w, Nat.mul_assoc, Nat.mul_comm 2]
        rw [e]
theorem lit_n (x : Int32) {n : Nat} (h : x.toInt = n) (hn : n < 2 ^ 31) : x = nI n := by rw [fa_eq, h, nI_toInt hn]
theorem xm_near {w : Nat} (h0 : 0 < w) (h : w < 9007199254740992) {a : Int32} (ha : -100000 ≤ a.toInt ∧ a.toInt ≤ 100000) : f_X0_nearest (lN w) a = lN (nr w a.toInt) ∧ f_X6_made (lN w) a = some (lN (nr w a.toInt)) := by
  have lg := lg_of h0
  have l2 := lg_52 h0 h
  have z : (0 : Int32).toInt = 0 := rfl
  have m62 : (-62 : Int32).toInt = -62 := by decide
  have t97 : (2097 : Int32).toInt = 2097 := rfl
  have hL : (nI w.log2).toInt = w.log2 := nI_toInt (by omega)
  have e1 : (nI w.log2 + a).toInt = w.log2 + a.toInt := by rw [fb_addI (by omega) (by omega), hL]
  by_cases c : a.toInt < 0
  · obtain ⟨j, hj⟩ : ∃ j : Nat, a.toInt = -(j : Int) := ⟨(-a.toInt).toNat, by omega⟩
    have ej : -a = nI j := lit_n _ (by rw [fb_negI (by omega), hj]; omega) (by omega)
    have en : nr w a.toInt = hv w j := by unfold nr; rw [if_pos c, show (-a.toInt).toNat = j by omega]
    have hj1 : 1 ≤ j := by omega
    rw [en]
    have e2j : ∀ i, 1 ≤ i → 2 ^ i = 2 ^ (i - 1) * 2 := fun i hi => by rw [← Nat.pow_succ]; congr 1; omega
    constructor
    · unfold f_X0_nearest f_X0_halved
      rw [x_nlz h0 (by omega), if_neg (by rw [fa_lt, e1, t97]; omega), if_pos (by rw [fa_lt, z]; exact c), ej]
      unfold hv
      by_cases c5 : 54 < j
      · rw [if_pos c5, if_pos (show 54 < nI j from (nI_ltI (a := 54) (b := j) (by omega) (by omega)).mpr c5)]; rfl
      · have q1 : w / 2 ^ j ≤ w := Nat.div_le_self _ _
        have q2 := Nat.div_add_mod w (2 ^ j)
        have q3 := Nat.mod_lt w (Nat.two_pow_pos j)
        have q4 : 2 ^ (j - 1) < 2 ^ 54 := wb_lt2 (by omega)
        have s1 : jshl 1 (nI j - 1) = lN (2 ^ (j - 1)) := by
          show jshl (lN 1) (nI j - nI 1) = _
          rw [pk_sub hj1, jshl_N 1 (by omega), Nat.one_mul]
        rw [if_neg c5, if_neg (show ¬ 54 < nI j from fun x => c5 ((nI_ltI (a := 54) (b := j) (by omega) (by omega)).mp x)), jshr_N (by omega) (by omega), jshl_N _ (by omega), s1]
        have s2 : lN w - lN (w / 2 ^ j * 2 ^ j) = lN (w % 2 ^ j) := by
          rw [lN_sub (by rw [Nat.mul_comm]; omega)]
          congr 1
          rw [Nat.mul_comm]; omega
        rw [s2]
        have s3 : lN (w / 2 ^ j) &&& 1 = lN (w / 2 ^ j % 2) := wb_a1 (by omega)
        rw [s3]
        by_cases d1 : 2 ^ (j - 1) < w % 2 ^ j
        · rw [if_pos d1, if_pos ((pk_lLT (by omega) (by omega)).mpr d1)]
          exact lN_add _ 1
        · rw [if_neg d1, if_neg (fun x => d1 ((pk_lLT (by omega) (by omega)).mp x))]
          by_cases d2 : w % 2 ^ j = 2 ^ (j - 1)
          · rw [if_pos d2, if_pos ((L_eq (by omega) (by omega)).mpr d2)]
            by_cases d3 : w / 2 ^ j % 2 = 1
            · rw [if_pos d3, if_pos (show lN (w / 2 ^ j % 2) = 1 from (L_eq (a := w / 2 ^ j % 2) (b := 1) (by omega) (by omega)).mpr d3)]
              exact lN_add _ 1
            · rw [if_neg d3, if_neg (show ¬ lN (w / 2 ^ j % 2) = 1 from fun x => d3 ((L_eq (a := w / 2 ^ j % 2) (b := 1) (by omega) (by omega)).mp x))]
          · rw [if_neg d2, if_neg (fun x => d2 ((L_eq (by omega) (by omega)).mp x))]
    · unfold f_X6_made
      unfold hv
      by_cases c5 : 62 < j
      · rw [if_pos (show a < -62 by rw [fa_lt, m62]; omega), if_pos (show 54 < j by omega)]; rfl
      · have q1 : w / 2 ^ j ≤ w := Nat.div_le_self _ _
        have q2 := Nat.div_add_mod w (2 ^ j)
        have q3 := Nat.mod_lt w (Nat.two_pow_pos j)
        have q4 : 2 ^ j < 2 ^ 63 := wb_lt2 (by omega)
        have q5 : 0 < 2 ^ j := Nat.two_pow_pos j
        have s1 : jshl 1 (-a) = lN (2 ^ j) := by
          rw [ej]
          show jshl (lN 1) (nI j) = _
          rw [jshl_N 1 (by omega), Nat.one_mul]
        have q6 : w % 2 ^ j ≤ w := Nat.mod_le _ _
        rw [if_neg (by rw [fa_lt, m62]; omega), if_pos (by rw [fa_lt, z]; exact c), s1, if_neg (fun x => by have := (L_eq (a := 2 ^ j) (b := 0) (by omega) (by omega)).mp x; omega), if_neg (fun x => by have := (L_eq (a := 2 ^ j) (b := 0) (by omega) (by omega)).mp x; omega), pk_lRem (by omega) (by omega) (by omega), pk_lDiv (by omega) (by omega) (by omega), lN_add]
        have s3 : lN (w / 2 ^ j) - lN (w / 2 ^ j) / 2 * 2 = lN (w / 2 ^ j % 2) := by
          show lN (w / 2 ^ j) - lN (w / 2 ^ j) / lN 2 * lN 2 = _
          rw [pk_lRem (by omega) (by omega) (by omega)]
        rw [s3]
        by_cases c6 : 54 < j
        · have big : 2 ^ 55 ≤ 2 ^ j := Nat.pow_le_pow_right (by decide) (by omega)
          have sm : w % 2 ^ j = w := Nat.mod_eq_of_lt (by omega)
          have sd : w / 2 ^ j = 0 := Nat.div_eq_of_lt (by omega)
          rw [if_pos c6, sm, sd, if_neg (fun x => by have := (pk_lLT (by omega) (by omega)).mp x; omega), if_neg (fun x => by have := (L_eq (by omega) (by omega)).mp x; omega)]
        · have e2 := e2j j hj1
          rw [if_neg c6]
          by_cases d1 : 2 ^ (j - 1) < w % 2 ^ j
          · rw [if_pos d1, if_pos ((pk_lLT (by omega) (by omega)).mpr (by omega))]
            exact congrArg some (lN_add _ 1)
          · rw [if_neg d1, if_neg (fun x => d1 (by have := (pk_lLT (by omega) (by omega)).mp x; omega))]
            by_cases d2 : w % 2 ^ j = 2 ^ (j - 1)
            · rw [if_pos d2, if_pos ((L_eq (by omega) (by omega)).mpr (by omega))]
              by_cases d3 : w / 2 ^ j % 2 = 1
              · rw [if_pos d3, if_pos (show lN (w / 2 ^ j % 2) = 1 from (L_eq (a := w / 2 ^ j % 2) (b := 1) (by omega) (by omega)).mpr d3)]
                exact congrArg some (lN_add _ 1)
              · rw [if_neg d3, if_neg (show ¬ lN (w / 2 ^ j % 2) = 1 from fun x => d3 ((L_eq (a := w / 2 ^ j % 2) (b := 1) (by omega) (by omega)).mp x))]
            · rw [if_neg d2, if_neg (fun x => d2 (by have := (L_eq (by omega) (by omega)).mp x; omega))]
  · obtain ⟨k, hk⟩ : ∃ k : Nat, a.toInt = k := ⟨a.toInt.toNat, by omega⟩
    have ek : a = nI k := lit_n _ hk (by omega)
    have en : nr w a.toInt = mk w w.log2 k := by unfold nr; rw [if_neg c, show a.toInt.toNat = k by omega]
    rw [en]
    constructor
    · unfold f_X0_nearest
      rw [x_nlz h0 (by omega)]
      unfold mk
      by_cases c1 : 2097 < w.log2 + k
      · rw [if_pos (by rw [fa_lt, e1, t97]; omega), if_neg (by omega), if_neg (by omega)]; rfl
      · rw [if_neg (by rw [fa_lt, e1, t97]; omega), if_neg (by rw [fa_lt, z]; exact c), ek]
        have s : (52 : Int32) - nI w.log2 = nI (52 - w.log2) := pk_sub (a := 52) l2
        rw [s]
        by_cases c2 : k + w.log2 ≤ 52
        · rw [if_pos c2, if_neg (fun x => by have := (nI_ltI (by omega) (by omega)).mp x; omega), jshl_N _ (by omega)]
        · rw [if_neg c2, if_pos (show k + w.log2 - 52 < 2046 by omega), if_pos (show nI (52 - w.log2) < nI k from (nI_ltI (by omega) (by omega)).mpr (by omega)), pk_sub (by omega), nI_l (by omega), jshl_N _ (by omega)]
          have s5 : jshl (lN (k - (52 - w.log2))) 52 = lN ((k - (52 - w.log2)) * 2 ^ 52) := jshl_N _ (k := 52) (by omega)
          rw [s5, lN_add, show k - (52 - w.log2) = k + w.log2 - 52 by omega]
    · unfold f_X6_made
      rw [if_neg (by rw [fa_lt, m62]; omega), if_neg (by rw [fa_lt, z]; exact c), ek]
      exact m_made _ _ (52 - w.log2) 100 k w w.log2 (by omega) (by omega) (by omega) lg.1 lg.2
