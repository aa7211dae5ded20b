/-! the relation of the class's state and the reference's -/
def b2l (b : Bool) : Int64 := if b = true then 1 else 0
theorem b2l_f {b : Bool} (h : b = false) : b2l b = 0 := by subst h; rfl
theorem b2l_t {b : Bool} (h : ¬ b = false) : b2l b = 1 := by cases b <;> first | exact absurd rfl h | rfl
def NR (x c : Int64) : Prop := ∃ v : NV, ok v ∧ x = cB v ∧ c = cC v
/-- a word that may stand in a row -/
def wok (k n : Int32) : Prop := ((k = 117 ∨ k = 100) ∧ 0 ≤ n.toInt ∧ n.toInt ≤ 15) ∨ (k = 120 ∧ -40 ≤ n.toInt ∧ n.toInt ≤ 40) ∨ (k = 110 ∧ n = 0)
def RelS (v : Nat → Int64) (w : Nat → Int64) : Prop := ∀ i, i < 8 → NR (v i) (w i)
def RelW (v : StR) (k n : Nat → Int32) (c : Int32) : Prop := ∃ a : Nat, a ≤ 40 ∧ v.2.2 = nI a ∧ c = nI a ∧ ∀ i, i < a → v.1 i = k i ∧ v.2.1 i = n i ∧ wok (k i) (n i)
def RelP (v : StP) (sl : Nat → Int32) (nu : Nat → Int64) (c : Int32) : Prop := ∃ a l : Nat, a ≤ 8 ∧ l < 8 ∧ v.2.2.1 = nI l ∧ v.2.2.2 = nI a ∧ c = nI a ∧ ∀ j, j < a → ∃ i, i < 8 ∧ sl j = nI i ∧ v.1 ((l + 9 + j - a) % 8) = nI i ∧ NR (v.2.1 ((l + 9 + j - a) % 8)) (nu j)
def Rel (v : StX) (w : StM) : Prop := RelS v.1 w.1 ∧ RelW v.2.1 w.2.2.2.2.1 w.2.2.2.2.2.1 w.2.2.2.2.2.2.1 ∧ RelP v.2.2 w.2.1 w.2.2.1 w.2.2.2.1
theorem NR_0 : NR 0 0 := ⟨(false, 0), Nat.zero_le _, rfl, rfl⟩
theorem Rel_z : Rel zRX5 zRX6 := ⟨fun _ _ => NR_0, ⟨0, by omega, rfl, rfl, fun i h => absurd h (Nat.not_lt_zero i)⟩, ⟨0, 0, by omega, by omega, rfl, rfl, rfl, fun j h => absurd h (Nat.not_lt_zero j)⟩⟩
/-- what the reference says of its throwing isn't part of the relation -/
theorem Rel_t {v : StX} {w : StM} (h : Rel v w) (t : Int32) : Rel v (w.1, w.2.1, w.2.2.1, w.2.2.2.1, w.2.2.2.2.1, w.2.2.2.2.2.1, w.2.2.2.2.2.2.1, t) := h
/-! slots -/
theorem sl_of {a : Int32} (h1 : ¬ a < 0) (h2 : a < 8) : ∃ i, i < 8 ∧ a = nI i := by
  obtain ⟨j, hj, rfl⟩ := nI_of h1
  exact ⟨j, (nI_ltI (a := j) (b := 8) hj (by omega)).mp h2, rfl⟩
theorem sl_in {i : Nat} (h : i < 8) : ¬ (nI i < 0 ∨ 8 ≤ (nI i).toNatClampNeg) := nI_in h (by omega)
theorem sl_cl {i : Nat} (h : i < 8) : (nI i).toNatClampNeg = i := nI_clamp (by omega)
theorem chk_ok {i : Nat} (h : i < 8) : f_X5_checkSlot (nI i) = some (.inr ()) := by
  unfold f_X5_checkSlot
  rw [if_neg (nI_pos (by omega)), if_pos (show nI i < 8 from (nI_ltI (b := 8) (by omega) (by omega)).mpr h)]
theorem is_ok {i : Nat} (h : i < 8) : f_X6_isSlot (nI i) = true := by
  unfold f_X6_isSlot f_X6_in
  rw [if_neg (nI_pos (by omega)), if_neg (show ¬ 7 < nI i from nI_nlt (a := 7) (by omega) (by omega))]
/-- a slot that is there, or not, in both -/
theorem sl_c (a : Int32) : (∃ i, i < 8 ∧ a = nI i) ∨ (f_X5_checkSlot a = some (.inl "java/lang/IndexOutOfBoundsException") ∧ f_X6_isSlot a = false) := by
  by_cases h1 : a < 0
  · right
    unfold f_X5_checkSlot f_X6_isSlot f_X6_in
    rw [if_pos h1, if_pos h1]
    exact ⟨rfl, rfl⟩
  · by_cases h2 : a < 8
    · exact Or.inl (sl_of h1 h2)
    · right
      unfold f_X5_checkSlot f_X6_isSlot f_X6_in
      have h3 : (7 : Int32) < a := by
        have e7 : (7 : Int32).toInt = 7 := rfl
        have e8 : (8 : Int32).toInt = 8 := rfl
        rw [fa_lt, e8] at h2
        rw [fa_lt, e7]
        omega
      rw [if_neg h1, if_neg h2, if_neg h1, if_pos h3]
      exact ⟨rfl, rfl⟩
theorem rg_c (a lo hi : Int32) : (f_X5_checkRange a lo hi = some (.inr ()) ∧ f_X6_in a lo hi = true ∧ ¬ a < lo ∧ ¬ hi < a) ∨ (f_X5_checkRange a lo hi = some (.inl "java/lang/IllegalArgumentException") ∧ f_X6_in a lo hi = false) := by
  unfold f_X5_checkRange f_X6_in
  by_cases h1 : a < lo
  · right; rw [if_pos h1, if_pos h1]; exact ⟨rfl, rfl⟩
  · by_cases h2 : hi < a
    · right; rw [if_neg h1, if_neg h1, if_pos h2, if_pos h2]; exact ⟨rfl, rfl⟩
    · left; rw [if_neg h1, if_neg h1, if_neg h2, if_neg h2]; exact ⟨rfl, rfl, h1, h2⟩
/-- the reference's state with the kind of throw t -/
def wt (w : StM) (t : Int32) : StM := (w.1, w.2.1, w.2.2.1, w.2.2.2.1, w.2.2.2.2.1, w.2.2.2.2.2.1, w.2.2.2.2.2.2.1, t)
theorem lk1 (w : StM) (a : Int32) : f_X6_lacks w a = some (!(f_X6_isSlot a), wt w (if f_X6_isSlot a = true then 0 else 1)) := rfl
theorem lk1_t {w : StM} {i : Nat} (h : i < 8) : f_X6_lacks w (nI i) = some (false, wt w 0) := by rw [lk1, is_ok h]; rfl
theorem lk1_f {w : StM} {a : Int32} (h : f_X6_isSlot a = false) : f_X6_lacks w a = some (true, wt w 1) := by rw [lk1, h]; rfl
theorem lk2_t {w : StM} {i j : Nat} (h : i < 8) (k : j < 8) : f_X6_lacks_ w (nI i) (nI j) = some (false, wt w 0) := by unfold f_X6_lacks_; rw [is_ok h, is_ok k]; rfl
theorem lk2_f {w : StM} {a : Int32} (b : Int32) (h : f_X6_isSlot a = false) : f_X6_lacks_ w a b = some (true, wt w 1) := by unfold f_X6_lacks_; rw [h]; rfl
theorem lk2_g {w : StM} {i : Nat} {b : Int32} (h : i < 8) (k : f_X6_isSlot b = false) : f_X6_lacks_ w (nI i) b = some (true, wt w 1) := by unfold f_X6_lacks_; rw [is_ok h, k]; rfl
theorem lk3_t {w : StM} {i j k : Nat} (h : i < 8) (g : j < 8) (f : k < 8) : f_X6_lacks__ w (nI i) (nI j) (nI k) = some (false, wt w 0) := by unfold f_X6_lacks__; rw [is_ok h, is_ok g, is_ok f]; rfl
theorem lk3_f {w : StM} {a : Int32} (b c : Int32) (h : f_X6_isSlot a = false) : f_X6_lacks__ w a b c = some (true, wt w 1) := by unfold f_X6_lacks__; rw [h]; rfl
theorem lk3_g {w : StM} {i : Nat} {b : Int32} (c : Int32) (h : i < 8) (k : f_X6_isSlot b = false) : f_X6_lacks__ w (nI i) b c = some (true, wt w 1) := by unfold f_X6_lacks__; rw [is_ok h, k]; rfl
theorem lk3_h {w : StM} {i j : Nat} {c : Int32} (h : i < 8) (g : j < 8) (k : f_X6_isSlot c = false) : f_X6_lacks__ w (nI i) (nI j) c = some (true, wt w 1) := by unfold f_X6_lacks__; rw [is_ok h, is_ok g, k]; rfl
/-! a slot takes a number -/
theorem uS {v w : Nat → Int64} (h : RelS v w) {i : Nat} {x c : Int64} (k : NR x c) : RelS (vp_updL v i x) (vp_updL w i c) := by
  intro j hj
  unfold vp_updL
  by_cases e : j = i
  · rw [if_pos e, if_pos e]; exact k
  · rw [if_neg e, if_neg e]; exact h j hj
theorem nI_rem8 {a : Nat} (h : a < 100) : nI a - nI a / 8 * 8 = nI (a % 8) := pk_rem (d := 8) (by omega) (by omega) (by omega)
/-- the shift of a full past -/
theorem shift_L (u : StM) (a0 : Int32) (a1 : Int64) : ∀ (d n k : Nat) (s : StM), k + d = 8 → d < n → 1 ≤ k → f_X6_becomes_L12 u a0 a1 n (nI k) s = f_X6_becomes_L12 u a0 a1 (n - d) (nI 8) (s.1, fun j => if k - 1 ≤ j ∧ j < 7 then s.2.1 (j + 1) else s.2.1 j, fun j => if k - 1 ≤ j ∧ j < 7 then s.2.2.1 (j + 1) else s.2.2.1 j, s.2.2.2) := by
  intro d
  induction d with
  | zero =>
    intro n k s hk hn h1
    obtain rfl : k = 8 := by omega
    have e1 : (fun j => if 8 - 1 ≤ j ∧ j < 7 then s.2.1 (j + 1) else s.2.1 j) = s.2.1 := funext fun j => if_neg (by omega)
    have e2 : (fun j => if 8 - 1 ≤ j ∧ j < 7 then s.2.2.1 (j + 1) else s.2.2.1 j) = s.2.2.1 := funext fun j => if_neg (by omega)
    rw [e1, e2]
    rfl
  | succ d ih =>
    intro n k s hk hn h1
    obtain ⟨n, rfl⟩ : ∃ m, n = m + 1 := ⟨n - 1, by omega⟩
    have p1 : nI k - 1 = nI (k - 1) := pk_sub (b := 1) h1
    rw [f_X6_becomes_L12, if_pos (show nI k < 8 from (nI_ltI (b := 8) (by omega) (by omega)).mpr (by omega)), p1, if_neg (sl_in (by omega)), if_neg (sl_in (by omega)), if_neg (sl_in (by omega)), if_neg (sl_in (by omega)), sl_cl (by omega), sl_cl (by omega)]
    rw [show nI k + 1 = nI (k + 1) from nI_1 k, ih n (k + 1) _ (by omega) (by omega) (by omega), show n + 1 - (d + 1) = n - d by omega]
    have e1 : (fun j => if k + 1 - 1 ≤ j ∧ j < 7 then upd s.2.1 (k - 1) (s.2.1 k) (j + 1) else upd s.2.1 (k - 1) (s.2.1 k) j) = fun j => if k - 1 ≤ j ∧ j < 7 then s.2.1 (j + 1) else s.2.1 j := by
      funext j
      unfold upd
      by_cases c : k + 1 - 1 ≤ j ∧ j < 7
      · rw [if_pos c, if_neg (by omega), if_pos (by omega)]
      · rw [if_neg c]
        by_cases c2 : j = k - 1
        · rw [if_pos c2, if_pos (show k - 1 ≤ j ∧ j < 7 by omega)]; exact congrArg s.2.1 (by omega)
        · rw [if_neg c2, if_neg (by omega)]
    have e2 : (fun j => if k + 1 - 1 ≤ j ∧ j < 7 then vp_updL s.2.2.1 (k - 1) (s.2.2.1 k) (j + 1) else vp_updL s.2.2.1 (k - 1) (s.2.2.1 k) j) = fun j => if k - 1 ≤ j ∧ j < 7 then s.2.2.1 (j + 1) else s.2.2.1 j := by
      funext j
      unfold vp_updL
      by_cases c : k + 1 - 1 ≤ j ∧ j < 7
      · rw [if_pos c, if_neg (by omega), if_pos (by omega)]
      · rw [if_neg c]
        by_cases c2 : j = k - 1
        · rw [if_pos c2, if_pos (show k - 1 ≤ j ∧ j < 7 by omega)]; exact congrArg s.2.2.1 (by omega)
        · rw [if_neg c2, if_neg (by omega)]
    show f_X6_becomes_L12 u a0 a1 (n - d) (nI 8) (s.1, (fun j => if k + 1 - 1 ≤ j ∧ j < 7 then upd s.2.1 (k - 1) (s.2.1 k) (j + 1) else upd s.2.1 (k - 1) (s.2.1 k) j), (fun j => if k + 1 - 1 ≤ j ∧ j < 7 then vp_updL s.2.2.1 (k - 1) (s.2.2.1 k) (j + 1) else vp_updL s.2.2.1 (k - 1) (s.2.2.1 k) j), s.2.2.2) = _
    rw [e1, e2]
/-- both become a number -/
theorem v_become {v : StX} {w : StM} (h : Rel v w) {i : Nat} (hi : i < 8) {z : NV} (hz : ok z) :
    ∃ v' w', f_X5_become v (nI i) (cB z) = some (f_X0_placeOf (cB z), v') ∧ f_X6_becomes w (nI i) (cC z) = some (f_X0_placeOf (cB z), w') ∧ Rel v' w' ∧ w'.2.2.2.2.2.2.2 = w.2.2.2.2.2.2.2 := by
  obtain ⟨hS, hW, a, l, ha, hl, hl1, ha1, ha2, hE⟩ := h
  have e1 : v.2.2.2.2.1 + 1 - (v.2.2.2.2.1 + 1) / 8 * 8 = nI ((l + 1) % 8) := by rw [hl1, nI_1]; exact nI_rem8 (by omega)
  have eA : f_X5_become v (nI i) (cB z) = some (f_X0_placeOf (cB z), (vp_updL v.1 i (cB z), v.2.1, (upd v.2.2.1 ((l + 1) % 8) (nI i), vp_updL v.2.2.2.1 ((l + 1) % 8) (v.1 i), nI ((l + 1) % 8), if 8 < v.2.2.2.2.2 + 1 then 8 else v.2.2.2.2.2 + 1))) := by
    unfold f_X5_become f_X2_keep
    rw [if_neg (sl_in hi), e1, if_neg (sl_in (by omega)), if_neg (sl_in (by omega)), sl_cl hi, sl_cl (by omega)]
    show (if (nI i < 0 ∨ 8 ≤ i) then none else _) = _
    rw [if_neg (fun k => by rcases k with k | k; exact nI_pos (by omega) k; omega)]
  have eP : f_X6_placeOf (cC z) = f_X0_placeOf (cB z) := (v_place hz).2
  by_cases c : a = 8
  · -- the past is full
    subst c
    have eB : f_X6_becomes w (nI i) (cC z) = some (f_X0_placeOf (cB z), (vp_updL w.1 i (cC z), upd (fun j => if 1 - 1 ≤ j ∧ j < 7 then w.2.1 (j + 1) else w.2.1 j) 7 (nI i), vp_updL (fun j => if 1 - 1 ≤ j ∧ j < 7 then w.2.2.1 (j + 1) else w.2.2.1 j) 7 (w.1 i), nI 8, w.2.2.2.2)) := by
      unfold f_X6_becomes
      rw [if_pos (show w.2.2.2.1 = 8 from ha2)]
      have sL := shift_L w (nI i) (cC z) 7 100 1 w (by omega) (by omega) (by omega)
      rw [show (1 : Int32) = nI 1 from rfl, sL, f_X6_becomes_L12, if_neg (show ¬ nI 8 < 8 by decide)]
      have p : w.2.2.2.1 - 1 = nI 7 := by rw [ha2]; rfl
      simp only [p]
      rw [if_neg (sl_in (by omega)), if_neg (sl_in hi), if_neg (sl_in (by omega)), if_neg (sl_in hi), sl_cl hi, sl_cl (by omega), eP]
      rfl
    have cnt : (if 8 < v.2.2.2.2.2 + 1 then 8 else v.2.2.2.2.2 + 1) = nI 8 := by rw [ha1]; rfl
    rw [cnt] at eA
    refine ⟨_, _, eA, eB, ⟨uS hS ⟨z, hz, rfl, rfl⟩, hW, 8, (l + 1) % 8, by omega, by omega, rfl, rfl, rfl, ?_⟩, rfl⟩
    intro j hj
    by_cases cj : j = 7
    · subst cj
      refine ⟨i, hi, ?_, ?_, ?_⟩
      · show upd (fun j => if 1 - 1 ≤ j ∧ j < 7 then w.2.1 (j + 1) else w.2.1 j) 7 (nI i) 7 = nI i
        exact pk_us
      · rw [show ((l + 1) % 8 + 9 + 7 - 8) % 8 = (l + 1) % 8 by omega]; exact pk_us
      · rw [show ((l + 1) % 8 + 9 + 7 - 8) % 8 = (l + 1) % 8 by omega]
        show NR (vp_updL v.2.2.2.1 ((l + 1) % 8) (v.1 i) ((l + 1) % 8)) (vp_updL (fun j => if 1 - 1 ≤ j ∧ j < 7 then w.2.2.1 (j + 1) else w.2.2.1 j) 7 (w.1 i) 7)
        rw [pk_uLs, pk_uLs]; exact hS i hi
    · obtain ⟨q, hq, s1, s2, s3⟩ := hE (j + 1) (by omega)
      have ee : (l + 9 + (j + 1) - 8) % 8 = ((l + 1) % 8 + 9 + j - 8) % 8 := by omega
      have ne : ((l + 1) % 8 + 9 + j - 8) % 8 ≠ (l + 1) % 8 := by omega
      rw [ee] at s2 s3
      refine ⟨q, hq, ?_, ?_, ?_⟩
      · show upd (fun j => if 1 - 1 ≤ j ∧ j < 7 then w.2.1 (j + 1) else w.2.1 j) 7 (nI i) j = nI q
        rw [pk_un cj]
        show (if 1 - 1 ≤ j ∧ j < 7 then w.2.1 (j + 1) else w.2.1 j) = nI q
        rw [if_pos (by omega)]; exact s1
      · show upd v.2.2.1 ((l + 1) % 8) (nI i) _ = nI q
        rw [pk_un ne]; exact s2
      · show NR (vp_updL v.2.2.2.1 ((l + 1) % 8) (v.1 i) (((l + 1) % 8 + 9 + j - 8) % 8)) (vp_updL (fun j => if 1 - 1 ≤ j ∧ j < 7 then w.2.2.1 (j + 1) else w.2.2.1 j) 7 (w.1 i) j)
        rw [pk_uLn ne, pk_uLn cj, if_pos (by omega)]; exact s3
  · have eB : f_X6_becomes w (nI i) (cC z) = some (f_X0_placeOf (cB z), (vp_updL w.1 i (cC z), upd w.2.1 a (nI i), vp_updL w.2.2.1 a (w.1 i), nI (a + 1), w.2.2.2.2)) := by
      unfold f_X6_becomes
      rw [ha2, if_neg (show ¬ nI a = 8 from fun k => c ((nI_eq (b := 8) (by omega) (by omega)).mp k)), if_neg (sl_in (by omega)), if_neg (sl_in hi), if_neg (sl_in (by omega)), if_neg (sl_in hi), sl_cl hi, sl_cl (by omega), eP, nI_1]
    have cnt : (if 8 < v.2.2.2.2.2 + 1 then 8 else v.2.2.2.2.2 + 1) = nI (a + 1) := by
      rw [ha1, nI_1, if_neg (show ¬ 8 < nI (a + 1) from nI_nlt (a := 8) (by omega) (by omega))]
    rw [cnt] at eA
    refine ⟨_, _, eA, eB, ⟨uS hS ⟨z, hz, rfl, rfl⟩, hW, a + 1, (l + 1) % 8, by omega, by omega, rfl, rfl, rfl, ?_⟩, rfl⟩
    intro j hj
    by_cases cj : j = a
    · subst cj
      refine ⟨i, hi, ?_, ?_, ?_⟩
      · exact pk_us
      · rw [show ((l + 1) % 8 + 9 + j - (j + 1)) % 8 = (l + 1) % 8 by omega]; exact pk_us
      · rw [show ((l + 1) % 8 + 9 + j - (j + 1)) % 8 = (l + 1) % 8 by omega]
        show NR (vp_updL v.2.2.2.1 ((l + 1) % 8) (v.1 i) ((l + 1) % 8)) (vp_updL _ j (w.1 i) j)
        rw [pk_uLs, pk_uLs]; exact hS i hi
    · obtain ⟨q, hq, s1, s2, s3⟩ := hE j (by omega)
      have ee : (l + 9 + j - a) % 8 = ((l + 1) % 8 + 9 + j - (a + 1)) % 8 := by omega
      have ne : ((l + 1) % 8 + 9 + j - (a + 1)) % 8 ≠ (l + 1) % 8 := by omega
      rw [ee] at s2 s3
      refine ⟨q, hq, ?_, ?_, ?_⟩
      · show upd w.2.1 a (nI i) j = nI q
        rw [pk_un cj]; exact s1
      · show upd v.2.2.1 ((l + 1) % 8) (nI i) _ = nI q
        rw [pk_un ne]; exact s2
      · show NR (vp_updL v.2.2.2.1 ((l + 1) % 8) (v.1 i) _) (vp_updL w.2.2.1 a (w.1 i) j)
        rw [pk_uLn ne, pk_uLn cj]; exact s3
