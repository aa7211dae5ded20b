/-! a word done, forward and back -/
def wdF (k n : Int32) (z : NV) : NV := if k = 110 then opp z else if k = 120 then scl z n.toInt else if k = 117 then upn z n.toInt.toNat else opp (upn (opp z) n.toInt.toNat)
def wdB (k n : Int32) (z : NV) : NV := if k = 110 then opp z else if k = 120 then scl z (-n.toInt) else if k = 117 then opp (upn (opp z) n.toInt.toNat) else upn z n.toInt.toNat
theorem ok_wdF {k n : Int32} {z : NV} (h : ok z) : ok (wdF k n z) := by
  unfold wdF
  split
  · exact ok_opp h
  · split
    · exact ok_scl h _
    · split
      · exact ok_upn _ h
      · exact ok_opp (ok_upn _ (ok_opp h))
theorem ok_wdB {k n : Int32} {z : NV} (h : ok z) : ok (wdB k n z) := by
  unfold wdB
  split
  · exact ok_opp h
  · split
    · exact ok_scl h _
    · split
      · exact ok_opp (ok_upn _ (ok_opp h))
      · exact ok_upn _ h
theorem x_wdF {k n : Int32} (hw : wok k n) {z : NV} (h : ok z) : f_X3_done k n (cB z) = cB (wdF k n z) := by
  have z0 : (0 : Int32).toInt = 0 := rfl
  unfold f_X3_done wdF
  rcases hw with ⟨hk, h1, h2⟩ | ⟨rfl, h1, h2⟩ | ⟨rfl, rfl⟩
  · obtain ⟨N, hN⟩ : ∃ N : Nat, n.toInt = N := ⟨n.toInt.toNat, by omega⟩
    obtain rfl : n = nI N := lit_n n hN (by omega)
    have tn : (nI N).toInt.toNat = N := by rw [hN]; rfl
    rcases hk with rfl | rfl
    · rw [if_neg (by decide), if_neg (by decide), if_pos rfl, if_neg (nI_pos (by omega)), if_neg (by decide), if_neg (by decide), if_pos rfl, tn]
      exact v_raised h (by omega)
    · rw [if_neg (by decide), if_neg (by decide), if_neg (by decide), if_neg (show ¬ (100 : Int32) = 110 by decide), if_neg (show ¬ (100 : Int32) = 120 by decide), if_neg (show ¬ (100 : Int32) = 117 by decide), tn]
      have ng : (-nI N).toInt = -(N : Int) := by rw [fb_negI (by omega), hN]
      by_cases c : N = 0
      · subst c
        rw [if_neg (show ¬ -nI 0 < 0 by decide), upn_0 (opp z) h, opp_opp]
        have e := v_raised h (n := 0) (by omega)
        rw [upn_0 z h] at e
        exact e
      · rw [if_pos (by rw [fa_lt, ng, z0]; omega), Int32.neg_neg]
        exact v_lowered h (by omega)
  · have sc := v_scaled h (a := n) (by omega)
    rw [if_neg (by decide), if_pos rfl, if_neg (by decide), if_pos rfl]
    exact sc.1
  · rw [if_pos rfl, if_pos rfl]
    exact (v_opp h).1
theorem x_wdB {k n : Int32} (hw : wok k n) {z : NV} (h : ok z) : f_X3_done k (-n) (cB z) = cB (wdB k n z) := by
  have z0 : (0 : Int32).toInt = 0 := rfl
  unfold f_X3_done wdB
  rcases hw with ⟨hk, h1, h2⟩ | ⟨rfl, h1, h2⟩ | ⟨rfl, rfl⟩
  · obtain ⟨N, hN⟩ : ∃ N : Nat, n.toInt = N := ⟨n.toInt.toNat, by omega⟩
    obtain rfl : n = nI N := lit_n n hN (by omega)
    have tn : (nI N).toInt.toNat = N := by rw [hN]; rfl
    have ng : (-nI N).toInt = -(N : Int) := by rw [fb_negI (by omega), hN]
    rcases hk with rfl | rfl
    · rw [if_neg (by decide), if_neg (by decide), if_pos rfl, if_neg (show ¬ (117 : Int32) = 110 by decide), if_neg (show ¬ (117 : Int32) = 120 by decide), if_pos rfl, tn]
      by_cases c : N = 0
      · subst c
        rw [if_neg (show ¬ -nI 0 < 0 by decide), upn_0 (opp z) h, opp_opp]
        have e := v_raised h (n := 0) (by omega)
        rw [upn_0 z h] at e
        exact e
      · rw [if_pos (by rw [fa_lt, ng, z0]; omega), Int32.neg_neg]
        exact v_lowered h (by omega)
    · rw [if_neg (by decide), if_neg (by decide), if_neg (by decide), if_neg (show ¬ (100 : Int32) = 110 by decide), if_neg (show ¬ (100 : Int32) = 120 by decide), if_neg (show ¬ (100 : Int32) = 117 by decide), tn, Int32.neg_neg, if_neg (nI_pos (by omega))]
      exact v_raised h (by omega)
  · have ng : (-n).toInt = -n.toInt := fb_negI (by omega)
    have sc := v_scaled h (a := -n) (by omega)
    rw [ng] at sc
    rw [if_neg (by decide), if_pos rfl, if_neg (by decide), if_pos rfl]
    exact sc.1
  · rw [if_pos rfl, if_pos rfl]
    exact (v_opp h).1
theorem m_doneL (u : StM) (a0 : Int32) (a1 : Int64) (a2 : Bool) (kd bk : Int32) {N : Nat} (hN : N ≤ 15) (g : NV → NV) (hg : ∀ v, ok v → ok (g v))
    (hs : ∀ v, ok v → (if kd = 117 then (if 1 = bk then f_X6_below (cC v) else f_X6_above (cC v)) else (if 0 = bk then f_X6_below (cC v) else f_X6_above (cC v))) = cC (g v)) :
    ∀ (d n i : Nat) (v : NV), i + d = N → d < n → ok v → f_X6_done_L59 u a0 a1 a2 n (nI i) (cC v) (nI N) kd bk = some (cC (itr g d v)) := by
  intro d
  induction d with
  | zero =>
    intro n i v hi hn hv
    obtain ⟨n, rfl⟩ : ∃ m, n = m + 1 := ⟨n - 1, by omega⟩
    obtain rfl : i = N := by omega
    rw [f_X6_done_L59, if_neg (nI_nlt (Nat.le_refl _) (by omega))]
    rfl
  | succ d ih =>
    intro n i v hi hn hv
    obtain ⟨n, rfl⟩ : ∃ m, n = m + 1 := ⟨n - 1, by omega⟩
    have s := hs v hv
    have r := ih n (i + 1) (g v) (by omega) (by omega) (hg v hv)
    rw [f_X6_done_L59, if_pos ((nI_ltI (by omega) (by omega)).mpr (by omega)), nI_1]
    by_cases c1 : kd = 117
    · rw [if_pos c1] at s ⊢
      by_cases c2 : 1 = bk
      · rw [if_pos c2] at s ⊢; rw [s]; exact r
      · rw [if_neg c2] at s ⊢; rw [s]; exact r
    · rw [if_neg c1] at s ⊢
      by_cases c2 : 0 = bk
      · rw [if_pos c2] at s ⊢; rw [s]; exact r
      · rw [if_neg c2] at s ⊢; rw [s]; exact r
theorem dn_upn {z : NV} (h : ok z) (N : Nat) : itr dn1 N z = opp (upn (opp z) N) := by rw [itr_dn, itr_up (ok_opp h)]
theorem m_wd {u : StM} {i : Nat} (hi : i < 40) {k n : Int32} (ek : u.2.2.2.2.1 i = k) (en : u.2.2.2.2.2.1 i = n) (hw : wok k n) {z : NV} (h : ok z) :
    f_X6_done u (nI i) (cC z) false = some (cC (wdF k n z)) ∧ f_X6_done u (nI i) (cC z) true = some (cC (wdB k n z)) := by
  unfold f_X6_done wdF wdB
  rw [if_neg (nI_in hi (by omega)), if_neg (nI_in hi (by omega)), if_neg (nI_in hi (by omega)), if_neg (nI_in hi (by omega)), nI_clamp (by omega), ek, en]
  rcases hw with ⟨hk, h1, h2⟩ | ⟨rfl, h1, h2⟩ | ⟨rfl, rfl⟩
  · obtain ⟨N, hN⟩ : ∃ N : Nat, n.toInt = N := ⟨n.toInt.toNat, by omega⟩
    obtain rfl : n = nI N := lit_n n hN (by omega)
    have tn : (nI N).toInt.toNat = N := by rw [hN]; rfl
    have b0 : b2i false = 0 := rfl
    have b1 : b2i true = 1 := rfl
    have n1 : ¬ (1 : Int32) = 0 := by decide
    have n2 : ¬ (0 : Int32) = 1 := by decide
    have k1 : ¬ (100 : Int32) = 117 := by decide
    have k2 : ¬ (100 : Int32) = 110 := by decide
    have k3 : ¬ (100 : Int32) = 120 := by decide
    have k4 : ¬ (117 : Int32) = 110 := by decide
    have k5 : ¬ (117 : Int32) = 120 := by decide
    rcases hk with rfl | rfl
    · simp only [if_neg k4, if_neg k5, if_true, b0, b1, tn]
      constructor
      · have e := m_doneL u (nI i) (cC z) false 117 0 (N := N) (by omega) up1 (fun v h => ok_up1 h) (fun v h => by rw [if_pos rfl, if_neg n1]; exact v_above h) N 100 0 z (by omega) (by omega) h
        rw [itr_up h] at e
        exact e
      · have e := m_doneL u (nI i) (cC z) true 117 1 (N := N) (by omega) dn1 (fun v h => ok_dn1 h) (fun v h => by rw [if_pos rfl, if_pos rfl]; exact v_below h) N 100 0 z (by omega) (by omega) h
        rw [dn_upn h] at e
        exact e
    · simp only [if_neg k1, if_neg k2, if_neg k3, b0, b1, tn]
      constructor
      · have e := m_doneL u (nI i) (cC z) false 100 0 (N := N) (by omega) dn1 (fun v h => ok_dn1 h) (fun v h => by rw [if_neg k1, if_pos rfl]; exact v_below h) N 100 0 z (by omega) (by omega) h
        rw [dn_upn h] at e
        exact e
      · have e := m_doneL u (nI i) (cC z) true 100 1 (N := N) (by omega) up1 (fun v h => ok_up1 h) (fun v h => by rw [if_neg k1, if_neg n2]; exact v_above h) N 100 0 z (by omega) (by omega) h
        rw [itr_up h] at e
        exact e
  · have ng : (-n).toInt = -n.toInt := fb_negI (by omega)
    have s1 := v_scaled h (a := n) (by omega)
    have s2 := v_scaled h (a := -n) (by omega)
    rw [ng] at s2
    have k3 : ¬ (120 : Int32) = 110 := by decide
    simp only [if_neg k3, if_true, tf_F, if_false, s1.2, s2.2, obs, and_self]
  · simp only [if_true, (v_opp h).2, and_self]
/-! playing a row -/
theorem x_play {v : StR} {u : StM} (hW : RelW v u.2.2.2.2.1 u.2.2.2.2.2.1 u.2.2.2.2.2.2.1) (q0 : Int64) (c0 : Int64) : ∀ (d n i : Nat) (z : NV), nI (i + d) = v.2.2 → i + d ≤ 40 → d < n → ok z → ∃ r : NV, ok r ∧ f_X3_playedOn_L5 v q0 n (nI i) (cB z) = some (cB r) ∧ f_X6_played_L5 u c0 n (nI i) (cC z) = some (cC r) := by
  obtain ⟨a, ha, e1, e2, hE⟩ := hW
  intro d
  induction d with
  | zero =>
    intro n i z hi hi2 hn hz
    obtain ⟨n, rfl⟩ : ∃ m, n = m + 1 := ⟨n - 1, by omega⟩
    rw [e1] at hi
    have hi3 := (nI_eq (by omega) (by omega)).mp hi
    refine ⟨z, hz, ?_, ?_⟩
    · rw [f_X3_playedOn_L5, e1, if_neg (nI_nlt (by omega) (by omega))]
    · rw [f_X6_played_L5, e2, if_neg (nI_nlt (by omega) (by omega))]
  | succ d ih =>
    intro n i z hi hi2 hn hz
    obtain ⟨n, rfl⟩ : ∃ m, n = m + 1 := ⟨n - 1, by omega⟩
    have hi3 := (nI_eq (by omega) (by omega)).mp (hi.trans e1)
    obtain ⟨s1, s2, s3⟩ := hE i (by omega)
    have l : nI i < nI a := (nI_ltI (by omega) (by omega)).mpr (by omega)
    obtain ⟨r, o, r1, r2⟩ := ih n (i + 1) (wdF (u.2.2.2.2.1 i) (u.2.2.2.2.2.1 i) z) (by rw [show i + 1 + d = i + (d + 1) by omega]; exact hi) (by omega) (by omega) (ok_wdF hz)
    refine ⟨r, o, ?_, ?_⟩
    · rw [f_X3_playedOn_L5, e1, if_pos l, if_neg (nI_in (by omega) (by omega)), if_neg (nI_in (by omega) (by omega)), nI_clamp (by omega), s1, s2, x_wdF s3 hz, nI_1]
      exact r1
    · rw [f_X6_played_L5, e2, if_pos l, (m_wd (i := i) (by omega) rfl rfl s3 hz).1, obs, nI_1]
      exact r2
theorem x_back {v : StR} {u : StM} (hW : RelW v u.2.2.2.2.1 u.2.2.2.2.2.1 u.2.2.2.2.2.2.1) (q0 : Int64) (c0 : Int64) : ∀ (d n : Nat) (z : NV), nI d - 1 = nI d - 1 → (∃ a : Nat, v.2.2 = nI a ∧ d ≤ a ∧ a ≤ 40) → d < n → ok z → ∃ r : NV, ok r ∧ f_X3_playedBackOn_L10 v q0 n (nI d - 1) (cB z) = some (cB r) ∧ f_X6_playedBack_L10 u c0 n (nI d - 1) (cC z) = some (cC r) := by
  obtain ⟨a, ha, e1, e2, hE⟩ := hW
  intro d
  induction d with
  | zero =>
    intro n z _ _ hn hz
    obtain ⟨n, rfl⟩ : ∃ m, n = m + 1 := ⟨n - 1, by omega⟩
    refine ⟨z, hz, ?_, ?_⟩
    · rw [f_X3_playedBackOn_L10, if_pos (by decide)]
    · rw [f_X6_playedBack_L10, if_pos (by decide)]
  | succ d ih =>
    intro n z _ hb hn hz
    obtain ⟨n, rfl⟩ : ∃ m, n = m + 1 := ⟨n - 1, by omega⟩
    obtain ⟨b, hb1, hb2, hb3⟩ := hb
    have hba := (nI_eq (by omega) (by omega)).mp (hb1.symm.trans e1)
    subst hba
    obtain ⟨s1, s2, s3⟩ := hE d (by omega)
    have p : nI (d + 1) - 1 = nI d := pk_sub (b := 1) (by omega)
    have p2 : nI d + -1 = nI d - 1 := (Int32.sub_eq_add_neg _ _).symm
    obtain ⟨r, o, r1, r2⟩ := ih n (wdB (u.2.2.2.2.1 d) (u.2.2.2.2.2.1 d) z) rfl ⟨b, hb1, by omega, hb3⟩ (by omega) (ok_wdB hz)
    rw [p]
    refine ⟨r, o, ?_, ?_⟩
    · rw [f_X3_playedBackOn_L10, if_neg (nI_pos (by omega)), if_neg (nI_in (by omega) (by omega)), if_neg (nI_in (by omega) (by omega)), nI_clamp (by omega), s1, s2, x_wdB s3 hz, p2]
      exact r1
    · rw [f_X6_playedBack_L10, if_neg (nI_pos (by omega)), (m_wd (i := d) (by omega) rfl rfl s3 hz).2, obs, p2]
      exact r2
theorem x_playA {v : StX} {u : StM} (h : Rel v u) {z : NV} (hz : ok z) : ∃ r : NV, ok r ∧ f_X3_playedOn v.2.1 (cB z) = some (cB r) ∧ f_X6_played u (cC z) = some (cC r) := by
  obtain ⟨hS, hW, hP⟩ := h
  obtain ⟨a, ha, e1, e2, hE⟩ := id hW
  exact x_play hW (cB z) (cC z) a 100 0 z (by rw [Nat.zero_add]; exact e1.symm) (by omega) (by omega) hz
theorem x_backA {v : StX} {u : StM} (h : Rel v u) {z : NV} (hz : ok z) : ∃ r : NV, ok r ∧ f_X3_playedBackOn v.2.1 (cB z) = some (cB r) ∧ f_X6_playedBack u (cC z) = some (cC r) := by
  obtain ⟨hS, hW, hP⟩ := h
  obtain ⟨a, ha, e1, e2, hE⟩ := id hW
  unfold f_X3_playedBackOn f_X6_playedBack
  rw [e1, e2]
  exact x_back hW (cB z) (cC z) a 100 z rfl ⟨a, e1, Nat.le_refl _, ha⟩ (by omega) hz
