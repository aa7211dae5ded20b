/-! steps one by one -/
def itr (g : NV → NV) : Nat → NV → NV
  | 0, v => v
  | n + 1, v => itr g n (g v)
def cnt (g : NV → NV) : Nat → NV → Nat
  | 0, _ => 0
  | n + 1, v => (if g v = v then 0 else 1) + cnt g n (g v)
theorem itr_s (g : NV → NV) : ∀ (n : Nat) (v : NV), itr g (n + 1) v = g (itr g n v) := by
  intro n
  induction n with
  | zero => intro v; rfl
  | succ n ih => intro v; exact ih (g v)
theorem cnt_s (g : NV → NV) : ∀ (n : Nat) (v : NV), cnt g (n + 1) v = cnt g n v + (if g (itr g n v) = itr g n v then 0 else 1) := by
  intro n
  induction n with
  | zero => intro v; show _ + 0 = 0 + _; rw [Nat.add_zero, Nat.zero_add]; rfl
  | succ n ih =>
    intro v
    show _ + cnt g (n + 1) (g v) = _ + cnt g n (g v) + _
    rw [ih (g v), Nat.add_assoc]
    rfl
theorem itr_ok {g : NV → NV} (hg : ∀ v, ok v → ok (g v)) : ∀ (n : Nat) (v : NV), ok v → ok (itr g n v) := by
  intro n
  induction n with
  | zero => intro v h; exact h
  | succ n ih => intro v h; exact ih _ (hg v h)
theorem itr_up {v : NV} (h : ok v) : ∀ n, itr up1 n v = upn v n := by
  intro n
  induction n with
  | zero => exact (upn_0 v h).symm
  | succ n ih => rw [itr_s, ih]; exact upn_s v n h
theorem up1_fix {v : NV} (h : ok v) : up1 v = v ↔ pl v = 9218868437227405312 := by
  have p := upn_P v 1 h
  have b := pl_b h
  constructor
  · intro e
    rw [← up1_eq h, e] at p
    show gP v.1 v.2 = 9218868437227405312
    have b' : gP v.1 v.2 ≤ 9218868437227405312 := b.2
    split at p <;> omega
  · intro e
    unfold up1
    rw [if_pos (show gP v.1 v.2 = 9218868437227405312 from e)]
theorem cnt_up {v : NV} (h : ok v) : ∀ n, (cnt up1 n v : Int) = pl (upn v n) - pl v := by
  intro n
  induction n with
  | zero => rw [upn_0 v h]; show (0 : Int) = _; omega
  | succ n ih =>
    have p1 : pl (upn v n) = _ := upn_P v n h
    have p2 : pl (upn v (n + 1)) = _ := upn_P v (n + 1) h
    have b := pl_b h
    have b' : gP v.1 v.2 ≤ 9218868437227405312 := b.2
    have e := up1_fix (ok_upn n h)
    rw [cnt_s, itr_up h]
    by_cases c : pl (upn v n) = 9218868437227405312
    · rw [if_pos (e.mpr c)]
      split at p1 <;> split at p2 <;> omega
    · rw [if_neg (fun k => c (e.mp k))]
      split at p1 <;> split at p2 <;> omega
theorem cnt_le (g : NV → NV) : ∀ (n : Nat) (v : NV), cnt g n v ≤ n := by
  intro n
  induction n with
  | zero => intro v; exact Nat.le_refl _
  | succ n ih =>
    intro v
    have := ih (g v)
    show (if g v = v then 0 else 1) + cnt g n (g v) ≤ n + 1
    split <;> omega
theorem itr_dn {v : NV} : ∀ n, itr dn1 n v = opp (itr up1 n (opp v)) := by
  intro n
  induction n generalizing v with
  | zero => exact (opp_opp v).symm
  | succ n ih =>
    show itr dn1 n (dn1 v) = opp (itr up1 n (up1 (opp v)))
    rw [ih]
    show opp (itr up1 n (opp (opp (up1 (opp v))))) = _
    rw [opp_opp]
theorem cnt_dn {v : NV} : ∀ n, cnt dn1 n v = cnt up1 n (opp v) := by
  intro n
  induction n generalizing v with
  | zero => rfl
  | succ n ih =>
    show (if dn1 v = v then 0 else 1) + cnt dn1 n (dn1 v) = (if up1 (opp v) = opp v then 0 else 1) + cnt up1 n (up1 (opp v))
    rw [ih]
    show _ + cnt up1 n (opp (opp (up1 (opp v)))) = _
    rw [opp_opp]
    congr 1
    have e : dn1 v = v ↔ up1 (opp v) = opp v := by
      unfold dn1
      constructor
      · intro k
        have k2 := congrArg opp k
        rw [opp_opp] at k2
        exact k2
      · intro k; rw [k, opp_opp]
    by_cases c : dn1 v = v
    · rw [if_pos c, if_pos (e.mp c)]
    · rw [if_neg c, if_neg (fun k => c (e.mpr k))]
/-- a loop that steps a number i times up to N and counts the steps that move -/
theorem loop_g {β : Type} (g : NV → NV) (hg : ∀ v, ok v → ok (g v)) (enc : NV → Int64) (N : Nat) (hN : N ≤ 64) (F : Nat → Int32 → Int32 → Int64 → Option β) (fin : Int32 → Int64 → Option β)
    (h1 : ∀ n i k v, ok v → i < N → k ≤ i → F (n + 1) (nI i) (nI k) (enc v) = F n (nI (i + 1)) (nI (if g v = v then k else k + 1)) (enc (g v)))
    (h2 : ∀ n k v, ok v → F (n + 1) (nI N) k (enc v) = fin k (enc v)) :
    ∀ (d n i k : Nat) (v : NV), i + d = N → d < n → k ≤ i → ok v → F n (nI i) (nI k) (enc v) = fin (nI (k + cnt g d v)) (enc (itr g d v)) := by
  intro d
  induction d with
  | zero =>
    intro n i k v hi hn hk hv
    obtain ⟨n, rfl⟩ : ∃ m, n = m + 1 := ⟨n - 1, by omega⟩
    obtain rfl : i = N := by omega
    exact h2 n (nI k) v hv
  | succ d ih =>
    intro n i k v hi hn hk hv
    obtain ⟨n, rfl⟩ : ∃ m, n = m + 1 := ⟨n - 1, by omega⟩
    rw [h1 n i k v hv (by omega) hk]
    show _ = fin (nI (k + ((if g v = v then 0 else 1) + cnt g d (g v)))) (enc (itr g d (g v)))
    by_cases c : g v = v
    · rw [if_pos c, if_pos c, ih n (i + 1) k (g v) (by omega) (by omega) (by omega) (hg v hv), Nat.zero_add]
    · rw [if_neg c, if_neg c, ih n (i + 1) (k + 1) (g v) (by omega) (by omega) (by omega) (hg v hv), Nat.add_assoc]
/-- the reference's steps -/
theorem m_steps {u : StM} {i : Nat} (hi : i < 8) {N : Nat} (hN : N ≤ 64) {z : NV} (hz : ok z) (q : u.1 i = cC z) (g : NV → NV) (hg : ∀ v, ok v → ok (g v)) (kd : Int32) (to : Int64)
    (hs : ∀ v, ok v → (if kd = 117 then f_X6_above (cC v) else if kd = 100 then f_X6_below (cC v) else f_X6_nearer (cC v) to) = cC (g v)) :
    f_X6_steps u (nI i) (nI N) kd to = (f_X6_becomes u (nI i) (cC (itr g N z))).bind fun r => some (nI (cnt g N z), r.2) := by
  have L := loop_g g hg cC N hN (fun n j k x => f_X6_steps_L14 u (nI i) (nI N) kd to n j k x) (fun k x => (f_X6_becomes u (nI i) x).bind fun r => some (k, r.2))
    (fun n j k v hv hj hk => by
      have s := hs v hv
      have inj := cC_inj (hg v hv) hv
      show f_X6_steps_L14 u (nI i) (nI N) kd to (n + 1) (nI j) (nI k) (cC v) = _
      rw [f_X6_steps_L14, if_pos ((nI_ltI (by omega) (by omega)).mpr hj)]
      by_cases c1 : kd = 117
      · rw [if_pos c1] at s ⊢
        rw [s, nI_1, nI_1]
        by_cases c : g v = v
        · rw [if_pos (inj.mpr c), if_pos c]
        · rw [if_neg (fun k => c (inj.mp k)), if_neg c]
      · rw [if_neg c1] at s ⊢
        by_cases c2 : kd = 100
        · rw [if_pos c2] at s ⊢
          rw [s, nI_1, nI_1]
          by_cases c : g v = v
          · rw [if_pos (inj.mpr c), if_pos c]
          · rw [if_neg (fun k => c (inj.mp k)), if_neg c]
        · rw [if_neg c2] at s ⊢
          rw [s, nI_1, nI_1]
          by_cases c : g v = v
          · rw [if_pos (inj.mpr c), if_pos c]
          · rw [if_neg (fun k => c (inj.mp k)), if_neg c])
    (fun n k v hv => by
      show f_X6_steps_L14 u (nI i) (nI N) kd to (n + 1) (nI N) k (cC v) = _
      rw [f_X6_steps_L14, if_neg (nI_nlt (Nat.le_refl _) (by omega))])
  unfold f_X6_steps
  rw [if_neg (sl_in hi), sl_cl hi, q]
  have e := L N 100 0 0 z (by omega) (by omega) (by omega) hz
  rw [Nat.zero_add] at e
  exact e
