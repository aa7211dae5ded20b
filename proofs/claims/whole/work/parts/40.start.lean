/-! THE LAW, from its entry -/
theorem st_hl {l : Launch} (hf : l.flags = flags0) : l.stackTraces = false := by
  unfold Launch.stackTraces
  rw [hf]
  decide +kernel
theorem st_xw : ∀ w ∈ my_xw, w ∈ tables_1 := List.forall_mem_cons.mpr ⟨List.mem_of_getElem? (i := 365) (by decide +kernel), List.forall_mem_cons.mpr ⟨List.mem_of_getElem? (i := 381) (by decide +kernel), List.forall_mem_cons.mpr ⟨List.mem_of_getElem? (i := 655) (by decide +kernel), List.forall_mem_cons.mpr ⟨List.mem_of_getElem? (i := 611) (by decide +kernel), List.forall_mem_cons.mpr ⟨List.mem_of_getElem? (i := 770) (by decide +kernel), List.forall_mem_cons.mpr ⟨List.mem_of_getElem? (i := 334) (by decide +kernel), List.forall_mem_cons.mpr ⟨List.mem_of_getElem? (i := 336) (by decide +kernel), List.forall_mem_cons.mpr ⟨List.mem_of_getElem? (i := 338) (by decide +kernel), fun _ h => absurd h List.not_mem_nil⟩⟩⟩⟩⟩⟩⟩⟩
theorem st_J0 : ∀ w ∈ u_ws RJ0 TJ0 2, w ∈ lw_tbl := by decide +kernel
theorem st_J6 : ∀ w ∈ u_ws RJx00060 TJx00060 6, w ∈ lw_tbl := inJx00060
theorem st_arr {s : State} {args : Array Value} {ty : FieldType} (h : (Cond.arrayClass ty).before args s = true) : ∃ cA, ArrOfT s cA ty ∧ s.vm.findClass ("[" ++ ty.toString) = some cA := by
  obtain ⟨c, kA, comp, h1, h2, h3⟩ := Cond.arrayClass_spec (args := args) (first := s) (o := none) (s := s) (idx := []) h
  exact ⟨c, fun n z => ⟨fun k h => (by cases h), kA, h2, comp, h3⟩, h1⟩
theorem st_str {s : State} {b k : Nat} {tx : String} (h1 : (Cond.stringRef RX5 k tx).before #[Value.ref b] s = true) (h2 : (Cond.exactly (.string RX5 k) "java/lang/String").before #[Value.ref b] s = true) : ∃ a : Nat, vk_R RX5 k tx a s := by
  obtain ⟨a, c, cA, kA, q1, q2, q3, q4, q5, q6, -⟩ := Cond.exactly_spec (args := #[Value.ref b]) (first := s) (o := none) (s := s) (idx := []) (t := .string RX5 k) (cls := "java/lang/String") h2
  exact ⟨a, vk_R.of h1 q1⟩
theorem st_XK {p : Program} {s : State} {m : MethodId} {meth : Method} {c : Code} {b L : Nat} {xs : Nat → Int32} (C0 : lw_At p s m meth c b L xs) : XK (fun q : Nat => s.heap.size ≤ q) s s.heap := by
  obtain ⟨hx, hb, hr, hml, hown, hts, hX, hbl, hlk, hgv⟩ := C0
  have hs := flat_of_before _ hgv
  have hT : ∀ w, w ∈ tables_1 → w.before #[Value.ref b] s = true := fun w h => hts w (List.mem_append_right _ h)
  have hA : ∀ a : Nat, a < s.heap.size → ¬ s.heap.size ≤ a := fun a h => Nat.not_le.mpr h
  refine ⟨vx_Zqof (hT _ (List.mem_of_getElem? (i := 294) (by decide +kernel))) (hT _ (List.mem_of_getElem? (i := 5) (by decide +kernel))) (hs _ (List.mem_of_getElem? (i := 4) (by decide +kernel))) hA, vx_Zqof (hT _ (List.mem_of_getElem? (i := 296) (by decide +kernel))) (hT _ (List.mem_of_getElem? (i := 5) (by decide +kernel))) (hs _ (List.mem_of_getElem? (i := 5) (by decide +kernel))) hA, ?_, ?_, ?_⟩
  · exact fun w hw => va_Nw.of (my_xw_good w hw) (hT w (st_xw w hw))
  · exact List.forall_mem_cons.mpr ⟨st_str (hT _ (List.mem_of_getElem? (i := 372) (by decide +kernel))) (hs _ (List.mem_of_getElem? (i := 50) (by decide +kernel))), List.forall_mem_cons.mpr ⟨st_str (hT _ (List.mem_of_getElem? (i := 388) (by decide +kernel))) (hs _ (List.mem_of_getElem? (i := 66) (by decide +kernel))), List.forall_mem_cons.mpr ⟨st_str (hT _ (List.mem_of_getElem? (i := 622) (by decide +kernel))) (hs _ (List.mem_of_getElem? (i := 83) (by decide +kernel))), List.forall_mem_cons.mpr ⟨st_str (hT _ (List.mem_of_getElem? (i := 662) (by decide +kernel))) (hs _ (List.mem_of_getElem? (i := 111) (by decide +kernel))), List.forall_mem_cons.mpr ⟨st_str (hT _ (List.mem_of_getElem? (i := 715) (by decide +kernel))) (hs _ (List.mem_of_getElem? (i := 125) (by decide +kernel))), List.forall_mem_cons.mpr ⟨st_str (hT _ (List.mem_of_getElem? (i := 720) (by decide +kernel))) (hs _ (List.mem_of_getElem? (i := 145) (by decide +kernel))), List.forall_mem_cons.mpr ⟨st_str (hT _ (List.mem_of_getElem? (i := 777) (by decide +kernel))) (hs _ (List.mem_of_getElem? (i := 169) (by decide +kernel))), fun _ h => absurd h List.not_mem_nil⟩⟩⟩⟩⟩⟩⟩
  · exact List.forall_mem_cons.mpr ⟨va_Nc.of (hs _ (List.mem_of_getElem? (i := 10) (by decide +kernel))), List.forall_mem_cons.mpr ⟨va_Nc.of (hs _ (List.mem_of_getElem? (i := 12) (by decide +kernel))), List.forall_mem_cons.mpr ⟨va_Nc.of (hs _ (List.mem_of_getElem? (i := 21) (by decide +kernel))), List.forall_mem_cons.mpr ⟨va_Nc.of (hs _ (List.mem_of_getElem? (i := 11) (by decide +kernel))), fun _ h => absurd h List.not_mem_nil⟩⟩⟩⟩
set_option maxHeartbeats 4000000 in
set_option maxRecDepth 100000 in
theorem whole_start {p : Program} {e : Env} {s : State} {m : MethodId} {below : List Frame} {meth : Method} {c : Code} (l : Launch) (hflags : l.flags = flags0) {b L : Nat} {xs : Nat → Int32} (hL : L ≤ 2560) (C0 : lw_At p s m meth c b L xs) : W p l e room_1 s m #[Value.ref b] below meth c s.heap [] 0 0 (lw_Z below #[Value.ref b] s) (entryFrame m ([Value.ref b] : List Value).toArray 9) := by
  have hl0 := st_hl hflags
  have hXK0 := st_XK C0
  obtain ⟨hx, hb, hr, hml, hown0, hts0, hX, hbl, hlk, hgv⟩ := id C0
  have hown : s.vm.findClass RL = some m.cls := hown0
  have hts : ∀ w ∈ wsL_law, w.before #[Value.ref b] s = true := fun w h => hts0 w (wsL_law_in w h)
  have hT : ∀ w, w ∈ tables_1 → w.before #[Value.ref b] s = true := fun w h => hts0 w (List.mem_append_right _ h)
  have hA : ∀ q : Nat, s.heap.size ≤ q → (fun q : Nat => s.heap.size ≤ q) q := fun _ h => h
  have hbA : ¬ (fun q : Nat => s.heap.size ≤ q) b := Nat.not_le.mpr hbl
  obtain ⟨c0, i0, n0⟩ := u_known (C := RJ0) (T := TJ0) (N := 2) (n := 4) hts0 st_J0 (hT (.instantiable RJ0 4) (List.mem_of_getElem? (i := 349) (by decide +kernel)))
  obtain ⟨c1, i1, n1⟩ := u_known (C := RJx00060) (T := TJx00060) (N := 6) (n := 6) hts0 st_J6 (hT (.instantiable RJx00060 6) (List.mem_of_getElem? (i := 277) (by decide +kernel)))
  obtain ⟨c2, i2, n2⟩ := u_known (C := RX2) (T := TX2) (N := 4) (n := 4) hts inlX2 (hT (.instantiable RX2 4) (List.mem_of_getElem? (i := 50) (by decide +kernel)))
  obtain ⟨c3, i3, n3⟩ := u_known (C := RX3) (T := TX3) (N := 3) (n := 3) hts inlX3 (hT (.instantiable RX3 3) (List.mem_of_getElem? (i := 31) (by decide +kernel)))
  obtain ⟨c4, i4, n4⟩ := u_known (C := RX5) (T := TX5) (N := 3) (n := 3) hts inlX5 (hT (.instantiable RX5 3) (List.mem_of_getElem? (i := 23) (by decide +kernel)))
  obtain ⟨c5, i5, n5⟩ := u_known (C := RX6) (T := TX6) (N := 8) (n := 8) hts inlX6 (hT (.instantiable RX6 8) (List.mem_of_getElem? (i := 797) (by decide +kernel)))
  obtain ⟨dC, dI, hKc⟩ : ∃ (dC : Nat → ClassId) (dI : Nat → Nat → Nat), ∀ (k : Nat) (q : vw_C), vwCl[k]? = some q → u_Kn s q.1 q.2.1 q.2.2 (dC k) (dI k) := by
    refine ⟨fun k => if k = 0 then c0 else if k = 1 then c1 else if k = 2 then c2 else if k = 3 then c3 else if k = 4 then c4 else c5, fun k => if k = 0 then i0 else if k = 1 then i1 else if k = 2 then i2 else if k = 3 then i3 else if k = 4 then i4 else i5, ?_⟩
    intro k q hq
    match k, hq with
    | 0, hq => cases hq; exact n0
    | 1, hq => cases hq; exact n1
    | 2, hq => cases hq; exact n2
    | 3, hq => cases hq; exact n3
    | 4, hq => cases hq; exact n4
    | 5, hq => cases hq; exact n5
    | k + 6, hq => simp [vwCl] at hq
  obtain ⟨cC, tC, fC⟩ := st_arr (ty := .char) (hT (.arrayClass .char) (List.mem_of_getElem? (i := 47) (by decide +kernel)))
  obtain ⟨cI, tI, fI⟩ := st_arr (ty := .int) (hT (.arrayClass .int) (List.mem_of_getElem? (i := 48) (by decide +kernel)))
  obtain ⟨cJ, tJ, fJ⟩ := st_arr (ty := .long) (hT (.arrayClass .long) (List.mem_of_getElem? (i := 46) (by decide +kernel)))
  have hK : va_K (dC, dI) vwCl (KT cC cI cJ) s := by
    refine ⟨hKc, fun k q h => ?_⟩
    match k, h with
    | 0, h => cases h; exact ⟨tC, fC⟩
    | 1, h => cases h; exact ⟨tI, fI⟩
    | 2, h => cases h; exact ⟨tJ, fJ⟩
    | k + 3, h => simp [KT] at h
  have hS : va_S (fun q : Nat => s.heap.size ≤ q) s.heap s.heap [] := va_S.rf
  have hP : va_P (dC, dI) vwCl [] s.heap := fun k q h => by simp at h
  have hD : va_D (fun q : Nat => s.heap.size ≤ q) [] := ⟨fun i j p q h => by simp at h, fun k q h => by simp at h⟩
  have hl := lv_entry ([.ref b]) (n := 9) (Nat.le_of_ble_eq_true rfl)
  rw [lg_entry_eq]
  generalize (lg_sl ([.ref b]) ++ List.replicate (9 - (lg_sl ([.ref b])).length) Slot.unset).toArray = ls at hl ⊢
  have hl : lv_has ls 9 [(0, .ref b)] := hl
  refine va_new (ci := 4) (fs := [.null, .null, .null]) (C := RX5) (T := TX5) (N := 3) hx hb hts inlX5 tyX5 tyX5_ok hown (hT (.classLink RL 8 RX5) (List.mem_of_getElem? (i := 22) (by decide +kernel))) (hT (.instantiable RX5 3) (List.mem_of_getElem? (i := 23) (by decide +kernel))) (hT (.initialized RX5) (List.mem_of_getElem? (i := 1) (by decide +kernel))) hK hP hD hS hA rfl (fun j hj => by rcases (show j = 0 ∨ j = 1 ∨ j = 2 by omega) with rfl | rfl | rfl <;> rfl) (Nat.le_of_ble_eq_true rfl) (Nat.le_of_ble_eq_true rfl) dL_law_0 (fun a0 H hP hD hS => ?_)
  have hP : va_P (dC, dI) vwCl [(a0, .inr (4, [.null, .null, .null]))] H := hP
  have hD : va_D (fun q : Nat => s.heap.size ≤ q) [(a0, .inr (4, [.null, .null, .null]))] := hD
  refine lv_dup hx hb dL_law_3 rfl ?_
  refine my_callI (As := []) (n := 0) (rest := [.ref a0]) (wc := [(a0, .inr (4, [.null, .null, .null]))]) (wr := []) ⟨hx, hb, hml, hown, hts⟩ hK hP hD hS hA [0] [] rfl rfl (by decide) (by decide) (by decide) (m_X5_init l (dC, dI) cC cI cJ a0 H.size) gL_law_X5_init rfl ⟨rfl, rfl⟩ (hT (.initialized RX5) (List.mem_of_getElem? (i := 1) (by decide +kernel))) (hT (.methodLink RL 140 yX5_init) (List.mem_of_getElem? (i := 24) (by decide +kernel))) (hT (.instanceMethod yX5_init) (List.mem_of_getElem? (i := 25) (by decide +kernel))) rfl (by decide +kernel) ⟨Nat.le_of_ble_eq_true rfl, Nat.le_of_ble_eq_true rfl⟩ ⟨Nat.le_of_ble_eq_true rfl, Nat.le_of_ble_eq_true rfl⟩ hl.1 rfl rfl (Nat.le_of_ble_eq_true rfl) dL_law_4 (fun u9 H locs hw hP hD hS => ?_)
  obtain ⟨a1, a2, a3, a4, a5, a6, a7⟩ := u9
  have hP : va_P (dC, dI) vwCl [(a0, .inr (4, [.ref a1, .ref a2, .ref a5])), (a1, .inl (cJ, 8, .inr (.inl zRX5.1))), (a2, .inr (3, [.ref a3, .ref a4, .int zRX5.2.1.2.2])), (a3, .inl (cC, 40, .inl zRX5.2.1.1)), (a4, .inl (cI, 40, .inl zRX5.2.1.2.1)), (a5, .inr (2, [.ref a6, .ref a7, .int zRX5.2.2.2.2.1, .int zRX5.2.2.2.2.2])), (a6, .inl (cI, 8, .inl zRX5.2.2.1)), (a7, .inl (cJ, 8, .inr (.inl zRX5.2.2.2.1)))] H := hP
  have hD : va_D (fun q : Nat => s.heap.size ≤ q) [(a0, .inr (4, [.ref a1, .ref a2, .ref a5])), (a1, .inl (cJ, 8, .inr (.inl zRX5.1))), (a2, .inr (3, [.ref a3, .ref a4, .int zRX5.2.1.2.2])), (a3, .inl (cC, 40, .inl zRX5.2.1.1)), (a4, .inl (cI, 40, .inl zRX5.2.1.2.1)), (a5, .inr (2, [.ref a6, .ref a7, .int zRX5.2.2.2.2.1, .int zRX5.2.2.2.2.2])), (a6, .inl (cI, 8, .inl zRX5.2.2.1)), (a7, .inl (cJ, 8, .inr (.inl zRX5.2.2.2.1)))] := hD
  refine lv_astore_n (lv' := [(1, .ref a0), (0, .ref b)]) hx hb dL_law_7 rfl hl (by decide) rfl (fun ls hl => ?_)
  refine va_new (ci := 5) (fs := [.null, .null, .null, .int 0, .null, .null, .int 0, .int 0]) (C := RX6) (T := TX6) (N := 8) hx hb hts inlX6 tyX6 tyX6_ok hown (hT (.classLink RL 141 RX6) (List.mem_of_getElem? (i := 796) (by decide +kernel))) (hT (.instantiable RX6 8) (List.mem_of_getElem? (i := 797) (by decide +kernel))) (hT (.initialized RX6) (List.mem_of_getElem? (i := 4) (by decide +kernel))) hK hP hD hS hA rfl (fun j hj => by rcases (show j = 0 ∨ j = 1 ∨ j = 2 ∨ j = 3 ∨ j = 4 ∨ j = 5 ∨ j = 6 ∨ j = 7 by omega) with rfl | rfl | rfl | rfl | rfl | rfl | rfl | rfl <;> rfl) (Nat.le_of_ble_eq_true rfl) (Nat.le_of_ble_eq_true rfl) dL_law_8 (fun k0 H hP hD hS => ?_)
  have hP : va_P (dC, dI) vwCl [(a0, .inr (4, [.ref a1, .ref a2, .ref a5])), (a1, .inl (cJ, 8, .inr (.inl zRX5.1))), (a2, .inr (3, [.ref a3, .ref a4, .int zRX5.2.1.2.2])), (a3, .inl (cC, 40, .inl zRX5.2.1.1)), (a4, .inl (cI, 40, .inl zRX5.2.1.2.1)), (a5, .inr (2, [.ref a6, .ref a7, .int zRX5.2.2.2.2.1, .int zRX5.2.2.2.2.2])), (a6, .inl (cI, 8, .inl zRX5.2.2.1)), (a7, .inl (cJ, 8, .inr (.inl zRX5.2.2.2.1))), (k0, .inr (5, [.null, .null, .null, .int 0, .null, .null, .int 0, .int 0]))] H := hP
  have hD : va_D (fun q : Nat => s.heap.size ≤ q) [(a0, .inr (4, [.ref a1, .ref a2, .ref a5])), (a1, .inl (cJ, 8, .inr (.inl zRX5.1))), (a2, .inr (3, [.ref a3, .ref a4, .int zRX5.2.1.2.2])), (a3, .inl (cC, 40, .inl zRX5.2.1.1)), (a4, .inl (cI, 40, .inl zRX5.2.1.2.1)), (a5, .inr (2, [.ref a6, .ref a7, .int zRX5.2.2.2.2.1, .int zRX5.2.2.2.2.2])), (a6, .inl (cI, 8, .inl zRX5.2.2.1)), (a7, .inl (cJ, 8, .inr (.inl zRX5.2.2.2.1))), (k0, .inr (5, [.null, .null, .null, .int 0, .null, .null, .int 0, .int 0]))] := hD
  refine lv_dup hx hb dL_law_11 rfl ?_
  refine my_callI (As := []) (n := 0) (rest := [.ref k0]) (wc := [(k0, .inr (5, [.null, .null, .null, .int 0, .null, .null, .int 0, .int 0]))]) (wr := [(a0, .inr (4, [.ref a1, .ref a2, .ref a5])), (a1, .inl (cJ, 8, .inr (.inl zRX5.1))), (a2, .inr (3, [.ref a3, .ref a4, .int zRX5.2.1.2.2])), (a3, .inl (cC, 40, .inl zRX5.2.1.1)), (a4, .inl (cI, 40, .inl zRX5.2.1.2.1)), (a5, .inr (2, [.ref a6, .ref a7, .int zRX5.2.2.2.2.1, .int zRX5.2.2.2.2.2])), (a6, .inl (cI, 8, .inl zRX5.2.2.1)), (a7, .inl (cJ, 8, .inr (.inl zRX5.2.2.2.1)))]) ⟨hx, hb, hml, hown, hts⟩ hK hP hD hS hA [8] [0, 1, 2, 3, 4, 5, 6, 7] rfl rfl (by decide) (by decide) (by decide) (m_X6_init l (dC, dI) cC cI cJ k0 H.size) gL_law_X6_init rfl ⟨rfl, rfl⟩ (hT (.initialized RX6) (List.mem_of_getElem? (i := 4) (by decide +kernel))) (hT (.methodLink RL 143 yX6_init) (List.mem_of_getElem? (i := 798) (by decide +kernel))) (hT (.instanceMethod yX6_init) (List.mem_of_getElem? (i := 799) (by decide +kernel))) rfl (by decide +kernel) ⟨Nat.le_of_ble_eq_true rfl, Nat.le_of_ble_eq_true rfl⟩ ⟨Nat.le_of_ble_eq_true rfl, Nat.le_of_ble_eq_true rfl⟩ hl.1 rfl rfl (Nat.le_of_ble_eq_true rfl) dL_law_12 (fun u9 H locs hw hP hD hS => ?_)
  obtain ⟨k1, k2, k3, k4, k5⟩ := u9
  have hP : va_P (dC, dI) vwCl [(a0, .inr (4, [.ref a1, .ref a2, .ref a5])), (a1, .inl (cJ, 8, .inr (.inl zRX5.1))), (a2, .inr (3, [.ref a3, .ref a4, .int zRX5.2.1.2.2])), (a3, .inl (cC, 40, .inl zRX5.2.1.1)), (a4, .inl (cI, 40, .inl zRX5.2.1.2.1)), (a5, .inr (2, [.ref a6, .ref a7, .int zRX5.2.2.2.2.1, .int zRX5.2.2.2.2.2])), (a6, .inl (cI, 8, .inl zRX5.2.2.1)), (a7, .inl (cJ, 8, .inr (.inl zRX5.2.2.2.1))), (k0, .inr (5, [.ref k1, .ref k2, .ref k3, .int zRX6.2.2.2.1, .ref k4, .ref k5, .int zRX6.2.2.2.2.2.2.1, .int zRX6.2.2.2.2.2.2.2])), (k1, .inl (cJ, 8, .inr (.inl zRX6.1))), (k2, .inl (cI, 8, .inl zRX6.2.1)), (k3, .inl (cJ, 8, .inr (.inl zRX6.2.2.1))), (k4, .inl (cC, 40, .inl zRX6.2.2.2.2.1)), (k5, .inl (cI, 40, .inl zRX6.2.2.2.2.2.1))] H := hP
  have hD : va_D (fun q : Nat => s.heap.size ≤ q) [(a0, .inr (4, [.ref a1, .ref a2, .ref a5])), (a1, .inl (cJ, 8, .inr (.inl zRX5.1))), (a2, .inr (3, [.ref a3, .ref a4, .int zRX5.2.1.2.2])), (a3, .inl (cC, 40, .inl zRX5.2.1.1)), (a4, .inl (cI, 40, .inl zRX5.2.1.2.1)), (a5, .inr (2, [.ref a6, .ref a7, .int zRX5.2.2.2.2.1, .int zRX5.2.2.2.2.2])), (a6, .inl (cI, 8, .inl zRX5.2.2.1)), (a7, .inl (cJ, 8, .inr (.inl zRX5.2.2.2.1))), (k0, .inr (5, [.ref k1, .ref k2, .ref k3, .int zRX6.2.2.2.1, .ref k4, .ref k5, .int zRX6.2.2.2.2.2.2.1, .int zRX6.2.2.2.2.2.2.2])), (k1, .inl (cJ, 8, .inr (.inl zRX6.1))), (k2, .inl (cI, 8, .inl zRX6.2.1)), (k3, .inl (cJ, 8, .inr (.inl zRX6.2.2.1))), (k4, .inl (cC, 40, .inl zRX6.2.2.2.2.1)), (k5, .inl (cI, 40, .inl zRX6.2.2.2.2.2.1))] := hD
  refine lv_astore_n (lv' := [(2, .ref k0), (1, .ref a0), (0, .ref b)]) hx hb dL_law_15 rfl hl (by decide) rfl (fun ls hl => ?_)
  refine lv_iconst (v := 1) hx hb dL_law_16 (by decide) ?_
  refine my_newaJ hx hb (hT (.arrayClass .long) (List.mem_of_getElem? (i := 46) (by decide +kernel))) hK (t0 := 2) rfl hP hD hS hA (N := 1) (by decide) rfl (by decide) (Nat.le_of_ble_eq_true rfl) (Nat.le_of_ble_eq_true rfl) dL_law_17 (fun h8 H hP hD hS => ?_)
  have hP : va_P (dC, dI) vwCl [(a0, .inr (4, [.ref a1, .ref a2, .ref a5])), (a1, .inl (cJ, 8, .inr (.inl zRX5.1))), (a2, .inr (3, [.ref a3, .ref a4, .int zRX5.2.1.2.2])), (a3, .inl (cC, 40, .inl zRX5.2.1.1)), (a4, .inl (cI, 40, .inl zRX5.2.1.2.1)), (a5, .inr (2, [.ref a6, .ref a7, .int zRX5.2.2.2.2.1, .int zRX5.2.2.2.2.2])), (a6, .inl (cI, 8, .inl zRX5.2.2.1)), (a7, .inl (cJ, 8, .inr (.inl zRX5.2.2.2.1))), (k0, .inr (5, [.ref k1, .ref k2, .ref k3, .int zRX6.2.2.2.1, .ref k4, .ref k5, .int zRX6.2.2.2.2.2.2.1, .int zRX6.2.2.2.2.2.2.2])), (k1, .inl (cJ, 8, .inr (.inl zRX6.1))), (k2, .inl (cI, 8, .inl zRX6.2.1)), (k3, .inl (cJ, 8, .inr (.inl zRX6.2.2.1))), (k4, .inl (cC, 40, .inl zRX6.2.2.2.2.1)), (k5, .inl (cI, 40, .inl zRX6.2.2.2.2.2.1)), (h8, .inl (cJ, 1, .inr (.inl (fun _ => 0))))] H := hP
  have hD : va_D (fun q : Nat => s.heap.size ≤ q) [(a0, .inr (4, [.ref a1, .ref a2, .ref a5])), (a1, .inl (cJ, 8, .inr (.inl zRX5.1))), (a2, .inr (3, [.ref a3, .ref a4, .int zRX5.2.1.2.2])), (a3, .inl (cC, 40, .inl zRX5.2.1.1)), (a4, .inl (cI, 40, .inl zRX5.2.1.2.1)), (a5, .inr (2, [.ref a6, .ref a7, .int zRX5.2.2.2.2.1, .int zRX5.2.2.2.2.2])), (a6, .inl (cI, 8, .inl zRX5.2.2.1)), (a7, .inl (cJ, 8, .inr (.inl zRX5.2.2.2.1))), (k0, .inr (5, [.ref k1, .ref k2, .ref k3, .int zRX6.2.2.2.1, .ref k4, .ref k5, .int zRX6.2.2.2.2.2.2.1, .int zRX6.2.2.2.2.2.2.2])), (k1, .inl (cJ, 8, .inr (.inl zRX6.1))), (k2, .inl (cI, 8, .inl zRX6.2.1)), (k3, .inl (cJ, 8, .inr (.inl zRX6.2.2.1))), (k4, .inl (cC, 40, .inl zRX6.2.2.2.2.1)), (k5, .inl (cI, 40, .inl zRX6.2.2.2.2.2.1)), (h8, .inl (cJ, 1, .inr (.inl (fun _ => 0))))] := hD
  refine lv_astore_n (lv' := [(3, .ref h8), (2, .ref k0), (1, .ref a0), (0, .ref b)]) hx hb dL_law_19 rfl hl (by decide) rfl (fun ls hl => ?_)
  refine lv_iconst (v := 0) hx hb dL_law_20 (by decide) ?_
  refine lv_istore (lv' := [(4, .int (nI (5 * 0))), (3, .ref h8), (2, .ref k0), (1, .ref a0), (0, .ref b)]) hx hb dL_law_21 hl (by decide) rfl (fun ls hl => ?_)
  exact law_loop hl0 C0 hXK0 a0 a1 a2 a3 a4 a5 a6 a7 h8 k0 k1 k2 k3 k4 k5 hK (L / 5) (by omega) (by omega) hL (L / 5) 0 (zRX5, fun _ => 0) zRX6 _ _ H locs ls (by omega) Rel_z (by omega) (by omega) (hP.sub [0, 1, 2, 3, 4, 5, 6, 7, 14, 8, 9, 10, 11, 12, 13] rfl) (hD.sub [0, 1, 2, 3, 4, 5, 6, 7, 14, 8, 9, 10, 11, 12, 13] (by decide) rfl) hS hl
-- ===== YOUR PART ENDS =====
set_option maxHeartbeats 4000000 in
theorem lw_walk (l : Launch) (hflags : l.flags = flags0) (b : Addr) (xs : List Int32) : MetFree l x (headSpec (Jvm.Cond.code x code maxLocals ret :: tables_1) room_1) (lw_P b xs) (fun _ _ _ _ _ => True) lw_Q := by
  refine MetFree.of_bodyS (code := code) (maxLocals := maxLocals) (ret := ret) (by decide) ?_ ?_
  · intro args s m h hn
    obtain ⟨meth, c, h1, h2, h3, h4, h5, h6, -, -⟩ := Cond.code_spec hn (atoms_spec (ws := Jvm.Cond.code x code maxLocals ret :: tables_1) h _ List.mem_cons_self)
    exact ⟨meth, c, h1, h2, h3, h4, h5, h6⟩
  · intro p e s m args below meth c s₁ B hml0 hP _
    obtain ⟨rfl, hx, hbd, hgv⟩ := hP
    obtain ⟨scr, harrAt, hlist, hof, hsmall⟩ := hx
    obtain ⟨hcb, hkn, -, -⟩ := State.arrayAt?_spec harrAt
    have hown : s.vm.findClass R_law = some m.cls := findClass_of_methodNamed B.named
    have hts0 : ∀ c ∈ (Jvm.Cond.code x code maxLocals ret :: tables_1), c.before #[Value.ref b] s = true := atoms_spec (ws := Jvm.Cond.code x code maxLocals ret :: tables_1) B.pre
    have hts : ∀ w ∈ lw_tbl, w.before #[Value.ref b] s = true := k2_hts_sels lw_privs (fun w hw => hts0 w (List.mem_cons_of_mem _ hw)) lw_privs_ok
    have hml : c.maxLocals = 9 := B.maxLocals_eq (hts0 _ List.mem_cons_self)
    have X₀ : Stand p l e room_1 s m #[Value.ref b] below meth c s₁ [] 0 0 := Stand.of_body B
    have hh0 : s₁.heap = s.heap := by rw [B.state]; rfl
    have hsz : scr.slots.size = xs.length := by rw [← Array.length_toList, hlist, List.length_map]
    have hval : ∀ j : Nat, j < xs.length → scr.slots[j]? = some (.int (xs.getD j 0)) := fun j hj => by
      rw [← Array.getElem?_toList, hlist]
      simp [hj]
    have hbl : b < s.heap.size := (Array.getElem?_eq_some_iff.mp hcb).1
    have hX : va_X b xs.length (fun j => xs.getD j 0) s s.heap := ⟨scr, hcb, hof, hkn, hsz, hval⟩
    have K : W p l e room_1 s m #[Value.ref b] below meth c s₁.heap [] 0 0 (lw_Z below #[Value.ref b] s) (entryFrame m ([Value.ref b] : List Value).toArray 9) := by
      rw [hh0]
      exact whole_start l hflags hbd ⟨B.exec, B.bytes, B.returns, hml, hown, hts, hX, hbl, B.notSynchronized, hgv⟩
    obtain ⟨t, a1, o, b1, b2, b3⟩ := K s₁ rfl X₀
    exact ⟨t, o, a1, b1, b2, b3⟩
theorem lw_pre_spec {args : Array Value} {s : State} (h : (Jvm.Cond.and given_1 narrow_1).before args s = true) (hr : rest_1_c.before args s = true) : ∃ (b : Addr) (xs : List Int32), lw_P b xs args s := by
  have hs := flat_of_before _ h
  have hq := flat_of_before _ hr
  have hc : (Cond.count 1).before args s = true := hs _ (by decide +kernel)
  have harr : (Cond.arrayOf (.arg 0) .int).before args s = true := hs _ (by decide +kernel)
  have hle : (Cond.le (.length (.arg 0)) (.int 2560)).before args s = true := hs _ (by decide +kernel)
  have hlen : (Cond.isInt (.length (.arg 0))).before args s = true := hq _ (by decide +kernel)
  have hall : (Cond.all (.arg 0) (.isInt (.elem (.arg 0) (.index 0)))).before args s = true := hq _ (by decide +kernel)
  obtain ⟨b, xs, hb, hx⟩ := State.ints_of_pre rfl harr hlen hall
  have hsm : xs.length < 2 ^ 31 := hx.choose_spec.2.2.2
  have hev : (Term.length (.arg 0)).eval args s none [] s = some (.int xs.length.toInt32) := hx.length_eval hb
  have hv := Cond.le_ints hev (show (Term.int 2560).eval args s none [] s = some (.int 2560) from rfl)
  have hd : xs.length.toInt32 ≤ 2560 := by
    simpa [Cond.before, Cond.holds, hv] using hle
  have hN : xs.length ≤ 2560 := (Int32.ofNat_le_ofNat hsm (by decide)).mp (show Int32.ofNat xs.length ≤ Int32.ofNat 2560 from hd)
  exact ⟨b, xs, Cond.one_arg hc (show args[0]? = some (.ref b) from hb), hx, hN, h⟩
theorem lw_comes (l : Launch) (hflags : l.flags = flags0) : Comes l x (Jvm.Cond.code x code maxLocals ret :: tables_1) room_1 (fun tb e args s => Calls_1 tb e args s ∧ rest_1 tb e args s ∧ Pre_1 tb e args s)
    (fun _ _ args s o t => lw_Q args s o t) := by
  intro p e ha hc hk s m args below hf hfit hheap happ hpre
  obtain ⟨b, xs, hP⟩ := lw_pre_spec hpre.2.2 hpre.2.1
  obtain ⟨k, o, h1, h2, h3, hQ⟩ := lw_walk l hflags b xs p e ha hc hk s m args below hf ((Spec.applies_iff_loose hf).mp happ).1 hP trivial
  exact ⟨k, o, h1, h2, h3, hQ⟩
theorem lw_frame {s t : State} {o : Outcome} {args : Array Value} (h : State.butDraws s t lw_cs (fun t1 => Framed s o t1 [] 603072 7215210)) :
    State.butDraws s t [Jvm.Choice.named "NaN.bits"] (fun t1 => Framed s o t1 (fieldLocs frame_1_writes args s ++ arrayLocs frame_1_arrays args s ++ staticLocs frame_1_statics s) 603072 7215210) := h
theorem lw_limb (L : Cond) (hL : ∀ (args : Array Value) (s t : State), L.after args s (.returned (some (.int 1))) t = true) :
    ArmFor flags0 classFile x code maxLocals ret World_1 tables_1 room_1 Calls_1 rest_1 Pre_1
      (fun tb e a s o t => postC L tb e a s o t ∧ State.butDraws s t [Jvm.Choice.named "NaN.bits"] (fun t1 => Framed s o t1 (fieldLocs frame_1_writes a s ++ arrayLocs frame_1_arrays a s ++ staticLocs frame_1_statics s) 603072 7215210)) := by
  intro l hflags _ _ p e ha hc hk s m args below hf hfit hheap happ hpre
  obtain ⟨k, o, h1, h2, h3, rfl, hF⟩ := lw_comes l hflags p e ha hc hk s m args below hf hfit hheap happ hpre
  exact ⟨k, _, h1, h2, h3, hL args s _, lw_frame hF⟩
theorem i_vc : Claimed_1_1 ∧ Claimed_1_2 := ⟨lw_limb limb_1_1 (fun args s t => by simp [limb_1_1, Cond.after, Cond.holds, Cond.value]), lw_limb limb_1_2 (fun args s t => Cond.after_iff.mpr (by
  first | (rw [show limb_1_2 = Cond.eq .result (.int 1) from rfl, Cond.eq_ints (x := 1) (y := 1) rfl rfl]; simp; done) | (simp [limb_1_2, Cond.value, Term.eval]; done)))⟩
