/-! shifts and casts by names of my own -/
def jshl (x : Int64) (y : Int32) : Int64 := x <<< (y.toInt64 &&& 63)
def jshr (x : Int64) (y : Int32) : Int64 := x >>> (y.toInt64 &&& 63)
def jushr (x : Int64) (y : Int32) : Int64 := (x.toUInt64 >>> (y.toInt64.toUInt64 &&& Int64.toUInt64 63)).toInt64
def jiushr (x y : Int32) : Int32 := (x.toUInt32 >>> (y.toUInt32 &&& Int32.toUInt32 31)).toInt32
def ji2c (x : Int32) : Int32 := (x.toUInt32 % 65536).toInt32
/-! what a state is: of a Row (kinds, counts, size), of a Past (slots, numbers, latest, count), of a Doubleline (numbers, Row, Past), of the reference (codes, kept slots, kept codes, kept, kinds, counts, words, thrown) -/
abbrev StR : Type := (Nat → Int32) × (Nat → Int32) × Int32
abbrev StP : Type := (Nat → Int32) × (Nat → Int64) × Int32 × Int32
abbrev StX : Type := (Nat → Int64) × StR × StP
abbrev StM : Type := (Nat → Int64) × (Nat → Int32) × (Nat → Int64) × Int32 × (Nat → Int32) × (Nat → Int32) × Int32 × Int32
abbrev KT (cC cI cJ : ClassId) : List (ClassId × FieldType) := [(cC, .char), (cI, .int), (cJ, .long)]
abbrev zRX3 : StR := (fun _ => 0, fun _ => 0, 0)
abbrev zRX2 : StP := (fun _ => 0, fun _ => 0, 0, 0)
abbrev zRX5 : StX := (fun _ => 0, zRX3, zRX2)
abbrev zRX6 : StM := (fun _ => 0, fun _ => 0, fun _ => 0, 0, fun _ => 0, fun _ => 0, 0, 0)
abbrev wR (cC cI : ClassId) (h0 h1 h2 : Nat) (u : StR) : va_W := [(h0, .inr (3, [.ref h1, .ref h2, .int u.2.2])), (h1, .inl (cC, 40, .inl u.1)), (h2, .inl (cI, 40, .inl u.2.1))]
abbrev wP (cI cJ : ClassId) (h0 h1 h2 : Nat) (u : StP) : va_W := [(h0, .inr (2, [.ref h1, .ref h2, .int u.2.2.1, .int u.2.2.2])), (h1, .inl (cI, 8, .inl u.1)), (h2, .inl (cJ, 8, .inr (.inl u.2.1)))]
abbrev wX (cC cI cJ : ClassId) (h0 h1 h2 h3 h4 h5 h6 h7 : Nat) (u : StX) : va_W := [(h0, .inr (4, [.ref h1, .ref h2, .ref h5])), (h1, .inl (cJ, 8, .inr (.inl u.1))),
  (h2, .inr (3, [.ref h3, .ref h4, .int u.2.1.2.2])), (h3, .inl (cC, 40, .inl u.2.1.1)), (h4, .inl (cI, 40, .inl u.2.1.2.1)),
  (h5, .inr (2, [.ref h6, .ref h7, .int u.2.2.2.2.1, .int u.2.2.2.2.2])), (h6, .inl (cI, 8, .inl u.2.2.1)), (h7, .inl (cJ, 8, .inr (.inl u.2.2.2.1)))]
abbrev wM (cC cI cJ : ClassId) (h0 h1 h2 h3 h4 h5 : Nat) (u : StM) : va_W := [(h0, .inr (5, [.ref h1, .ref h2, .ref h3, .int u.2.2.2.1, .ref h4, .ref h5, .int u.2.2.2.2.2.2.1, .int u.2.2.2.2.2.2.2])),
  (h1, .inl (cJ, 8, .inr (.inl u.1))), (h2, .inl (cI, 8, .inl u.2.1)), (h3, .inl (cJ, 8, .inr (.inl u.2.2.1))), (h4, .inl (cC, 40, .inl u.2.2.2.2.1)), (h5, .inl (cI, 40, .inl u.2.2.2.2.2.1))]
abbrev SH : Type := StX × (Nat → Int64)
abbrev wH (cC cI cJ : ClassId) (h0 h1 h2 h3 h4 h5 h6 h7 h8 : Nat) (u : SH) : va_W := [(h0, .inr (4, [.ref h1, .ref h2, .ref h5])), (h1, .inl (cJ, 8, .inr (.inl u.1.1))),
  (h2, .inr (3, [.ref h3, .ref h4, .int u.1.2.1.2.2])), (h3, .inl (cC, 40, .inl u.1.2.1.1)), (h4, .inl (cI, 40, .inl u.1.2.1.2.1)),
  (h5, .inr (2, [.ref h6, .ref h7, .int u.1.2.2.2.2.1, .int u.1.2.2.2.2.2])), (h6, .inl (cI, 8, .inl u.1.2.2.1)), (h7, .inl (cJ, 8, .inr (.inl u.1.2.2.2.1))), (h8, .inl (cJ, 1, .inr (.inl u.2)))]
theorem my_weak {A : Nat → Prop} {H0 H : Heap} {locs : List Loc} (h : va_S (fun q : Nat => H0.size ≤ q) H0 H locs) (hA : ∀ q : Nat, H0.size ≤ q → A q) : va_S A H0 H locs :=
  ⟨h.1, fun q h1 h2 => h.2.1 q h1 (fun z => h2 (hA q z)), fun x hx => hA _ (h.2.2 x hx)⟩
theorem my_keep {D : va_G} {cl : List vw_C} {ws : va_W} {H H1 : Heap} (hP : va_P D cl ws H) (hk : ∀ q : Nat, q < H.size → H1[q]? = H[q]?) : va_P D cl ws H1 :=
  hP.kept fun _ q h => hk q.1 (vx_lt hP h)
/-! ## exceptions: what a state has that lets the class throw -/
def my_xw : List Cond := [.castable "java/lang/IndexOutOfBoundsException" "java/lang/IndexOutOfBoundsException", .castable "java/lang/IllegalArgumentException" "java/lang/IllegalArgumentException", .castable "java/lang/IllegalStateException" "java/lang/IllegalStateException", .castable "java/lang/ArithmeticException" "java/lang/ArithmeticException", .castable "java/util/NoSuchElementException" "java/util/NoSuchElementException",
  .declares (Bundle.initS "java/lang/RuntimeException"), .declares (Bundle.initS "java/lang/Exception"), .declares (Bundle.initS Bundle.tN)]
def my_str : List (Nat × String) := [(217, "no such slot"), (220, "out of range"), (227, "no power of 2 leads it"), (230, "endless"), (137, "no such word"), (148, "the row is full"), (179, "nothing is kept")]
def my_nc : List (String × String) := [("java/lang/IllegalArgumentException", "java/lang/IndexOutOfBoundsException"), ("java/lang/IllegalStateException", "java/lang/IndexOutOfBoundsException"), ("java/lang/IllegalStateException", "java/lang/IllegalArgumentException"), ("java/lang/ArithmeticException", "java/lang/IndexOutOfBoundsException")]
def XV (U : State) : Prop := (∀ w ∈ my_xw, va_Nw w U) ∧ (∀ q ∈ my_str, ∃ a : Nat, vk_R RX5 q.1 q.2 a U) ∧ ∀ q ∈ my_nc, va_Nc q.1 q.2 U
def XK (A : Nat → Prop) (U : State) (H : Heap) : Prop := vx_Zq Bundle.tN "UNASSIGNED_STACK" Bundle.steD A U H ∧ vx_Zq Bundle.tN "SUPPRESSED_SENTINEL" Bundle.listD A U H ∧ XV U
theorem my_xw_good : ∀ w ∈ my_xw, w.onTables = true := by decide
theorem XV.warm {s U : State} (hW : s.WarmedH U.vm) (h : XV s) : XV U := by
  refine ⟨fun w hw => ?_, fun q hq => ?_, fun q hq => va_Nc.moved hW.alike (h.2.2 q hq)⟩
  · have h1 := h.1 w hw
    simp only [my_xw, List.mem_cons, List.not_mem_nil, or_false] at hw
    rcases hw with rfl | rfl | rfl | rfl | rfl | rfl | rfl | rfl <;> first | exact va_Nw.warmC hW h1 | exact va_Nw.warmD hW h1
  · obtain ⟨a, ha⟩ := h.2.1 q hq
    exact ⟨a, vk_R.warm hW ha⟩
theorem XK.moved {A B : Nat → Prop} {s U : State} {H H1 : Heap} (hW : s.WarmedH U.vm) (h : XK A s H) (hq : ∀ a : Nat, a < H.size → ¬ A a → H1[a]? = H[a]?) (hAB : ∀ q, B q → A q) : XK B U H1 :=
  ⟨((vx_Zq.moved hW.alike h.1).kept hq).narrow hAB, ((vx_Zq.moved hW.alike h.2.1).kept hq).narrow hAB, h.2.2.warm hW⟩
theorem XK.framed {A : Nat → Prop} {U : State} {g : JFrame} {mk : MethodId} {a : Array Value} {H : Heap} (h : XK A U H) : XK A (U.calling g mk a) H :=
  h.moved (s := U) (U := U.calling g mk a) (State.WarmedH.refl U) (fun _ _ _ => rfl) (fun _ q => q)
abbrev my_PcT (sz : Nat) (As : List Value) : Array Value → State → Prop := va_Pc As (fun U => U.heap.size = sz ∧ XK (fun q : Nat => sz ≤ q) U U.heap)
abbrev my_PcTR (D : va_G) (cl : List vw_C) (tys : List (ClassId × FieldType)) (sz : Nat) (wc : va_W) (As : List Value) : Array Value → State → Prop := va_Pc As (fun U => U.heap.size = sz ∧ va_P D cl wc U.heap ∧ va_K D cl tys U ∧ XK (fun q : Nat => sz ≤ q) U U.heap)
abbrev my_PcTM (D : va_G) (cl : List vw_C) (tys : List (ClassId × FieldType)) (sz : Nat) (wc : va_W) (As : List Value) : Array Value → State → Prop := va_Pc As (fun U => U.heap.size = sz ∧ va_P D cl wc U.heap ∧ va_K D cl tys U ∧ va_D (fun _ => True) wc ∧ XK (fun q : Nat => sz ≤ q) U U.heap)
section MyX
variable {p : Program} {l : Launch} {e : Env} {R : Room} {s : State} {m : MethodId} {args : Array Value} {below : List Frame} {meth : Method} {c : Code} {H : Heap} {locs : List Loc} {cells slots : Nat} {Q : State → Prop} {cc : ByteArray} {pc : Nat} {ls : Array Slot} {rest : List Value}
variable {y : MethodName} {bytes : ByteArray} {maxL nL n index mc ms : Nat} {ret : Option FieldType} {ws ws' Ts : List Cond} {rm : Room} {own : String} {As st0 : List Value} {Qc : Array Value → State → Outcome → State → Prop} {free : Nat → Prop}
/-- 'throw new E(text)' of this class -/
theorem my_throwG {own cls text : String} {ik is ic : Nat} {α : Type} {resM : String ⊕ α} (hexec : p.tables.exec = Jvm.exec) (hb : c.code = cc) (hl : l.stackTraces = false) (hown : s.vm.findClass own = some m.cls)
    (hk : (Cond.classLink own ik cls).before args s = true) (hini : (Cond.initialized cls).before args s = true) (hfilt : ∀ w ∈ (vx_atS own ic cls ["java/lang/RuntimeException", "java/lang/Exception"]).filter goodWord, w.before args s = true)
    (hXK : XK (fun q : Nat => s.heap.size ≤ q) s s.heap) (ho : own = RX5) (hstr : (is, text) ∈ my_str) (hcls : Bundle.fit cls = true)
    (hgood : ∀ w ∈ Cond.classLink own ik cls :: Cond.initialized cls :: vx_atS own ic cls ["java/lang/RuntimeException", "java/lang/Exception"], vx_ot w = true)
    (hbad : ∀ w ∈ (vx_atS own ic cls ["java/lang/RuntimeException", "java/lang/Exception"]).filter (fun w => !goodWord w), w ∈ my_xw)
    (hS : va_S (fun q : Nat => s.heap.size ≤ q) s.heap H locs) (hsize : ls.size = c.maxLocals)
    (d0 : decode cc pc = .ok (.new ik, 3)) (d3 : decode cc (pc + 3) = .ok (.dup, 1)) (d4 : decode cc (pc + 4) = .ok (.ldc is, 2)) (d6 : decode cc (pc + 6) = .ok (.invokespecial ic, 3)) (d9 : decode cc (pc + 9) = .ok (.athrow, 1))
    (ht : ∀ x ∈ c.exceptionTable.toList, False) (hR : 5 < R.frames ∧ (rest.map fun v => v.category).sum + 82 ≤ R.locals ∧ cells + 1 ≤ R.cells ∧ slots + 6 ≤ R.slots) (hlk : meth.locks = false)
    (hres : resM = .inl cls) (hf : ∀ q : Nat, s.heap.size ≤ q → free q) (hc : cells + 1 ≤ mc) (hs : slots + 6 ≤ ms) :
    W p l e R s m args below meth c H locs cells slots (vx_MQ below Qc (vx_X (fun _ : Unit => True) (fun E _ _ => resM = .inl E) (fun q : Nat => s.heap.size ≤ q)) args s mc ms free) (F0 m pc ls rest) := by
  subst ho
  obtain ⟨sa, hsa⟩ := hXK.2.2.2.1 _ hstr
  exact vx_throwS (text := text) (sa := sa) (names := ["java/lang/RuntimeException", "java/lang/Exception"]) hexec hb hl hown hcls (by decide) hk hini hsa
    (vx_hat hfilt hbad (fun w hw => va_Nw.use (my_xw_good w hw) (hXK.2.2.1 w hw))) hgood hXK.1 hXK.2.1 hS hsize d0 d3 d4 d6 d9 (fun x hx => (ht x hx).elim) hR.1 hR.2.1 hR.2.2.1 hR.2.2.2 hlk
    (fun t hA h1 h2 => ⟨(), trivial, hres, Nat.le_trans hS.1 h1, fun q hq hnq => (h2 q (Nat.lt_of_lt_of_le hq hS.1)).trans (hS.2.1 q hq hnq)⟩) (fun z hz => hf _ (hS.2.2 z hz)) hc hs
/-- a call of a method that only checks: it returns, or its exception leaves this method too -/
theorem my_callT {α β : Type} {res : String ⊕ α} {resM : String ⊕ β} (S : CallFix p m c cc nL s args Ts own) (ht : ∀ x ∈ c.exceptionTable.toList, False) (hlk : meth.locks = false) (hXK : XK (fun q : Nat => s.heap.size ≤ q) s s.heap) (hS : va_S (fun q : Nat => s.heap.size ≤ q) s.heap H locs)
    (hM : vx_Met l y ws rm (my_PcT H.size As) (va_Qv (fun (_ : Unit) => ∃ u, res = .inr u) (fun _ _ => True) (fun q : Nat => H.size ≤ q)) (vx_X (fun _ : Unit => True) (fun E _ _ => res = .inl E) (fun q : Nat => H.size ≤ q)) 1 6 (fun q : Nat => H.size ≤ q))
    (hT : GoodIn Ts (va_wsS own index y ws)) (hw : ws = Cond.code y bytes maxL ret :: ws')
    (hd : y.cls ≠ "java/lang/invoke/MethodHandle" ∧ y.cls ≠ "java/lang/invoke/VarHandle" ∧ (parseMethodDescriptor y.desc).map (fun d => d.parameters.length) = some n) (hr0 : rm.cells = 1 ∧ rm.slots = 6) (hR : rm.frames + 1 ≤ R.frames ∧ 8 + (maxL + 11) + rm.locals ≤ R.locals) (hz : cells + 1 ≤ R.cells ∧ slots + 6 ≤ R.slots) (hz2 : cells + 1 ≤ mc ∧ slots + 6 ≤ ms)
    (hfree : ∀ q : Nat, s.heap.size ≤ q → free q) (hprop : ∀ E, res = .inl E → resM = .inl E)
    (hl : ls.size = nL) (hn : As.length = n) (hst : st0 = As.reverse ++ rest) (hW : (rest.map fun v => v.category).sum ≤ 8) (hdg : decode cc pc = .ok (.invokestatic index, 3))
    (k : ∀ (u : α) (H1 : Heap) (locs1 : List Loc), res = .inr u → (∀ q : Nat, q < H.size → H1[q]? = H[q]?) → va_S (fun q : Nat => s.heap.size ≤ q) s.heap H1 locs1 → W p l e R s m args below meth c H1 locs1 (cells + 1) (slots + 6) (vx_MQ below Qc (vx_X (fun _ : Unit => True) (fun E _ _ => resM = .inl E) (fun q : Nat => s.heap.size ≤ q)) args s mc ms free) (F0 m (pc + 3) ls rest)) :
    W p l e R s m args below meth c H locs cells slots (vx_MQ below Qc (vx_X (fun _ : Unit => True) (fun E _ _ => resM = .inl E) (fun q : Nat => s.heap.size ≤ q)) args s mc ms free) (F0 m pc ls st0) := by
  have hle : ∀ q : Nat, H.size ≤ q → s.heap.size ≤ q := fun q h => Nat.le_trans hS.1 h
  have hpre : PreS s H (my_PcT H.size As) As := ⟨fun a U g mk q => ⟨q.1, q.2.1, q.2.2.framed⟩, fun U hU hW => ⟨rfl, by rw [hU], by rw [hU]; exact hXK.moved hW (fun a h1 h2 => hS.2.1 a h1 h2) hle⟩⟩
  refine vx_callv (vx_runS (As := As) (rest := rest) S hM (va_cwS n S.2.2.2.2 hT hw hr0.1 hr0.2 hd hR) hpre rfl hn hl hst (lv_room hW) hdg hz) hS (fun q _ h => hle q h) hle (fun q _ h => hle q h) (fun E ce q9 u t H1 locs1 ht1 hvm _ hB hz1 hk1 hS1 hce hcv hcl => ?_) (fun u t H1 locs1 ht1 hvm hp _ hz1 hk1 hS1 => ?_)
  · refine vx_out (fun x hx => (ht x hx).elim) hlk hce hcv hcl (fun t2 ht2 hA2 => ⟨(), trivial, hprop E hB, ?_, fun q hq hnq => ?_⟩) (fun z hz => hfree _ (hS1.2.2 z hz)) hz2.1 hz2.2
    · rw [ht2]; exact hS1.1
    · rw [ht2]; exact hS1.2.1 q hq hnq
  · obtain ⟨v, hv⟩ := hp
    exact k v H1 locs1 hv (fun q hq => hk1 q hq (Nat.not_le.mpr hq)) hS1
end MyX

def xh {α β : Type} (o : Option (String ⊕ α)) (k : α → Option β) (hs : String → Option β) : Option β := match o with
  | none => none
  | some (.inl E) => hs E
  | some (.inr a) => k a
theorem xh_e {α β : Type} {o : Option (String ⊕ α)} {k : α → Option β} {hs : String → Option β} {r : β} (h : xh o k hs = some r) : ∃ z, o = some z ∧ (∀ E, z = .inl E → hs E = some r) ∧ ∀ a, z = .inr a → k a = some r := by
  match o, h with
  | some (.inl E), h => exact ⟨.inl E, rfl, fun E' he => by cases he; exact h, fun a ha => by cases ha⟩
  | some (.inr a), h =>
    refine ⟨.inr a, rfl, fun E he => ?_, fun a' ha => ?_⟩
    · cases he
    · cases ha
      exact h
section MyH
variable {p : Program} {l : Launch} {e : Env} {R : Room} {s : State} {m : MethodId} {args : Array Value} {below : List Frame} {meth : Method} {c : Code} {H : Heap} {locs : List Loc} {cells slots : Nat} {Q : State → Prop} {cc : ByteArray} {pc : Nat} {ls : Array Slot} {rest : List Value}
variable {y : MethodName} {bytes : ByteArray} {maxL nL n index ci mc ms : Nat} {ret : Option FieldType} {ws ws' Ts : List Cond} {rm : Room} {own C : String} {As st0 : List Value} {D : va_G} {cl : List vw_C} {tys : List (ClassId × FieldType)} {wc wA wr : va_W} {b : Nat} {fs : List Value} {T0 : u_T} {N0 : Nat} {A0 : Nat → Prop} {H0 : Heap} {hh : List (Nat × Nat × Nat × Nat)}
theorem my_subP (hP : va_P D cl wA H) (isC : List Nat) (hC : isC.map (fun i => wA[i]?) = wc.map some) : va_P D cl wc H := hP.by (fun k => isC.getD k 0) (fun k q hk => by
    have h1 : (isC.map (fun i => wA[i]?))[k]? = some (some q) := by rw [hC, List.getElem?_map, hk]; rfl
    rw [List.getElem?_map] at h1
    cases hi : isC[k]? with
    | none => rw [hi] at h1; cases h1
    | some i => rw [hi] at h1; rw [List.getD_eq_getElem?_getD, hi]; exact Option.some.inj h1)

theorem my_callXMi {α SS : Type} {res : String ⊕ α} {post : Int32 → SS → Prop} {w1 : SS → va_W} (S : CallFix p m c cc nL s args Ts own) (hK : va_K D cl tys s) (hP : va_P D cl wA H) (hD : va_D A0 wA) (hS : va_S A0 H0 H locs) (hA : ∀ q, H0.size ≤ q → A0 q) (hXK : XK (fun q : Nat => H.size ≤ q) s H) (isC isR : List Nat) (hC : isC.map (fun i => wA[i]?) = wc.map some) (hRs : isR.map (fun i => wA[i]?) = wr.map some) (hnd : va_nd isR = true) (hdis : ∀ i ∈ isR, i ∉ isC) (hndC : va_nd isC = true)
    (hM : vx_Met l y ws rm (my_PcTM D cl tys H.size wc (.ref b :: As)) (va_Qi post (my_B D cl tys (va_A wc H.size) w1) (va_A wc H.size)) (vx_X (fun _ : Unit => True) (fun E _ _ => res = .inl E) (fun q : Nat => H.size ≤ q)) mc ms (va_A wc H.size)) (hT : GoodIn Ts (wsV own index C y ws)) (hw : ws = Cond.code y bytes maxL ret :: ws') (hr0 : rm.cells = mc ∧ rm.slots = ms)
    (hc : cl[ci]? = some (C, T0, N0)) (he : wc[0]? = some (b, .inr (ci, fs)))
    (hd : y.cls = C ∧ y.cls ≠ "java/lang/invoke/MethodHandle" ∧ y.cls ≠ "java/lang/invoke/VarHandle" ∧ (parseMethodDescriptor y.desc).map (fun d => d.parameters.length) = some n) (hR : rm.frames + 1 ≤ R.frames ∧ 8 + (maxL + 11) + rm.locals ≤ R.locals) (hz : cells + mc ≤ R.cells ∧ slots + ms ≤ R.slots)
    (hl : ls.size = nL) (hn : As.length = n) (hst : st0 = As.reverse ++ .ref b :: rest) (hW : (rest.map fun v => v.category).sum ≤ 8) (hdg : decode cc pc = .ok (.invokevirtual index, 3))
    (kx : ∀ (E : String) (ce : Cell) (q9 : Addr) (H1 : Heap) (locs1 : List Loc), res = .inl E → (∀ q : Nat, q < H.size → H1[q]? = H[q]?) → va_S A0 H0 H1 locs1 → H1[q9]? = some ce → ce.vm = .none → s.vm.findClass E = some ce.cls → vx_W p l e R s m args below meth c H1 locs1 (cells + mc) (slots + ms) Q (F0 m pc ls rest) q9)
    (k : ∀ (r : Int32) (u : SS) (H1 : Heap) (locs1 : List Loc), post r u → va_P D cl (wr ++ w1 u) H1 → va_D A0 (wr ++ w1 u) → va_S A0 H0 H1 locs1 → W p l e R s m args below meth c H1 locs1 (cells + mc) (slots + ms) Q (F0 m (pc + 3) ls (.int r :: rest))) : W p l e R s m args below meth c H locs cells slots Q (F0 m pc ls st0) := by
  have hDc : va_D A0 wc := hD.sub isC hndC hC
  have hPc : va_P D cl wc H := my_subP hP isC hC
  have hF := va_free (wc := wc) hD hS hA isC hC
  have hpre : PreV s H C b (my_PcTM D cl tys H.size wc (.ref b :: As)) As :=
    ⟨fun a U g mk q => by obtain ⟨q0, q1, q2, q3, q4, q5⟩ := q; exact ⟨q0, q1, q2, va_K.moved (u := U) (U := U.calling g mk a) (Vm.Alike.refl U.vm) q3, q4, q5.framed⟩, va_recv hK hPc hc he, fun U hU hW => ⟨rfl, by rw [hU], by rw [hU]; exact hPc, va_K.moved hW.alike hK, hDc.weaken (fun _ _ _ _ => trivial), by rw [hU]; exact hXK.moved hW (fun _ _ _ => rfl) (fun _ h => h)⟩⟩
  refine vx_calli (vx_runV (As := As) (rest := rest) S hM (cwV n S.2.2.2.2 hT hw hr0.1 hr0.2 hd hR) hpre rfl hn hl hst (lv_room hW) hdg hz) hS (fun q _ h => hF q h) hF (fun q _ h => hA q (Nat.le_trans hS.1 h)) (fun E ce q9 u t H1 locs1 ht1 hvm _ hB hz1 hk1 hS1 hce hcv hcl => ?_) (fun r u t H1 locs1 ht hvm hw2 hB hz1 hk1 hS1 => ?_)
  · exact kx E ce q9 H1 locs1 hB (fun q hq => hk1 q hq (Nat.not_le.mpr hq)) hS1 hce hcv hcl
  obtain ⟨hP1, hK1, hD1⟩ := hB
  rw [ht] at hP1
  obtain ⟨hP2, hD2⟩ := va_join (wr := wr) (w1 := w1 u) hP hD isC isR hC hRs hnd hdis hk1 hF hP1 hD1
  exact k r u H1 locs1 hw2 hP2 hD2 hS1
theorem my_callXRi {α : Type} {res : String ⊕ α} {post : Int32 → Unit → Prop} (S : CallFix p m c cc nL s args Ts own) (hK : va_K D cl tys s) (hP : va_P D cl wA H) (hS : va_S A0 H0 H locs) (hA : ∀ q, H0.size ≤ q → A0 q) (hXK : XK (fun q : Nat => H.size ≤ q) s H) (isC : List Nat) (hC : isC.map (fun i => wA[i]?) = wc.map some)
    (hM : vx_Met l y ws rm (my_PcTR D cl tys H.size wc (.ref b :: As)) (va_Qi post (fun _ _ => True) (fun q : Nat => H.size ≤ q)) (vx_X (fun _ : Unit => True) (fun E _ _ => res = .inl E) (fun q : Nat => H.size ≤ q)) mc ms (fun q : Nat => H.size ≤ q)) (hT : GoodIn Ts (wsV own index C y ws)) (hw : ws = Cond.code y bytes maxL ret :: ws') (hr0 : rm.cells = mc ∧ rm.slots = ms)
    (hc : cl[ci]? = some (C, T0, N0)) (he : wc[0]? = some (b, .inr (ci, fs)))
    (hd : y.cls = C ∧ y.cls ≠ "java/lang/invoke/MethodHandle" ∧ y.cls ≠ "java/lang/invoke/VarHandle" ∧ (parseMethodDescriptor y.desc).map (fun d => d.parameters.length) = some n) (hR : rm.frames + 1 ≤ R.frames ∧ 8 + (maxL + 11) + rm.locals ≤ R.locals) (hz : cells + mc ≤ R.cells ∧ slots + ms ≤ R.slots)
    (hl : ls.size = nL) (hn : As.length = n) (hst : st0 = As.reverse ++ .ref b :: rest) (hW : (rest.map fun v => v.category).sum ≤ 8) (hdg : decode cc pc = .ok (.invokevirtual index, 3))
    (kx : ∀ (E : String) (ce : Cell) (q9 : Addr) (H1 : Heap) (locs1 : List Loc), res = .inl E → (∀ q : Nat, q < H.size → H1[q]? = H[q]?) → va_S A0 H0 H1 locs1 → H1[q9]? = some ce → ce.vm = .none → s.vm.findClass E = some ce.cls → vx_W p l e R s m args below meth c H1 locs1 (cells + mc) (slots + ms) Q (F0 m pc ls rest) q9)
    (k : ∀ (r : Int32) (H1 : Heap) (locs1 : List Loc), post r () → (∀ q : Nat, q < H.size → H1[q]? = H[q]?) → va_S A0 H0 H1 locs1 → W p l e R s m args below meth c H1 locs1 (cells + mc) (slots + ms) Q (F0 m (pc + 3) ls (.int r :: rest))) : W p l e R s m args below meth c H locs cells slots Q (F0 m pc ls st0) := by
  have hPc : va_P D cl wc H := my_subP hP isC hC
  have hle : ∀ q : Nat, H.size ≤ q → A0 q := fun q h => hA q (Nat.le_trans hS.1 h)
  have hpre : PreV s H C b (my_PcTR D cl tys H.size wc (.ref b :: As)) As :=
    ⟨fun a U g mk q => by obtain ⟨q0, q1, q2, q3, q5⟩ := q; exact ⟨q0, q1, q2, va_K.moved (u := U) (U := U.calling g mk a) (Vm.Alike.refl U.vm) q3, q5.framed⟩, va_recv hK hPc hc he, fun U hU hW => ⟨rfl, by rw [hU], by rw [hU]; exact hPc, va_K.moved hW.alike hK, by rw [hU]; exact hXK.moved hW (fun _ _ _ => rfl) (fun _ h => h)⟩⟩
  refine vx_calli (vx_runV (As := As) (rest := rest) S hM (cwV n S.2.2.2.2 hT hw hr0.1 hr0.2 hd hR) hpre rfl hn hl hst (lv_room hW) hdg hz) hS (fun q _ h => hle q h) hle (fun q _ h => hle q h) (fun E ce q9 u t H1 locs1 ht1 hvm _ hB hz1 hk1 hS1 hce hcv hcl => ?_) (fun r u t H1 locs1 ht hvm hw2 hB hz1 hk1 hS1 => ?_)
  · exact kx E ce q9 H1 locs1 hB (fun q hq => hk1 q hq (Nat.not_le.mpr hq)) hS1 hce hcv hcl
  · exact k r H1 locs1 hw2 (fun q hq => hk1 q hq (Nat.not_le.mpr hq)) hS1

theorem my_callXMl {α SS : Type} {res : String ⊕ α} {post : Int64 → SS → Prop} {w1 : SS → va_W} (S : CallFix p m c cc nL s args Ts own) (hK : va_K D cl tys s) (hP : va_P D cl wA H) (hD : va_D A0 wA) (hS : va_S A0 H0 H locs) (hA : ∀ q, H0.size ≤ q → A0 q) (hXK : XK (fun q : Nat => H.size ≤ q) s H) (isC isR : List Nat) (hC : isC.map (fun i => wA[i]?) = wc.map some) (hRs : isR.map (fun i => wA[i]?) = wr.map some) (hnd : va_nd isR = true) (hdis : ∀ i ∈ isR, i ∉ isC) (hndC : va_nd isC = true)
    (hM : vx_Met l y ws rm (my_PcTM D cl tys H.size wc (.ref b :: As)) (va_Ql post (my_B D cl tys (va_A wc H.size) w1) (va_A wc H.size)) (vx_X (fun _ : Unit => True) (fun E _ _ => res = .inl E) (fun q : Nat => H.size ≤ q)) mc ms (va_A wc H.size)) (hT : GoodIn Ts (wsV own index C y ws)) (hw : ws = Cond.code y bytes maxL ret :: ws') (hr0 : rm.cells = mc ∧ rm.slots = ms)
    (hc : cl[ci]? = some (C, T0, N0)) (he : wc[0]? = some (b, .inr (ci, fs)))
    (hd : y.cls = C ∧ y.cls ≠ "java/lang/invoke/MethodHandle" ∧ y.cls ≠ "java/lang/invoke/VarHandle" ∧ (parseMethodDescriptor y.desc).map (fun d => d.parameters.length) = some n) (hR : rm.frames + 1 ≤ R.frames ∧ 8 + (maxL + 11) + rm.locals ≤ R.locals) (hz : cells + mc ≤ R.cells ∧ slots + ms ≤ R.slots)
    (hl : ls.size = nL) (hn : As.length = n) (hst : st0 = As.reverse ++ .ref b :: rest) (hW : (rest.map fun v => v.category).sum ≤ 8) (hdg : decode cc pc = .ok (.invokevirtual index, 3))
    (kx : ∀ (E : String) (ce : Cell) (q9 : Addr) (H1 : Heap) (locs1 : List Loc), res = .inl E → (∀ q : Nat, q < H.size → H1[q]? = H[q]?) → va_S A0 H0 H1 locs1 → H1[q9]? = some ce → ce.vm = .none → s.vm.findClass E = some ce.cls → vx_W p l e R s m args below meth c H1 locs1 (cells + mc) (slots + ms) Q (F0 m pc ls rest) q9)
    (k : ∀ (r : Int64) (u : SS) (H1 : Heap) (locs1 : List Loc), post r u → va_P D cl (wr ++ w1 u) H1 → va_D A0 (wr ++ w1 u) → va_S A0 H0 H1 locs1 → W p l e R s m args below meth c H1 locs1 (cells + mc) (slots + ms) Q (F0 m (pc + 3) ls (.long r :: rest))) : W p l e R s m args below meth c H locs cells slots Q (F0 m pc ls st0) := by
  have hDc : va_D A0 wc := hD.sub isC hndC hC
  have hPc : va_P D cl wc H := my_subP hP isC hC
  have hF := va_free (wc := wc) hD hS hA isC hC
  have hpre : PreV s H C b (my_PcTM D cl tys H.size wc (.ref b :: As)) As :=
    ⟨fun a U g mk q => by obtain ⟨q0, q1, q2, q3, q4, q5⟩ := q; exact ⟨q0, q1, q2, va_K.moved (u := U) (U := U.calling g mk a) (Vm.Alike.refl U.vm) q3, q4, q5.framed⟩, va_recv hK hPc hc he, fun U hU hW => ⟨rfl, by rw [hU], by rw [hU]; exact hPc, va_K.moved hW.alike hK, hDc.weaken (fun _ _ _ _ => trivial), by rw [hU]; exact hXK.moved hW (fun _ _ _ => rfl) (fun _ h => h)⟩⟩
  refine vx_calll (vx_runV (As := As) (rest := rest) S hM (cwV n S.2.2.2.2 hT hw hr0.1 hr0.2 hd hR) hpre rfl hn hl hst (lv_room hW) hdg hz) hS (fun q _ h => hF q h) hF (fun q _ h => hA q (Nat.le_trans hS.1 h)) (fun E ce q9 u t H1 locs1 ht1 hvm _ hB hz1 hk1 hS1 hce hcv hcl => ?_) (fun r u t H1 locs1 ht hvm hw2 hB hz1 hk1 hS1 => ?_)
  · exact kx E ce q9 H1 locs1 hB (fun q hq => hk1 q hq (Nat.not_le.mpr hq)) hS1 hce hcv hcl
  obtain ⟨hP1, hK1, hD1⟩ := hB
  rw [ht] at hP1
  obtain ⟨hP2, hD2⟩ := va_join (wr := wr) (w1 := w1 u) hP hD isC isR hC hRs hnd hdis hk1 hF hP1 hD1
  exact k r u H1 locs1 hw2 hP2 hD2 hS1
theorem my_callXRl {α : Type} {res : String ⊕ α} {post : Int64 → Unit → Prop} (S : CallFix p m c cc nL s args Ts own) (hK : va_K D cl tys s) (hP : va_P D cl wA H) (hS : va_S A0 H0 H locs) (hA : ∀ q, H0.size ≤ q → A0 q) (hXK : XK (fun q : Nat => H.size ≤ q) s H) (isC : List Nat) (hC : isC.map (fun i => wA[i]?) = wc.map some)
    (hM : vx_Met l y ws rm (my_PcTR D cl tys H.size wc (.ref b :: As)) (va_Ql post (fun _ _ => True) (fun q : Nat => H.size ≤ q)) (vx_X (fun _ : Unit => True) (fun E _ _ => res = .inl E) (fun q : Nat => H.size ≤ q)) mc ms (fun q : Nat => H.size ≤ q)) (hT : GoodIn Ts (wsV own index C y ws)) (hw : ws = Cond.code y bytes maxL ret :: ws') (hr0 : rm.cells = mc ∧ rm.slots = ms)
    (hc : cl[ci]? = some (C, T0, N0)) (he : wc[0]? = some (b, .inr (ci, fs)))
    (hd : y.cls = C ∧ y.cls ≠ "java/lang/invoke/MethodHandle" ∧ y.cls ≠ "java/lang/invoke/VarHandle" ∧ (parseMethodDescriptor y.desc).map (fun d => d.parameters.length) = some n) (hR : rm.frames + 1 ≤ R.frames ∧ 8 + (maxL + 11) + rm.locals ≤ R.locals) (hz : cells + mc ≤ R.cells ∧ slots + ms ≤ R.slots)
    (hl : ls.size = nL) (hn : As.length = n) (hst : st0 = As.reverse ++ .ref b :: rest) (hW : (rest.map fun v => v.category).sum ≤ 8) (hdg : decode cc pc = .ok (.invokevirtual index, 3))
    (kx : ∀ (E : String) (ce : Cell) (q9 : Addr) (H1 : Heap) (locs1 : List Loc), res = .inl E → (∀ q : Nat, q < H.size → H1[q]? = H[q]?) → va_S A0 H0 H1 locs1 → H1[q9]? = some ce → ce.vm = .none → s.vm.findClass E = some ce.cls → vx_W p l e R s m args below meth c H1 locs1 (cells + mc) (slots + ms) Q (F0 m pc ls rest) q9)
    (k : ∀ (r : Int64) (H1 : Heap) (locs1 : List Loc), post r () → (∀ q : Nat, q < H.size → H1[q]? = H[q]?) → va_S A0 H0 H1 locs1 → W p l e R s m args below meth c H1 locs1 (cells + mc) (slots + ms) Q (F0 m (pc + 3) ls (.long r :: rest))) : W p l e R s m args below meth c H locs cells slots Q (F0 m pc ls st0) := by
  have hPc : va_P D cl wc H := my_subP hP isC hC
  have hle : ∀ q : Nat, H.size ≤ q → A0 q := fun q h => hA q (Nat.le_trans hS.1 h)
  have hpre : PreV s H C b (my_PcTR D cl tys H.size wc (.ref b :: As)) As :=
    ⟨fun a U g mk q => by obtain ⟨q0, q1, q2, q3, q5⟩ := q; exact ⟨q0, q1, q2, va_K.moved (u := U) (U := U.calling g mk a) (Vm.Alike.refl U.vm) q3, q5.framed⟩, va_recv hK hPc hc he, fun U hU hW => ⟨rfl, by rw [hU], by rw [hU]; exact hPc, va_K.moved hW.alike hK, by rw [hU]; exact hXK.moved hW (fun _ _ _ => rfl) (fun _ h => h)⟩⟩
  refine vx_calll (vx_runV (As := As) (rest := rest) S hM (cwV n S.2.2.2.2 hT hw hr0.1 hr0.2 hd hR) hpre rfl hn hl hst (lv_room hW) hdg hz) hS (fun q _ h => hle q h) hle (fun q _ h => hle q h) (fun E ce q9 u t H1 locs1 ht1 hvm _ hB hz1 hk1 hS1 hce hcv hcl => ?_) (fun r u t H1 locs1 ht hvm hw2 hB hz1 hk1 hS1 => ?_)
  · exact kx E ce q9 H1 locs1 hB (fun q hq => hk1 q hq (Nat.not_le.mpr hq)) hS1 hce hcv hcl
  · exact k r H1 locs1 hw2 (fun q hq => hk1 q hq (Nat.not_le.mpr hq)) hS1

/-- a call of one of the law's own helpers -/
theorem my_callH {SS : Type} {post : Int32 → SS → Prop} {w1 : SS → va_W} (S : CallFix p m c cc nL s args Ts own) (hK : va_K D cl tys s) (hP : va_P D cl wA H) (hD : va_D A0 wA) (hS : va_S A0 H0 H locs) (hA : ∀ q, H0.size ≤ q → A0 q) (hXK : XK (fun q : Nat => H.size ≤ q) s H) (isC isR : List Nat) (hC : isC.map (fun i => wA[i]?) = wc.map some) (hRs : isR.map (fun i => wA[i]?) = wr.map some) (hnd : va_nd isR = true) (hdis : ∀ i ∈ isR, i ∉ isC) (hndC : va_nd isC = true)
    (hM : Met l y ws rm (my_PcTM D cl tys H.size wc As) (va_Qi post (my_B D cl tys (va_A wc H.size) w1) (va_A wc H.size)) mc ms (va_A wc H.size)) (hT : GoodIn Ts (va_wsS own index y ws)) (hw : ws = Cond.codeWith y bytes maxL ret hh :: ws') (hr0 : rm.cells = mc ∧ rm.slots = ms)
    (hd : y.cls ≠ "java/lang/invoke/MethodHandle" ∧ y.cls ≠ "java/lang/invoke/VarHandle" ∧ (parseMethodDescriptor y.desc).map (fun d => d.parameters.length) = some n) (hR : rm.frames + 1 ≤ R.frames ∧ 8 + (maxL + 11) + rm.locals ≤ R.locals) (hz : cells + mc ≤ R.cells ∧ slots + ms ≤ R.slots)
    (hl : ls.size = nL) (hn : As.length = n) (hst : st0 = As.reverse ++ rest) (hW : (rest.map fun v => v.category).sum ≤ 8) (hdg : decode cc pc = .ok (.invokestatic index, 3))
    (k : ∀ (r : Int32) (u : SS) (H1 : Heap) (locs1 : List Loc), post r u → va_P D cl (wr ++ w1 u) H1 → va_D A0 (wr ++ w1 u) → va_S A0 H0 H1 locs1 → W p l e R s m args below meth c H1 locs1 (cells + mc) (slots + ms) Q (F0 m (pc + 3) ls (.int r :: rest))) : W p l e R s m args below meth c H locs cells slots Q (F0 m pc ls st0) := by
  have hDc : va_D A0 wc := hD.sub isC hndC hC
  have hPc : va_P D cl wc H := my_subP hP isC hC
  have hF := va_free (wc := wc) hD hS hA isC hC
  have hpre : PreS s H (my_PcTM D cl tys H.size wc As) As :=
    ⟨fun a U g mk q => by obtain ⟨q0, q1, q2, q3, q4, q5⟩ := q; exact ⟨q0, q1, q2, va_K.moved (u := U) (U := U.calling g mk a) (Vm.Alike.refl U.vm) q3, q4, q5.framed⟩, fun U hU hW => ⟨rfl, by rw [hU], by rw [hU]; exact hPc, va_K.moved hW.alike hK, hDc.weaken (fun _ _ _ _ => trivial), by rw [hU]; exact hXK.moved hW (fun _ _ _ => rfl) (fun _ h => h)⟩⟩
  refine va_calli (vx_runSW (As := As) (rest := rest) S hM (vx_cwSW n S.2.2.2.2 hT hw hr0.1 hr0.2 hd hR) hpre rfl hn hl hst (lv_room hW) hdg hz) hS (fun q _ h => hF q h) hF (fun r u t H1 locs1 ht hvm hw2 hB hz1 hk1 hS1 => ?_)
  obtain ⟨hP1, hK1, hD1⟩ := hB
  rw [ht] at hP1
  obtain ⟨hP2, hD2⟩ := va_join (wr := wr) (w1 := w1 u) hP hD isC isR hC hRs hnd hdis hk1 hF hP1 hD1
  exact k r u H1 locs1 hw2 hP2 hD2 hS1
/-- caught here: the row of the table that takes it -/
theorem my_catch {hp hq0 : List (Nat × Nat × Nat × Nat)} {z : Nat × Nat × Nat × Nat} {name : String} {ce : Cell} {q : Addr} (hown : s.vm.findClass own = some m.cls) (htab : c.exceptionTable.toList = tableOf (hp ++ z :: hq0))
    (hpass : ∀ w ∈ hp, w.2.2.2 ≠ 0 ∧ ∃ nm : String, (Cond.classLink own w.2.2.2 nm).before args s = true ∧ va_Nc name nm s) (hx : covers ⟨z.1, z.2.1, z.2.2.1, z.2.2.2⟩ pc = true) (h0 : z.2.2.2 ≠ 0)
    (hlink : (Cond.classLink own z.2.2.2 name).before args s = true) (hcast : va_Nw (.castable name name) s) (hcell : H[q]? = some ce) (hv : ce.vm = .none) (hcl : s.vm.findClass name = some ce.cls)
    (kk : W p l e R s m args below meth c H locs cells slots Q (F0 m z.2.2.1 ls [.ref q])) : vx_W p l e R s m args below meth c H locs cells slots Q (F0 m pc ls rest) q := by
  refine vx_catch hown (tableOf hp) ⟨z.1, z.2.1, z.2.2.1, z.2.2.2⟩ (tableOf hq0) (by rw [htab]; simp [tableOf]) (fun w hw => ?_) hx h0 hlink (va_Nw.use rfl hcast) hcell hv hcl kk
  simp only [tableOf, List.mem_map] at hw
  obtain ⟨v, hv1, rfl⟩ := hw
  exact Or.inr (hpass v hv1)
end MyH
