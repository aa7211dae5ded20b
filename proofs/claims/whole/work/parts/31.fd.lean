section MyFD
variable {p : Program} {l : Launch} {e : Env} {R : Room} {s : State} {m : MethodId} {args : Array Value} {below : List Frame} {meth : Method} {c : Code} {H : Heap} {locs : List Loc} {cells slots : Nat} {Q : State → Prop} {cc : ByteArray} {pc : Nat} {ls : Array Slot} {rest : List Value}
variable {y : MethodName} {bytes : ByteArray} {maxL nL n index ci mc ms : Nat} {ret : Option FieldType} {ws ws' Ts : List Cond} {rm : Room} {own C : String} {As st0 : List Value} {D : va_G} {cl : List vw_C} {tys : List (ClassId × FieldType)} {wc : va_W} {b : Nat} {fs : List Value} {T0 : u_T} {N0 : Nat}
variable {A0 : Nat → Prop} {H0 : Heap} {wA wr : va_W}
theorem my_callRf {r : UInt32} (S : CallFix p m c cc nL s args Ts own) (hK : va_K D cl tys s) (hP : va_P D cl wc H) (hM : Met l y ws rm (my_PcR D cl tys wc (.ref b :: As)) (vp_Sf (fun z => z = r)) 0 0 (fun _ => False)) (hT : GoodIn Ts (wsV own index C y ws)) (hw : ws = Cond.code y bytes maxL ret :: ws') (hr0 : rm.cells = 0 ∧ rm.slots = 0)
    (hc : cl[ci]? = some (C, T0, N0)) (he : wc[0]? = some (b, .inr (ci, fs)))
    (hd : y.cls = C ∧ y.cls ≠ "java/lang/invoke/MethodHandle" ∧ y.cls ≠ "java/lang/invoke/VarHandle" ∧ (parseMethodDescriptor y.desc).map (fun d => d.parameters.length) = some n) (hR : rm.frames + 1 ≤ R.frames ∧ 8 + (maxL + 11) + rm.locals ≤ R.locals) (hz : cells ≤ R.cells ∧ slots ≤ R.slots)
    (hl : ls.size = nL) (hn : As.length = n) (hst : st0 = As.reverse ++ .ref b :: rest) (hW : (rest.map fun v => v.category).sum ≤ 8) (hdg : decode cc pc = .ok (.invokevirtual index, 3))
    (k : W p l e R s m args below meth c H locs cells slots Q (F0 m (pc + 3) ls (.float r :: rest))) : W p l e R s m args below meth c H locs cells slots Q (F0 m pc ls st0) := by
  refine vp_callSf (W.runV (As := As) (rest := rest) S hM (cwV n S.2.2.2.2 hT hw hr0.1 hr0.2 hd hR) (my_preR hP hK hc he) rfl hn hl hst (lv_room hW) hdg hz) (fun r' h => ?_)
  subst h; exact k
theorem my_callMf {SS : Type} {post : UInt32 → SS → Prop} {w1 : SS → va_W} (S : CallFix p m c cc nL s args Ts own) (hK : va_K D cl tys s) (hP : va_P D cl wA H) (hD : va_D A0 wA) (hS : va_S A0 H0 H locs) (hA : ∀ q, H0.size ≤ q → A0 q) (isC isR : List Nat) (hC : isC.map (fun i => wA[i]?) = wc.map some) (hRs : isR.map (fun i => wA[i]?) = wr.map some) (hnd : va_nd isR = true) (hdis : ∀ i ∈ isR, i ∉ isC) (hndC : va_nd isC = true)
    (hM : Met l y ws rm (my_PcM D cl tys H.size wc (.ref b :: As)) (va_Qf post (my_B D cl tys (va_A wc H.size) w1) (va_A wc H.size)) mc ms (va_A wc H.size)) (hT : GoodIn Ts (wsV own index C y ws)) (hw : ws = Cond.code y bytes maxL ret :: ws') (hr0 : rm.cells = mc ∧ rm.slots = ms)
    (hc : cl[ci]? = some (C, T0, N0)) (he : wc[0]? = some (b, .inr (ci, fs)))
    (hd : y.cls = C ∧ y.cls ≠ "java/lang/invoke/MethodHandle" ∧ y.cls ≠ "java/lang/invoke/VarHandle" ∧ (parseMethodDescriptor y.desc).map (fun d => d.parameters.length) = some n) (hR : rm.frames + 1 ≤ R.frames ∧ 8 + (maxL + 11) + rm.locals ≤ R.locals) (hz : cells + mc ≤ R.cells ∧ slots + ms ≤ R.slots)
    (hl : ls.size = nL) (hn : As.length = n) (hst : st0 = As.reverse ++ .ref b :: rest) (hW : (rest.map fun v => v.category).sum ≤ 8) (hdg : decode cc pc = .ok (.invokevirtual index, 3))
    (k : ∀ (r : UInt32) (u : SS) (H1 : Heap) (locs1 : List Loc), post r u → va_P D cl (wr ++ w1 u) H1 → va_D A0 (wr ++ w1 u) → va_S A0 H0 H1 locs1 → W p l e R s m args below meth c H1 locs1 (cells + mc) (slots + ms) Q (F0 m (pc + 3) ls (.float r :: rest))) : W p l e R s m args below meth c H locs cells slots Q (F0 m pc ls st0) := by
  have hDc : va_D A0 wc := hD.sub isC hndC hC
  have hPc : va_P D cl wc H := hP.by (fun k => isC.getD k 0) (fun k q hk => by
    have h1 : (isC.map (fun i => wA[i]?))[k]? = some (some q) := by rw [hC, List.getElem?_map, hk]; rfl
    rw [List.getElem?_map] at h1
    cases hi : isC[k]? with
    | none => rw [hi] at h1; cases h1
    | some i => rw [hi] at h1; rw [List.getD_eq_getElem?_getD, hi]; exact Option.some.inj h1)
  have hF := va_free (wc := wc) hD hS hA isC hC
  refine va_callf (va_runV (As := As) (rest := rest) S hM (cwV n S.2.2.2.2 hT hw hr0.1 hr0.2 hd hR) (my_preM hPc hDc hK hc he) rfl hn hl hst (lv_room hW) hdg hz) hS (fun q _ h => hF q h) hF (fun r u t H1 locs1 ht hvm hw2 hB hz1 hk1 hS1 => ?_)
  obtain ⟨hP1, hK1, hD1⟩ := hB
  rw [ht] at hP1
  obtain ⟨hP2, hD2⟩ := va_join (wr := wr) (w1 := w1 u) hP hD isC isR hC hRs hnd hdis hk1 hF hP1 hD1
  exact k r u H1 locs1 hw2 hP2 hD2 hS1
theorem my_callRd {r : UInt64} (S : CallFix p m c cc nL s args Ts own) (hK : va_K D cl tys s) (hP : va_P D cl wc H) (hM : Met l y ws rm (my_PcR D cl tys wc (.ref b :: As)) (vp_Sd (fun z => z = r)) 0 0 (fun _ => False)) (hT : GoodIn Ts (wsV own index C y ws)) (hw : ws = Cond.code y bytes maxL ret :: ws') (hr0 : rm.cells = 0 ∧ rm.slots = 0)
    (hc : cl[ci]? = some (C, T0, N0)) (he : wc[0]? = some (b, .inr (ci, fs)))
    (hd : y.cls = C ∧ y.cls ≠ "java/lang/invoke/MethodHandle" ∧ y.cls ≠ "java/lang/invoke/VarHandle" ∧ (parseMethodDescriptor y.desc).map (fun d => d.parameters.length) = some n) (hR : rm.frames + 1 ≤ R.frames ∧ 8 + (maxL + 11) + rm.locals ≤ R.locals) (hz : cells ≤ R.cells ∧ slots ≤ R.slots)
    (hl : ls.size = nL) (hn : As.length = n) (hst : st0 = As.reverse ++ .ref b :: rest) (hW : (rest.map fun v => v.category).sum ≤ 8) (hdg : decode cc pc = .ok (.invokevirtual index, 3))
    (k : W p l e R s m args below meth c H locs cells slots Q (F0 m (pc + 3) ls (.double r :: rest))) : W p l e R s m args below meth c H locs cells slots Q (F0 m pc ls st0) := by
  refine vp_callSd (W.runV (As := As) (rest := rest) S hM (cwV n S.2.2.2.2 hT hw hr0.1 hr0.2 hd hR) (my_preR hP hK hc he) rfl hn hl hst (lv_room hW) hdg hz) (fun r' h => ?_)
  subst h; exact k
theorem my_callMd {SS : Type} {post : UInt64 → SS → Prop} {w1 : SS → va_W} (S : CallFix p m c cc nL s args Ts own) (hK : va_K D cl tys s) (hP : va_P D cl wA H) (hD : va_D A0 wA) (hS : va_S A0 H0 H locs) (hA : ∀ q, H0.size ≤ q → A0 q) (isC isR : List Nat) (hC : isC.map (fun i => wA[i]?) = wc.map some) (hRs : isR.map (fun i => wA[i]?) = wr.map some) (hnd : va_nd isR = true) (hdis : ∀ i ∈ isR, i ∉ isC) (hndC : va_nd isC = true)
    (hM : Met l y ws rm (my_PcM D cl tys H.size wc (.ref b :: As)) (va_Qd post (my_B D cl tys (va_A wc H.size) w1) (va_A wc H.size)) mc ms (va_A wc H.size)) (hT : GoodIn Ts (wsV own index C y ws)) (hw : ws = Cond.code y bytes maxL ret :: ws') (hr0 : rm.cells = mc ∧ rm.slots = ms)
    (hc : cl[ci]? = some (C, T0, N0)) (he : wc[0]? = some (b, .inr (ci, fs)))
    (hd : y.cls = C ∧ y.cls ≠ "java/lang/invoke/MethodHandle" ∧ y.cls ≠ "java/lang/invoke/VarHandle" ∧ (parseMethodDescriptor y.desc).map (fun d => d.parameters.length) = some n) (hR : rm.frames + 1 ≤ R.frames ∧ 8 + (maxL + 11) + rm.locals ≤ R.locals) (hz : cells + mc ≤ R.cells ∧ slots + ms ≤ R.slots)
    (hl : ls.size = nL) (hn : As.length = n) (hst : st0 = As.reverse ++ .ref b :: rest) (hW : (rest.map fun v => v.category).sum ≤ 8) (hdg : decode cc pc = .ok (.invokevirtual index, 3))
    (k : ∀ (r : UInt64) (u : SS) (H1 : Heap) (locs1 : List Loc), post r u → va_P D cl (wr ++ w1 u) H1 → va_D A0 (wr ++ w1 u) → va_S A0 H0 H1 locs1 → W p l e R s m args below meth c H1 locs1 (cells + mc) (slots + ms) Q (F0 m (pc + 3) ls (.double r :: rest))) : W p l e R s m args below meth c H locs cells slots Q (F0 m pc ls st0) := by
  have hDc : va_D A0 wc := hD.sub isC hndC hC
  have hPc : va_P D cl wc H := hP.by (fun k => isC.getD k 0) (fun k q hk => by
    have h1 : (isC.map (fun i => wA[i]?))[k]? = some (some q) := by rw [hC, List.getElem?_map, hk]; rfl
    rw [List.getElem?_map] at h1
    cases hi : isC[k]? with
    | none => rw [hi] at h1; cases h1
    | some i => rw [hi] at h1; rw [List.getD_eq_getElem?_getD, hi]; exact Option.some.inj h1)
  have hF := va_free (wc := wc) hD hS hA isC hC
  refine va_calld (va_runV (As := As) (rest := rest) S hM (cwV n S.2.2.2.2 hT hw hr0.1 hr0.2 hd hR) (my_preM hPc hDc hK hc he) rfl hn hl hst (lv_room hW) hdg hz) hS (fun q _ h => hF q h) hF (fun r u t H1 locs1 ht hvm hw2 hB hz1 hk1 hS1 => ?_)
  obtain ⟨hP1, hK1, hD1⟩ := hB
  rw [ht] at hP1
  obtain ⟨hP2, hD2⟩ := va_join (wr := wr) (w1 := w1 u) hP hD isC isR hC hRs hnd hdis hk1 hF hP1 hD1
  exact k r u H1 locs1 hw2 hP2 hD2 hS1
end MyFD
