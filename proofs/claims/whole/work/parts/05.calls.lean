/-! THE G CALLS: a method of the class, by its contract -/
section GC
variable {p : Program} {l : Launch} {e : Env} {R : Room} {s : State} {m : MethodId} {args : Array Value} {below : List Frame} {meth : Method} {c : Code} {H : Heap} {locs : List Loc} {cells slots : Nat} {Q : State → Prop}
variable {pc : Nat} {ls : Array Slot} {rest st0 : List Value} {a : Array Value} {A0 : Nat → Prop} {H0 : Heap} {mc ms : Nat} {free : Addr → Prop} {d : KD} {wc : va_W} {post : Option Value → va_W → Prop}
theorem va_callG (hr : va_Run p l e R s m args below meth c H locs cells slots mc ms (F0 m pc ls st0) rest (gQ d wc H.size post a) free) (hS : va_S A0 H0 H locs) (hA : ∀ q, va_A wc H.size q → A0 q) (hf : ∀ q, free q → A0 q)
    (kk : ∀ (r : Option Value) (wo : va_W) (H1 : Heap) (locs1 : List Loc), post r wo → va_P d.1 kcl wo H1 → va_D (va_A wc H.size) wo → (∀ q : Nat, q < H.size → ¬ va_A wc H.size q → H1[q]? = H[q]?) → va_S A0 H0 H1 locs1 → W p l e R s m args below meth c H1 locs1 (cells + mc) (slots + ms) Q (F0 m (pc + 3) ls (r.toList ++ rest))) : W p l e R s m args below meth c H locs cells slots Q (F0 m pc ls st0) := by
  intro T hT X
  obtain ⟨v, st₀, t, T', L, h0, X', hL, e1, e2, ⟨⟨r, wo, hv, hp, hb, hd⟩, hz, hk⟩, st⟩ := hr T hT X
  cases hv
  rw [h0] at hz hk
  obtain ⟨t2, a1, b1⟩ := kk v wo T'.heap (locs ++ L) hp (by rw [e1]; exact hb) hd (fun q h1 h2 => by rw [e1]; exact hk q h1 h2)
    ⟨Nat.le_trans hS.1 (by rw [e1]; exact hz), fun q h1 h2 => by rw [e1, hk q (Nat.lt_of_lt_of_le h1 hS.1) (fun z => h2 (hA q z))]; exact hS.2.1 q h1 h2, fun q hq => by
      rcases List.mem_append.mp hq with h | h
      · exact hS.2.2 q h
      · exact hf _ (hL q h)⟩ T' rfl X'
  exact ⟨t2, st t2 a1, b1⟩
end GC
section GD
variable {g : gT} {l : Launch} {R : Room} {cc : ByteArray} {nL : Nat} {own : String} {ini : Bool} {d : KD} {E : Nat → Nat → va_W → Nat → List Value → Prop} {sc : Option (Nat × Nat × (Nat → Int32))}
variable {ck sk : Nat} {ws : va_W} {lv : List (Nat × Value)} {pc : Nat} {st : List Value}
variable {y : MethodName} {cb : ByteArray} {nb : Nat} {rt : Option FieldType} {rm : Room} {As : List Value} {wc wr : va_W} {mc ms a n index ci q0 : Nat} {post : Option Value → va_W → Prop} {C host : String} {T : u_T} {N : Nat} {fs : List Value} {stk : List Value}
theorem g_blind {av : List Value} {sz : Nat} : FrameBlind (va_Pc av (fun U => U.heap.size = sz ∧ va_P d.1 kcl wc U.heap ∧ va_K d.1 kcl (kty d) U ∧ va_D (fun _ => True) wc ∧ kst d (va_A wc sz) U U.heap)) := by
  intro a U g mk q
  obtain ⟨q0, q1, qP, qK, qD, qZ⟩ := q
  exact ⟨q0, q1, qP, va_K.moved (u := U) (U := U.calling g mk a) (Vm.Alike.refl U.vm) qK, qD, qZ.blind g mk a⟩
theorem g_callV (X : gx g l R cc nL own ini d E sc) (hM : Ct l d y cb nb rt rm (.ref a :: As) wc mc ms post) (hcode : Cond.code y cb nb rt ∈ TT) (hlink : Cond.methodLink own index y ∈ TT) (hinst : Cond.instanceMethod y ∈ TT) (hsel : Cond.selects C y y ∈ TT) (hini : Cond.initialized C ∈ TT)
    (hd : y.cls = C ∧ y.cls ≠ "java/lang/invoke/MethodHandle" ∧ y.cls ≠ "java/lang/invoke/VarHandle" ∧ (parseMethodDescriptor y.desc).map (fun d => d.parameters.length) = some n) (hcl : kcl[ci]? = some (C, T, N))
    (hR : rm.frames + 1 ≤ R.frames ∧ 8 + (nb + 11) + rm.locals ≤ R.locals) (hrc : rm.cells = mc) (hrs : rm.slots = ms) (hdg : decode cc pc = .ok (.invokevirtual index, 3))
    (hf : ck + mc ≤ R.cells ∧ sk + ms ≤ R.slots) (hAs : As.length = n) (hst : stk = As.reverse ++ .ref a :: st) (hroom : (st.map fun v => v.category).sum ≤ 8)
    (isC isR : List Nat) (hC : isC.map (fun i => ws[i]?) = wc.map some) (hC2 : isC.filterMap (fun i => ws[i]?) = wc) (hCn : va_nd isC = true) (hRr : isR.map (fun i => ws[i]?) = wr.map some) (hn : va_nd isR = true) (hdis : ∀ i ∈ isR, i ∉ isC) (hq : wc[q0]? = some (a, cO ci fs))
    (kk : ∀ r wo, post r wo → g (ck + mc) (sk + ms) (wr ++ wo) lv (pc + 3) (r.toList ++ st)) : g ck sk ws lv pc stk := by
  obtain ⟨p, e, s, m, args, below, meth, c, Q, A, ⟨hx, hb, hml, hown, hts⟩, ⟨hK, hA, hZ, hin, hsc⟩, hE, rfl⟩ := X
  intro H locs ls hP hD hS hl
  have hPc := hP.sub isC hC2
  have hDc := hD.sub isC hCn hC
  have hFc := va_free hD hS hA isC hC
  have hT : ∀ w ∈ wsV own index C y (.code y cb nb rt :: TT), w ∈ TT := fun w hw => by
    rcases List.mem_append.mp hw with h | h
    · simp only [List.mem_cons, List.not_mem_nil, or_false] at h
      rcases h with rfl | rfl | rfl | rfl <;> assumption
    · rcases List.mem_cons.mp h with h | h
      · subst h; exact hcode
      · exact h
  refine va_callG (va_runV (As := As) (rest := st) ⟨hx, hb, hml, hown, hts⟩ (hM H.size) (cwV n hts (fun w hw => ⟨hT w hw, TT_good _ (hT w hw)⟩) rfl hrc hrs hd hR) ⟨g_blind, va_recv hK hPc hcl hq, fun U hU hW => ⟨rfl, by rw [hU], by rw [hU]; exact hPc, va_K.moved hW.alike hK, hDc.weaken (fun _ _ _ _ => trivial), by rw [hU]; exact hZ.call hS hW hFc⟩⟩ rfl hAs hl.1 hst (lv_room hroom) hdg hf) hS hFc hFc (fun r wo H1 locs1 hp hP1 hD1 hk1 hS1 => ?_)
  obtain ⟨hP2, hD2⟩ := va_join hP hD isC isR hC hRr hn hdis hk1 hFc hP1 hD1
  exact kk r wo hp H1 locs1 ls hP2 hD2 hS1 hl
theorem g_callS (X : gx g l R cc nL own ini d E sc) (hM : Ct l d y cb nb rt rm As wc mc ms post) (hcode : Cond.code y cb nb rt ∈ TT) (hlink : Cond.methodLink own index y ∈ TT) (hstat : Cond.static y ∈ TT) (hini : Cond.initialized y.cls ∈ TT)
    (hd : y.cls ≠ "java/lang/invoke/MethodHandle" ∧ y.cls ≠ "java/lang/invoke/VarHandle" ∧ (parseMethodDescriptor y.desc).map (fun d => d.parameters.length) = some n)
    (hR : rm.frames + 1 ≤ R.frames ∧ 8 + (nb + 11) + rm.locals ≤ R.locals) (hrc : rm.cells = mc) (hrs : rm.slots = ms) (hdg : decode cc pc = .ok (.invokestatic index, 3))
    (hf : ck + mc ≤ R.cells ∧ sk + ms ≤ R.slots) (hAs : As.length = n) (hst : stk = As.reverse ++ st) (hroom : (st.map fun v => v.category).sum ≤ 8)
    (isC isR : List Nat) (hC : isC.map (fun i => ws[i]?) = wc.map some) (hC2 : isC.filterMap (fun i => ws[i]?) = wc) (hCn : va_nd isC = true) (hRr : isR.map (fun i => ws[i]?) = wr.map some) (hn : va_nd isR = true) (hdis : ∀ i ∈ isR, i ∉ isC)
    (kk : ∀ r wo, post r wo → g (ck + mc) (sk + ms) (wr ++ wo) lv (pc + 3) (r.toList ++ st)) : g ck sk ws lv pc stk := by
  obtain ⟨p, e, s, m, args, below, meth, c, Q, A, ⟨hx, hb, hml, hown, hts⟩, ⟨hK, hA, hZ, hin, hsc⟩, hE, rfl⟩ := X
  intro H locs ls hP hD hS hl
  have hPc := hP.sub isC hC2
  have hDc := hD.sub isC hCn hC
  have hFc := va_free hD hS hA isC hC
  have hT : ∀ w ∈ va_wsS own index y (.code y cb nb rt :: TT), w ∈ TT := fun w hw => by
    rcases List.mem_append.mp hw with h | h
    · simp only [List.mem_cons, List.not_mem_nil, or_false] at h
      rcases h with rfl | rfl | rfl <;> assumption
    · rcases List.mem_cons.mp h with h | h
      · subst h; exact hcode
      · exact h
  refine va_callG (va_runS (As := As) (rest := st) ⟨hx, hb, hml, hown, hts⟩ (hM H.size) (va_cwS n hts (fun w hw => ⟨hT w hw, TT_good _ (hT w hw)⟩) rfl hrc hrs hd hR) ⟨g_blind, fun U hU hW => ⟨rfl, by rw [hU], by rw [hU]; exact hPc, va_K.moved hW.alike hK, hDc.weaken (fun _ _ _ _ => trivial), by rw [hU]; exact hZ.call hS hW hFc⟩⟩ rfl hAs hl.1 hst (lv_room hroom) hdg hf) hS hFc hFc (fun r wo H1 locs1 hp hP1 hD1 hk1 hS1 => ?_)
  obtain ⟨hP2, hD2⟩ := va_join hP hD isC isR hC hRr hn hdis hk1 hFc hP1 hD1
  exact kk r wo hp H1 locs1 ls hP2 hD2 hS1 hl
theorem g_callI (X : gx g l R cc nL own ini d E sc) (hM : Ct l d y cb nb none rm (.ref a :: As) wc mc ms post) (hcode : Cond.code y cb nb none ∈ TT) (hlink : Cond.methodLink own index y ∈ TT) (hinst : Cond.instanceMethod y ∈ TT) (hini : Cond.initialized y.cls ∈ TT) (hy1 : y.name = "<init>")
    (hd : y.cls ≠ "java/lang/invoke/MethodHandle" ∧ y.cls ≠ "java/lang/invoke/VarHandle" ∧ (parseMethodDescriptor y.desc).map (fun d => d.parameters.length) = some n)
    (hR : rm.frames + 1 ≤ R.frames ∧ 8 + (nb + 11) + rm.locals ≤ R.locals) (hrc : rm.cells = mc) (hrs : rm.slots = ms) (hdg : decode cc pc = .ok (.invokespecial index, 3))
    (hf : ck + mc ≤ R.cells ∧ sk + ms ≤ R.slots) (hAs : As.length = n) (hst : stk = As.reverse ++ .ref a :: st) (hroom : (st.map fun v => v.category).sum ≤ 8)
    (isC isR : List Nat) (hC : isC.map (fun i => ws[i]?) = wc.map some) (hC2 : isC.filterMap (fun i => ws[i]?) = wc) (hCn : va_nd isC = true) (hRr : isR.map (fun i => ws[i]?) = wr.map some) (hn : va_nd isR = true) (hdis : ∀ i ∈ isR, i ∉ isC)
    (kk : ∀ r wo, post r wo → g (ck + mc) (sk + ms) (wr ++ wo) lv (pc + 3) (r.toList ++ st)) : g ck sk ws lv pc stk := by
  obtain ⟨p, e, s, m, args, below, meth, c, Q, A, ⟨hx, hb, hml, hown, hts⟩, ⟨hK, hA, hZ, hin, hsc⟩, hE, rfl⟩ := X
  intro H locs ls hP hD hS hl
  have hPc := hP.sub isC hC2
  have hDc := hD.sub isC hCn hC
  have hFc := va_free hD hS hA isC hC
  refine va_callG (va_runI (As := As) (rest := st) ⟨hx, hb, hml, hown, hts⟩ (hM H.size) (cwI n hts (TT_G0 hcode) rfl hrc hrs (hts _ hini) (hts _ hlink) (hts _ hinst) hy1 hd hR) ⟨g_blind, fun U hU hW => ⟨rfl, by rw [hU], by rw [hU]; exact hPc, va_K.moved hW.alike hK, hDc.weaken (fun _ _ _ _ => trivial), by rw [hU]; exact hZ.call hS hW hFc⟩⟩ rfl hAs hl.1 hst (lv_room hroom) hdg hf) hS hFc hFc (fun r wo H1 locs1 hp hP1 hD1 hk1 hS1 => ?_)
  obtain ⟨hP2, hD2⟩ := va_join hP hD isC isR hC hRr hn hdis hk1 hFc hP1 hD1
  exact kk r wo hp H1 locs1 ls hP2 hD2 hS1 hl
theorem g_callSN (X : gx g l R cc nL own ini d E sc) (hM : Ct l d y cb nb rt rm As wc mc ms post) (hcode : Cond.code y cb nb rt ∈ TT) (hlink : (own, index, y, host) ∈ nestM) (hstat : Cond.static y ∈ TT) (hini : Cond.initialized y.cls ∈ TT)
    (hd : y.cls ≠ "java/lang/invoke/MethodHandle" ∧ y.cls ≠ "java/lang/invoke/VarHandle" ∧ (parseMethodDescriptor y.desc).map (fun d => d.parameters.length) = some n)
    (hR : rm.frames + 1 ≤ R.frames ∧ 8 + (nb + 11) + rm.locals ≤ R.locals) (hrc : rm.cells = mc) (hrs : rm.slots = ms) (hdg : decode cc pc = .ok (.invokestatic index, 3))
    (hf : ck + mc ≤ R.cells ∧ sk + ms ≤ R.slots) (hAs : As.length = n) (hst : stk = As.reverse ++ st) (hroom : (st.map fun v => v.category).sum ≤ 8)
    (isC isR : List Nat) (hC : isC.map (fun i => ws[i]?) = wc.map some) (hC2 : isC.filterMap (fun i => ws[i]?) = wc) (hCn : va_nd isC = true) (hRr : isR.map (fun i => ws[i]?) = wr.map some) (hn : va_nd isR = true) (hdis : ∀ i ∈ isR, i ∉ isC)
    (kk : ∀ r wo, post r wo → g (ck + mc) (sk + ms) (wr ++ wo) lv (pc + 3) (r.toList ++ st)) : g ck sk ws lv pc stk := by
  obtain ⟨p, e, s, m, args, below, meth, c, Q, A, ⟨hx, hb, hml, hown, hts⟩, ⟨hK, hA, hZ, hin, hsc⟩, hE, rfl⟩ := X
  intro H locs ls hP hD hS hl
  have hPc := hP.sub isC hC2
  have hDc := hD.sub isC hCn hC
  have hFc := va_free hD hS hA isC hC
  refine va_callG (va_runSN (As := As) (rest := st) ⟨hx, hb, hml, hown, hts⟩ (hM H.size) ⟨va_cnB n hts (TT_G0 hcode) rfl hrc hrs (hZ.2.2.2.2.2.2.1 _ hlink) (hts _ hini) hd hR, hts _ hstat, trivial⟩ ⟨g_blind, fun U hU hW => ⟨rfl, by rw [hU], by rw [hU]; exact hPc, va_K.moved hW.alike hK, hDc.weaken (fun _ _ _ _ => trivial), by rw [hU]; exact hZ.call hS hW hFc⟩⟩ rfl hAs hl.1 hst (lv_room hroom) hdg hf) hS hFc hFc (fun r wo H1 locs1 hp hP1 hD1 hk1 hS1 => ?_)
  obtain ⟨hP2, hD2⟩ := va_join hP hD isC isR hC hRr hn hdis hk1 hFc hP1 hD1
  exact kk r wo hp H1 locs1 ls hP2 hD2 hS1 hl
theorem g_callIN (X : gx g l R cc nL own ini d E sc) (hM : Ct l d y cb nb none rm (.ref a :: As) wc mc ms post) (hcode : Cond.code y cb nb none ∈ TT) (hlink : (own, index, y, host) ∈ nestM) (hinst : Cond.instanceMethod y ∈ TT) (hini : Cond.initialized y.cls ∈ TT) (hy1 : y.name = "<init>")
    (hd : y.cls ≠ "java/lang/invoke/MethodHandle" ∧ y.cls ≠ "java/lang/invoke/VarHandle" ∧ (parseMethodDescriptor y.desc).map (fun d => d.parameters.length) = some n)
    (hR : rm.frames + 1 ≤ R.frames ∧ 8 + (nb + 11) + rm.locals ≤ R.locals) (hrc : rm.cells = mc) (hrs : rm.slots = ms) (hdg : decode cc pc = .ok (.invokespecial index, 3))
    (hf : ck + mc ≤ R.cells ∧ sk + ms ≤ R.slots) (hAs : As.length = n) (hst : stk = As.reverse ++ .ref a :: st) (hroom : (st.map fun v => v.category).sum ≤ 8)
    (isC isR : List Nat) (hC : isC.map (fun i => ws[i]?) = wc.map some) (hC2 : isC.filterMap (fun i => ws[i]?) = wc) (hCn : va_nd isC = true) (hRr : isR.map (fun i => ws[i]?) = wr.map some) (hn : va_nd isR = true) (hdis : ∀ i ∈ isR, i ∉ isC)
    (kk : ∀ r wo, post r wo → g (ck + mc) (sk + ms) (wr ++ wo) lv (pc + 3) (r.toList ++ st)) : g ck sk ws lv pc stk := by
  obtain ⟨p, e, s, m, args, below, meth, c, Q, A, ⟨hx, hb, hml, hown, hts⟩, ⟨hK, hA, hZ, hin, hsc⟩, hE, rfl⟩ := X
  intro H locs ls hP hD hS hl
  have hPc := hP.sub isC hC2
  have hDc := hD.sub isC hCn hC
  have hFc := va_free hD hS hA isC hC
  refine va_callG (va_runIN (As := As) (rest := st) ⟨hx, hb, hml, hown, hts⟩ (hM H.size) ⟨va_cnB n hts (TT_G0 hcode) rfl hrc hrs (hZ.2.2.2.2.2.2.1 _ hlink) (hts _ hini) hd hR, hy1, hts _ hinst⟩ ⟨g_blind, fun U hU hW => ⟨rfl, by rw [hU], by rw [hU]; exact hPc, va_K.moved hW.alike hK, hDc.weaken (fun _ _ _ _ => trivial), by rw [hU]; exact hZ.call hS hW hFc⟩⟩ rfl hAs hl.1 hst (lv_room hroom) hdg hf) hS hFc hFc (fun r wo H1 locs1 hp hP1 hD1 hk1 hS1 => ?_)
  obtain ⟨hP2, hD2⟩ := va_join hP hD isC isR hC hRr hn hdis hk1 hFc hP1 hD1
  exact kk r wo hp H1 locs1 ls hP2 hD2 hS1 hl
/-- a method of a String constant -/
theorem g_callVS (X : gx g l R cc nL own ini d E sc) (i : Nat) (hi : i < 9) (hM : Ct l d y cb nb rt rm (.ref (kS d i) :: As) [] mc ms post) (hcode : Cond.code y cb nb rt ∈ TT) (hlink : Cond.methodLink own index y ∈ TT) (hinst : Cond.instanceMethod y ∈ TT) (hsel : Cond.selects "java/lang/String" y y ∈ TT) (hini : Cond.initialized "java/lang/String" ∈ TT)
    (hd : y.cls = "java/lang/String" ∧ y.cls ≠ "java/lang/invoke/MethodHandle" ∧ y.cls ≠ "java/lang/invoke/VarHandle" ∧ (parseMethodDescriptor y.desc).map (fun d => d.parameters.length) = some n)
    (hR : rm.frames + 1 ≤ R.frames ∧ 8 + (nb + 11) + rm.locals ≤ R.locals) (hrc : rm.cells = mc) (hrs : rm.slots = ms) (hdg : decode cc pc = .ok (.invokevirtual index, 3))
    (hf : ck + mc ≤ R.cells ∧ sk + ms ≤ R.slots) (hAs : As.length = n) (hst : stk = As.reverse ++ .ref (kS d i) :: st) (hroom : (st.map fun v => v.category).sum ≤ 8)
    (isR : List Nat) (hRr : isR.map (fun i => ws[i]?) = ws.map some) (hn : va_nd isR = true)
    (kk : ∀ r wo, post r wo → g (ck + mc) (sk + ms) (ws ++ wo) lv (pc + 3) (r.toList ++ st)) : g ck sk ws lv pc stk := by
  obtain ⟨p, e, s, m, args, below, meth, c, Q, A, ⟨hx, hb, hml, hown, hts⟩, ⟨hK, hA, hZ, hin, hsc⟩, hE, rfl⟩ := X
  intro H locs ls hP hD hS hl
  have hPc : va_P d.1 kcl [] H := hP.sub [] rfl
  have hDc : va_D A [] := hD.sub [] rfl rfl
  have hFc := va_free (wc := []) hD hS hA [] rfl
  have hT : ∀ w ∈ wsV own index "java/lang/String" y (.code y cb nb rt :: TT), w ∈ TT := fun w hw => by
    rcases List.mem_append.mp hw with h | h
    · simp only [List.mem_cons, List.not_mem_nil, or_false] at h
      rcases h with rfl | rfl | rfl | rfl <;> assumption
    · rcases List.mem_cons.mp h with h | h
      · subst h; exact hcode
      · exact h
  refine va_callG (va_runV (As := As) (rest := st) ⟨hx, hb, hml, hown, hts⟩ (hM H.size) (cwV n hts (fun w hw => ⟨hT w hw, TT_good _ (hT w hw)⟩) rfl hrc hrs hd hR) ⟨g_blind, vk_recv hZ.2.2.2.2.1 hi hS, fun U hU hW => ⟨rfl, by rw [hU], by rw [hU]; exact hPc, va_K.moved hW.alike hK, hDc.weaken (fun _ _ _ _ => trivial), by rw [hU]; exact hZ.call hS hW hFc⟩⟩ rfl hAs hl.1 hst (lv_room hroom) hdg hf) hS hFc hFc (fun r wo H1 locs1 hp hP1 hD1 hk1 hS1 => ?_)
  obtain ⟨hP2, hD2⟩ := va_join hP hD [] isR rfl hRr hn (fun _ _ h => by cases h) hk1 hFc hP1 hD1
  exact kk r wo hp H1 locs1 ls hP2 hD2 hS1 hl
/-- Object's constructor -/
theorem g_objInit (X : gx g l R cc nL own ini d E sc) (hlink : Cond.methodLink own index Lib.objectInit ∈ TT) (hinst : Cond.instanceMethod Lib.objectInit ∈ TT) (hcode : Cond.code Lib.objectInit ⟨#[0xb1]⟩ 1 none ∈ TT) (hdg : decode cc pc = .ok (.invokespecial index, 3)) (hf : 1 ≤ R.frames) (hlo : (st.map fun v => v.category).sum + 12 ≤ R.locals) (kk : g ck sk ws lv (pc + 3) st) : g ck sk ws lv pc (.ref a :: st) := by
  obtain ⟨p, e, s, m, args, below, meth, c, Q, A, ⟨hx, hb, hml, hown, hts⟩, ⟨hK, hA, hZ, hin, hsc⟩, hE, rfl⟩ := X
  intro H locs ls hP hD hS hl
  exact W.objInit hx hb hown (hts _ hlink) (hts _ hinst) (hts _ hcode) rfl (by rw [hml]; exact hl.1) rfl hdg hf (by simpa [JFrame.monitorRoom] using hlo) (W.eq (g2 := F0 m (pc + 3) ls st) rfl (kk H locs ls hP hD hS hl))
/-- a new int row, a new boolean row: of the array classes that are known -/
theorem g_newa (X : gx g l R cc nL own ini d E sc) {atype : ArrayType} {ty : FieldType} (t0 : Nat) {cA : ClassId} (ht0 : (kty d)[t0]? = some (cA, ty)) (hpr : ∀ C, ty ≠ .object C) (hty : newarray.typeOf atype = ty) (harr : Cond.arrayClass (newarray.typeOf atype) ∈ TT) {n : Int32} {N' : Nat} {a0 : vp_A} (ha : ∀ cA : ClassId, vp_cell cA a0 = arrV cA N' (fun _ => defaultValue ty)) (hn : ¬ n < 0) (hN : n.toNatClampNeg = N') (hbytes : N' * componentBytes ty ≤ 536870912) (hcells : ck + 1 ≤ R.cells) (hslots : sk + N' ≤ R.slots) (hdg : decode cc pc = .ok (.newarray atype, 2))
    (kk : ∀ q : Nat, g (ck + 1) (sk + N') (ws ++ [(q, .inl (cA, a0))]) lv (pc + 2) (.ref q :: st)) : g ck sk ws lv pc (.int n :: st) := by
  obtain ⟨p, e, s, m, args, below, meth, c, Q, A, ⟨hx, hb, hml, hown, hts⟩, ⟨hK, hA, hZ, hin, hsc⟩, hE, rfl⟩ := X
  intro H locs ls hP hD hS hl
  refine va_newa hx hb (hts _ harr) hty hK hP hD hS hA ha hn hN hbytes hcells hslots hdg (fun q cA' H1 hK1 hP1 hD1 hS1 => ?_)
  have h1 := (hK1.2 2 (cA', ty) rfl).2
  have h2 := (hK.2 t0 (cA, ty) ht0).2
  have e1 : cA' = cA := by
    cases ty with
    | object C => exact absurd rfl (hpr C)
    | _ => exact Option.some.inj (h1.symm.trans h2)
  subst e1
  exact kk q H1 locs ls hP1 hD1 hS1 hl
theorem g_new (X : gx g l R cc nL own ini d E sc) {ty0 : Nat → FieldType} (hcl0 : kcl[ci]? = some (C, T, N)) (hin0 : ∀ w ∈ u_ws C T N, w ∈ TT) (hty : ∀ k, k < N → parseFieldDescriptor (T k).2.2.1 = some (ty0 k)) (hcl : Cond.classLink own index C ∈ TT) (hinst : Cond.instantiable C N ∈ TT) (hini : Cond.initialized C ∈ TT) (hfs : ∀ j, j < N → defaultValue (ty0 j) = vp_V fs j) (hcells : ck + 1 ≤ R.cells) (hslots : sk + N ≤ R.slots) (hdg : decode cc pc = .ok (.new index, 3))
    (kk : ∀ q : Nat, g (ck + 1) (sk + N) (ws ++ [(q, cO ci fs)]) lv (pc + 3) (.ref q :: st)) : g ck sk ws lv pc st := by
  obtain ⟨p, e, s, m, args, below, meth, c, Q, A, ⟨hx, hb, hml, hown, hts⟩, ⟨hK, hA, hZ, hin, hsc⟩, hE, rfl⟩ := X
  intro H locs ls hP hD hS hl
  exact va_new (ci := ci) (fs := fs) (C := C) (T := T) (N := N) hx hb hts hin0 ty0 hty hown (hts _ hcl) (hts _ hinst) (hts _ hini) hK hP hD hS hA hcl0 hfs hcells hslots hdg (fun q H1 hP1 hD1 hS1 => kk q H1 locs ls hP1 hD1 hS1 hl)
end GD
