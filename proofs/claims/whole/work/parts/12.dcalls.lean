section GD
variable {g : gT} {l : Launch} {R : Room} {cc : ByteArray} {nL : Nat} {own : String} {ini : Bool} {d : KD} {E : Nat → Nat → va_W → Nat → List Value → Prop} {sc : Option (Nat × Nat × (Nat → Int32))}
variable {ck sk : Nat} {ws : va_W} {lv : List (Nat × Value)} {pc : Nat} {st : List Value}
variable {y : MethodName} {cb : ByteArray} {nb : Nat} {rt : Option FieldType} {rm : Room} {As : List Value} {wc wr : va_W} {mc ms a n index ci q0 : Nat} {post : Option Value → va_W → Prop} {C host : String} {T : u_T} {N : Nat} {fs : List Value} {stk : List Value}

theorem g_dV {r0 : Option Value} {wo0 ws' : va_W} {st' : List Value} (X : gx g l R cc nL own ini d E sc) (hM : Ct l d y cb nb rt rm (.ref a :: As) wc 0 0 (fun r wo => r = r0 ∧ wo = wo0)) (hcode : Cond.code y cb nb rt ∈ TT) (hlink : Cond.methodLink own index y ∈ TT) (hinst : Cond.instanceMethod y ∈ TT) (hsel : Cond.selects C y y ∈ TT) (hini : Cond.initialized C ∈ TT)
    (hd : y.cls = C ∧ y.cls ≠ "java/lang/invoke/MethodHandle" ∧ y.cls ≠ "java/lang/invoke/VarHandle" ∧ (parseMethodDescriptor y.desc).map (fun d => d.parameters.length) = some n) (hcl : kcl[ci]? = some (C, T, N))
    (hR : rm.frames + 1 ≤ R.frames ∧ 8 + (nb + 11) + rm.locals ≤ R.locals) (hrc : rm.cells = 0) (hrs : rm.slots = 0) (hdg : decode cc pc = .ok (.invokevirtual index, 3))
    (hf : ck + 0 ≤ R.cells ∧ sk + 0 ≤ R.slots) (hAs : As.length = n) (hst : stk = As.reverse ++ .ref a :: st) (hroom : (st.map fun v => v.category).sum ≤ 8)
    (isC isR : List Nat) (hC : isC.map (fun i => ws[i]?) = wc.map some) (hC2 : isC.filterMap (fun i => ws[i]?) = wc) (hCn : va_nd isC = true) (hRr : isR.map (fun i => ws[i]?) = wr.map some) (hn : va_nd isR = true) (hdis : ∀ i ∈ isR, i ∉ isC) (hq : wc[q0]? = some (a, cO ci fs))
    (isB : List Nat) (hBn : va_nd isB = true) (hB : isB.map (fun i => (wr ++ wo0)[i]?) = ws'.map some) (hB2 : isB.filterMap (fun i => (wr ++ wo0)[i]?) = ws') (hs' : r0.toList ++ st = st') (kk : g ck sk ws' lv (pc + 3) st') : g ck sk ws lv pc stk :=
  g_callV X hM hcode hlink hinst hsel hini hd hcl hR hrc hrs hdg hf hAs hst hroom isC isR hC hC2 hCn hRr hn hdis hq (fun r wo hp => by
    obtain ⟨rfl, rfl⟩ := hp
    refine g_ws X isB hBn hB hB2 ?_
    rw [hs']
    exact kk)
theorem g_dS {r0 : Option Value} {wo0 ws' : va_W} {st' : List Value} (X : gx g l R cc nL own ini d E sc) (hM : Ct l d y cb nb rt rm As wc 0 0 (fun r wo => r = r0 ∧ wo = wo0)) (hcode : Cond.code y cb nb rt ∈ TT) (hlink : Cond.methodLink own index y ∈ TT) (hstat : Cond.static y ∈ TT) (hini : Cond.initialized y.cls ∈ TT)
    (hd : y.cls ≠ "java/lang/invoke/MethodHandle" ∧ y.cls ≠ "java/lang/invoke/VarHandle" ∧ (parseMethodDescriptor y.desc).map (fun d => d.parameters.length) = some n)
    (hR : rm.frames + 1 ≤ R.frames ∧ 8 + (nb + 11) + rm.locals ≤ R.locals) (hrc : rm.cells = 0) (hrs : rm.slots = 0) (hdg : decode cc pc = .ok (.invokestatic index, 3))
    (hf : ck + 0 ≤ R.cells ∧ sk + 0 ≤ R.slots) (hAs : As.length = n) (hst : stk = As.reverse ++ st) (hroom : (st.map fun v => v.category).sum ≤ 8)
    (isC isR : List Nat) (hC : isC.map (fun i => ws[i]?) = wc.map some) (hC2 : isC.filterMap (fun i => ws[i]?) = wc) (hCn : va_nd isC = true) (hRr : isR.map (fun i => ws[i]?) = wr.map some) (hn : va_nd isR = true) (hdis : ∀ i ∈ isR, i ∉ isC)
    (isB : List Nat) (hBn : va_nd isB = true) (hB : isB.map (fun i => (wr ++ wo0)[i]?) = ws'.map some) (hB2 : isB.filterMap (fun i => (wr ++ wo0)[i]?) = ws') (hs' : r0.toList ++ st = st') (kk : g ck sk ws' lv (pc + 3) st') : g ck sk ws lv pc stk :=
  g_callS X hM hcode hlink hstat hini hd hR hrc hrs hdg hf hAs hst hroom isC isR hC hC2 hCn hRr hn hdis (fun r wo hp => by
    obtain ⟨rfl, rfl⟩ := hp
    refine g_ws X isB hBn hB hB2 ?_
    rw [hs']
    exact kk)
theorem g_dSN {r0 : Option Value} {wo0 ws' : va_W} {st' : List Value} (X : gx g l R cc nL own ini d E sc) (hM : Ct l d y cb nb rt rm As wc 0 0 (fun r wo => r = r0 ∧ wo = wo0)) (hcode : Cond.code y cb nb rt ∈ TT) (hlink : (own, index, y, host) ∈ nestM) (hstat : Cond.static y ∈ TT) (hini : Cond.initialized y.cls ∈ TT)
    (hd : y.cls ≠ "java/lang/invoke/MethodHandle" ∧ y.cls ≠ "java/lang/invoke/VarHandle" ∧ (parseMethodDescriptor y.desc).map (fun d => d.parameters.length) = some n)
    (hR : rm.frames + 1 ≤ R.frames ∧ 8 + (nb + 11) + rm.locals ≤ R.locals) (hrc : rm.cells = 0) (hrs : rm.slots = 0) (hdg : decode cc pc = .ok (.invokestatic index, 3))
    (hf : ck + 0 ≤ R.cells ∧ sk + 0 ≤ R.slots) (hAs : As.length = n) (hst : stk = As.reverse ++ st) (hroom : (st.map fun v => v.category).sum ≤ 8)
    (isC isR : List Nat) (hC : isC.map (fun i => ws[i]?) = wc.map some) (hC2 : isC.filterMap (fun i => ws[i]?) = wc) (hCn : va_nd isC = true) (hRr : isR.map (fun i => ws[i]?) = wr.map some) (hn : va_nd isR = true) (hdis : ∀ i ∈ isR, i ∉ isC)
    (isB : List Nat) (hBn : va_nd isB = true) (hB : isB.map (fun i => (wr ++ wo0)[i]?) = ws'.map some) (hB2 : isB.filterMap (fun i => (wr ++ wo0)[i]?) = ws') (hs' : r0.toList ++ st = st') (kk : g ck sk ws' lv (pc + 3) st') : g ck sk ws lv pc stk :=
  g_callSN X hM hcode hlink hstat hini hd hR hrc hrs hdg hf hAs hst hroom isC isR hC hC2 hCn hRr hn hdis (fun r wo hp => by
    obtain ⟨rfl, rfl⟩ := hp
    refine g_ws X isB hBn hB hB2 ?_
    rw [hs']
    exact kk)
theorem g_dVS {r0 : Option Value} {st' : List Value} (X : gx g l R cc nL own ini d E sc) (i : Nat) (hi : i < 9) (hM : Ct l d y cb nb rt rm (.ref (kS d i) :: As) [] 0 0 (fun r wo => r = r0 ∧ wo = [])) (hcode : Cond.code y cb nb rt ∈ TT) (hlink : Cond.methodLink own index y ∈ TT) (hinst : Cond.instanceMethod y ∈ TT) (hsel : Cond.selects "java/lang/String" y y ∈ TT) (hini : Cond.initialized "java/lang/String" ∈ TT)
    (hd : y.cls = "java/lang/String" ∧ y.cls ≠ "java/lang/invoke/MethodHandle" ∧ y.cls ≠ "java/lang/invoke/VarHandle" ∧ (parseMethodDescriptor y.desc).map (fun d => d.parameters.length) = some n)
    (hR : rm.frames + 1 ≤ R.frames ∧ 8 + (nb + 11) + rm.locals ≤ R.locals) (hrc : rm.cells = 0) (hrs : rm.slots = 0) (hdg : decode cc pc = .ok (.invokevirtual index, 3))
    (hf : ck + 0 ≤ R.cells ∧ sk + 0 ≤ R.slots) (hAs : As.length = n) (hst : stk = As.reverse ++ .ref (kS d i) :: st) (hroom : (st.map fun v => v.category).sum ≤ 8)
    (isR : List Nat) (hRr : isR.map (fun i => ws[i]?) = ws.map some) (hn : va_nd isR = true) (hs' : r0.toList ++ st = st') (kk : g ck sk ws lv (pc + 3) st') : g ck sk ws lv pc stk :=
  g_callVS X i hi hM hcode hlink hinst hsel hini hd hR hrc hrs hdg hf hAs hst hroom isR hRr hn (fun r wo hp => by
    obtain ⟨rfl, rfl⟩ := hp
    rw [List.append_nil, hs']
    exact kk)
end GD
