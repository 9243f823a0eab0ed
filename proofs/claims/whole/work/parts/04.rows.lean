/-! THE G ROWS: one a kind of instruction -/
section GR
variable {g : gT} {l : Launch} {R : Room} {cc : ByteArray} {nL : Nat} {own : String} {ini : Bool} {d : KD} {E : Nat → Nat → va_W → Nat → List Value → Prop} {sc : Option (Nat × Nat × (Nat → Int32))}
variable {ck sk : Nat} {ws : va_W} {lv : List (Nat × Value)} {pc : Nat} {st : List Value}
theorem g_iconst (X : gx g l R cc nL own ini d E sc) {n : Int} {v : Int32} (hdg : decode cc pc = .ok (.iconst n, 1)) (hv : Int32.ofInt n = v) (kk : g ck sk ws lv (pc + 1) (.int v :: st)) : g ck sk ws lv pc st := by
  obtain ⟨p, e, s, m, args, below, meth, c, Q, A, ⟨hx, hb, hml, hown, hts⟩, ⟨hK, hA, hZ, hin, hsc⟩, hE, rfl⟩ := X
  intro H locs ls hP hD hS hl
  exact lv_iconst hx hb hdg hv (kk H locs ls hP hD hS hl)
theorem g_bipush (X : gx g l R cc nL own ini d E sc) {n : Int} {v : Int32} (hdg : decode cc pc = .ok (.bipush n, 2)) (hv : (Int8.ofInt n).toInt32 = v) (kk : g ck sk ws lv (pc + 2) (.int v :: st)) : g ck sk ws lv pc st := by
  obtain ⟨p, e, s, m, args, below, meth, c, Q, A, ⟨hx, hb, hml, hown, hts⟩, ⟨hK, hA, hZ, hin, hsc⟩, hE, rfl⟩ := X
  intro H locs ls hP hD hS hl
  exact lv_bipush hx hb hdg hv (kk H locs ls hP hD hS hl)
theorem g_sipush (X : gx g l R cc nL own ini d E sc) {n : Int} {v : Int32} (hdg : decode cc pc = .ok (.sipush n, 3)) (hv : (Int16.ofInt n).toInt32 = v) (kk : g ck sk ws lv (pc + 3) (.int v :: st)) : g ck sk ws lv pc st := by
  obtain ⟨p, e, s, m, args, below, meth, c, Q, A, ⟨hx, hb, hml, hown, hts⟩, ⟨hK, hA, hZ, hin, hsc⟩, hE, rfl⟩ := X
  intro H locs ls hP hD hS hl
  exact lv_sipush hx hb hdg hv (kk H locs ls hP hD hS hl)
theorem g_lconst (X : gx g l R cc nL own ini d E sc) {n : Fin 2} {v : Int64} (hdg : decode cc pc = .ok (.lconst n, 1)) (hv : Int64.ofNat (n : Nat) = v) (kk : g ck sk ws lv (pc + 1) (.long v :: st)) : g ck sk ws lv pc st := by
  obtain ⟨p, e, s, m, args, below, meth, c, Q, A, ⟨hx, hb, hml, hown, hts⟩, ⟨hK, hA, hZ, hin, hsc⟩, hE, rfl⟩ := X
  intro H locs ls hP hD hS hl
  exact lv_lconst hx hb hdg hv (kk H locs ls hP hD hS hl)
theorem g_ldc (X : gx g l R cc nL own ini d E sc) {index : Nat} {v : Int32} (hw : Cond.constant own index v ∈ TT) (hdg : decode cc pc = .ok (.ldc index, 2)) (kk : g ck sk ws lv (pc + 2) (.int v :: st)) : g ck sk ws lv pc st := by
  obtain ⟨p, e, s, m, args, below, meth, c, Q, A, ⟨hx, hb, hml, hown, hts⟩, ⟨hK, hA, hZ, hin, hsc⟩, hE, rfl⟩ := X
  intro H locs ls hP hD hS hl
  exact lv_ldc hx hb hown (hts _ hw) hdg (kk H locs ls hP hD hS hl)
theorem g_ldc2 (X : gx g l R cc nL own ini d E sc) {index : Nat} {v : Int64} (hw : Cond.constantLong own index v ∈ TT) (hdg : decode cc pc = .ok (.ldc2_w index, 3)) (kk : g ck sk ws lv (pc + 3) (.long v :: st)) : g ck sk ws lv pc st := by
  obtain ⟨p, e, s, m, args, below, meth, c, Q, A, ⟨hx, hb, hml, hown, hts⟩, ⟨hK, hA, hZ, hin, hsc⟩, hE, rfl⟩ := X
  intro H locs ls hP hD hS hl
  exact lv_ldc2 hx hb hown (hts _ hw) hdg (kk H locs ls hP hD hS hl)
theorem g_ldcS (X : gx g l R cc nL own ini d E sc) {index i : Nat} {tx : String} (hq : (own, index, tx, i) ∈ strR) (hdg : decode cc pc = .ok (.ldc index, 2)) (kk : g ck sk ws lv (pc + 2) (.ref (kS d i) :: st)) : g ck sk ws lv pc st := by
  obtain ⟨p, e, s, m, args, below, meth, c, Q, A, ⟨hx, hb, hml, hown, hts⟩, ⟨hK, hA, hZ, hin, hsc⟩, hE, rfl⟩ := X
  intro H locs ls hP hD hS hl
  exact va_ldcS hx hb hown (hZ.2.2.2.2.2.1 _ hq) hdg (kk H locs ls hP hD hS hl)
theorem g_iload_n (X : gx g l R cc nL own ini d E sc) {k : Fin 4} {i : Nat} {x : Int32} (hdg : decode cc pc = .ok (.iload_n k, 1)) (hi : (k : Nat) = i) (j : Nat) (hl0 : lv[j]? = some (i, .int x)) (kk : g ck sk ws lv (pc + 1) (.int x :: st)) : g ck sk ws lv pc st := by
  obtain ⟨p, e, s, m, args, below, meth, c, Q, A, ⟨hx, hb, hml, hown, hts⟩, ⟨hK, hA, hZ, hin, hsc⟩, hE, rfl⟩ := X
  intro H locs ls hP hD hS hl
  exact lv_iload_n hx hb hdg hi (lv_at hl j hl0) (kk H locs ls hP hD hS hl)
theorem g_iload (X : gx g l R cc nL own ini d E sc) {i : Nat} {x : Int32} (hdg : decode cc pc = .ok (.iload i, 2)) (j : Nat) (hl0 : lv[j]? = some (i, .int x)) (kk : g ck sk ws lv (pc + 2) (.int x :: st)) : g ck sk ws lv pc st := by
  obtain ⟨p, e, s, m, args, below, meth, c, Q, A, ⟨hx, hb, hml, hown, hts⟩, ⟨hK, hA, hZ, hin, hsc⟩, hE, rfl⟩ := X
  intro H locs ls hP hD hS hl
  exact lv_iload hx hb hdg (lv_at hl j hl0) (kk H locs ls hP hD hS hl)
-- store i
theorem g_lload_n (X : gx g l R cc nL own ini d E sc) {k : Fin 4} {i : Nat} {x : Int64} (hdg : decode cc pc = .ok (.lload_n k, 1)) (hi : (k : Nat) = i) (j : Nat) (hl0 : lv[j]? = some (i, .long x)) (kk : g ck sk ws lv (pc + 1) (.long x :: st)) : g ck sk ws lv pc st := by
  obtain ⟨p, e, s, m, args, below, meth, c, Q, A, ⟨hx, hb, hml, hown, hts⟩, ⟨hK, hA, hZ, hin, hsc⟩, hE, rfl⟩ := X
  intro H locs ls hP hD hS hl
  exact lv_lload_n hx hb hdg hi (lv_at hl j hl0) (kk H locs ls hP hD hS hl)
theorem g_lload (X : gx g l R cc nL own ini d E sc) {i : Nat} {x : Int64} (hdg : decode cc pc = .ok (.lload i, 2)) (j : Nat) (hl0 : lv[j]? = some (i, .long x)) (kk : g ck sk ws lv (pc + 2) (.long x :: st)) : g ck sk ws lv pc st := by
  obtain ⟨p, e, s, m, args, below, meth, c, Q, A, ⟨hx, hb, hml, hown, hts⟩, ⟨hK, hA, hZ, hin, hsc⟩, hE, rfl⟩ := X
  intro H locs ls hP hD hS hl
  exact lv_lload hx hb hdg (lv_at hl j hl0) (kk H locs ls hP hD hS hl)
-- store l
theorem g_aload_n (X : gx g l R cc nL own ini d E sc) {k : Fin 4} {i : Nat} {x : Nat} (hdg : decode cc pc = .ok (.aload_n k, 1)) (hi : (k : Nat) = i) (j : Nat) (hl0 : lv[j]? = some (i, .ref x)) (kk : g ck sk ws lv (pc + 1) (.ref x :: st)) : g ck sk ws lv pc st := by
  obtain ⟨p, e, s, m, args, below, meth, c, Q, A, ⟨hx, hb, hml, hown, hts⟩, ⟨hK, hA, hZ, hin, hsc⟩, hE, rfl⟩ := X
  intro H locs ls hP hD hS hl
  exact lv_aload_n hx hb hdg hi (lv_at hl j hl0) (kk H locs ls hP hD hS hl)
theorem g_aload (X : gx g l R cc nL own ini d E sc) {i : Nat} {x : Nat} (hdg : decode cc pc = .ok (.aload i, 2)) (j : Nat) (hl0 : lv[j]? = some (i, .ref x)) (kk : g ck sk ws lv (pc + 2) (.ref x :: st)) : g ck sk ws lv pc st := by
  obtain ⟨p, e, s, m, args, below, meth, c, Q, A, ⟨hx, hb, hml, hown, hts⟩, ⟨hK, hA, hZ, hin, hsc⟩, hE, rfl⟩ := X
  intro H locs ls hP hD hS hl
  exact lv_aload hx hb hdg (lv_at hl j hl0) (kk H locs ls hP hD hS hl)
-- store a
theorem g_istore_n (X : gx g l R cc nL own ini d E sc) {k : Fin 4} {i : Nat} {x : Int32} {lv' : List (Nat × Value)} (hdg : decode cc pc = .ok (.istore_n k, 1)) (hi : (k : Nat) = i) (hn : i < nL) (hl' : (i, Value.int x) :: lv.filter (fun q => !(q.1 == i) && !(q.1 + 1 == i && q.2.category == 2)) = lv') (kk : g ck sk ws lv' (pc + 1) st) : g ck sk ws lv pc (.int x :: st) := by
  obtain ⟨p, e, s, m, args, below, meth, c, Q, A, ⟨hx, hb, hml, hown, hts⟩, ⟨hK, hA, hZ, hin, hsc⟩, hE, rfl⟩ := X
  intro H locs ls hP hD hS hl
  exact lv_istore_n hx hb hdg hi hl hn hl' (fun ls' h => kk H locs ls' hP hD hS h)
theorem g_istore (X : gx g l R cc nL own ini d E sc) {i : Nat} {x : Int32} {lv' : List (Nat × Value)} (hdg : decode cc pc = .ok (.istore i, 2)) (hn : i < nL) (hl' : (i, Value.int x) :: lv.filter (fun q => !(q.1 == i) && !(q.1 + 1 == i && q.2.category == 2)) = lv') (kk : g ck sk ws lv' (pc + 2) st) : g ck sk ws lv pc (.int x :: st) := by
  obtain ⟨p, e, s, m, args, below, meth, c, Q, A, ⟨hx, hb, hml, hown, hts⟩, ⟨hK, hA, hZ, hin, hsc⟩, hE, rfl⟩ := X
  intro H locs ls hP hD hS hl
  exact lv_istore hx hb hdg hl hn hl' (fun ls' h => kk H locs ls' hP hD hS h)
theorem g_astore_n (X : gx g l R cc nL own ini d E sc) {k : Fin 4} {i : Nat} {x : Nat} {lv' : List (Nat × Value)} (hdg : decode cc pc = .ok (.astore_n k, 1)) (hi : (k : Nat) = i) (hn : i < nL) (hl' : (i, Value.ref x) :: lv.filter (fun q => !(q.1 == i) && !(q.1 + 1 == i && q.2.category == 2)) = lv') (kk : g ck sk ws lv' (pc + 1) st) : g ck sk ws lv pc (.ref x :: st) := by
  obtain ⟨p, e, s, m, args, below, meth, c, Q, A, ⟨hx, hb, hml, hown, hts⟩, ⟨hK, hA, hZ, hin, hsc⟩, hE, rfl⟩ := X
  intro H locs ls hP hD hS hl
  exact lv_astore_n hx hb hdg hi hl hn hl' (fun ls' h => kk H locs ls' hP hD hS h)
theorem g_astore (X : gx g l R cc nL own ini d E sc) {i : Nat} {x : Nat} {lv' : List (Nat × Value)} (hdg : decode cc pc = .ok (.astore i, 2)) (hn : i < nL) (hl' : (i, Value.ref x) :: lv.filter (fun q => !(q.1 == i) && !(q.1 + 1 == i && q.2.category == 2)) = lv') (kk : g ck sk ws lv' (pc + 2) st) : g ck sk ws lv pc (.ref x :: st) := by
  obtain ⟨p, e, s, m, args, below, meth, c, Q, A, ⟨hx, hb, hml, hown, hts⟩, ⟨hK, hA, hZ, hin, hsc⟩, hE, rfl⟩ := X
  intro H locs ls hP hD hS hl
  exact lv_astore hx hb hdg hl hn hl' (fun ls' h => kk H locs ls' hP hD hS h)
theorem g_iinc (X : gx g l R cc nL own ini d E sc) {i : Nat} {n : Int} {x v : Int32} {lv' : List (Nat × Value)} (hdg : decode cc pc = .ok (.iinc i n, 3)) (j : Nat) (hk : lv[j]? = some (i, .int x)) (hv : x + Int32.ofInt n = v) (hn : i < nL) (hl' : (i, Value.int v) :: lv.filter (fun q => !(q.1 == i) && !(q.1 + 1 == i && q.2.category == 2)) = lv') (kk : g ck sk ws lv' (pc + 3) st) : g ck sk ws lv pc st := by
  obtain ⟨p, e, s, m, args, below, meth, c, Q, A, ⟨hx, hb, hml, hown, hts⟩, ⟨hK, hA, hZ, hin, hsc⟩, hE, rfl⟩ := X
  intro H locs ls hP hD hS hl
  exact lv_iinc hx hb hdg hl hk hv hn hl' (fun ls' h => kk H locs ls' hP hD hS h)
theorem g_iadd (X : gx g l R cc nL own ini d E sc) {x y : Int32} (hdg : decode cc pc = .ok (.iadd, 1)) (kk : g ck sk ws lv (pc + 1) (.int (x + y) :: st)) : g ck sk ws lv pc (.int y :: .int x :: st) := by
  obtain ⟨p, e, s, m, args, below, meth, c, Q, A, ⟨hx, hb, hml, hown, hts⟩, ⟨hK, hA, hZ, hin, hsc⟩, hE, rfl⟩ := X
  intro H locs ls hP hD hS hl
  exact lv_iadd hx hb hdg (kk H locs ls hP hD hS hl)
theorem g_isub (X : gx g l R cc nL own ini d E sc) {x y : Int32} (hdg : decode cc pc = .ok (.isub, 1)) (kk : g ck sk ws lv (pc + 1) (.int (x - y) :: st)) : g ck sk ws lv pc (.int y :: .int x :: st) := by
  obtain ⟨p, e, s, m, args, below, meth, c, Q, A, ⟨hx, hb, hml, hown, hts⟩, ⟨hK, hA, hZ, hin, hsc⟩, hE, rfl⟩ := X
  intro H locs ls hP hD hS hl
  exact lv_isub hx hb hdg (kk H locs ls hP hD hS hl)
theorem g_imul (X : gx g l R cc nL own ini d E sc) {x y : Int32} (hdg : decode cc pc = .ok (.imul, 1)) (kk : g ck sk ws lv (pc + 1) (.int (x * y) :: st)) : g ck sk ws lv pc (.int y :: .int x :: st) := by
  obtain ⟨p, e, s, m, args, below, meth, c, Q, A, ⟨hx, hb, hml, hown, hts⟩, ⟨hK, hA, hZ, hin, hsc⟩, hE, rfl⟩ := X
  intro H locs ls hP hD hS hl
  exact lv_imul hx hb hdg (kk H locs ls hP hD hS hl)
theorem g_iand (X : gx g l R cc nL own ini d E sc) {x y : Int32} (hdg : decode cc pc = .ok (.iand, 1)) (kk : g ck sk ws lv (pc + 1) (.int (x &&& y) :: st)) : g ck sk ws lv pc (.int y :: .int x :: st) := by
  obtain ⟨p, e, s, m, args, below, meth, c, Q, A, ⟨hx, hb, hml, hown, hts⟩, ⟨hK, hA, hZ, hin, hsc⟩, hE, rfl⟩ := X
  intro H locs ls hP hD hS hl
  exact lv_iand hx hb hdg (kk H locs ls hP hD hS hl)
theorem g_ior (X : gx g l R cc nL own ini d E sc) {x y : Int32} (hdg : decode cc pc = .ok (.ior, 1)) (kk : g ck sk ws lv (pc + 1) (.int (x ||| y) :: st)) : g ck sk ws lv pc (.int y :: .int x :: st) := by
  obtain ⟨p, e, s, m, args, below, meth, c, Q, A, ⟨hx, hb, hml, hown, hts⟩, ⟨hK, hA, hZ, hin, hsc⟩, hE, rfl⟩ := X
  intro H locs ls hP hD hS hl
  exact lv_ior hx hb hdg (kk H locs ls hP hD hS hl)
theorem g_ixor (X : gx g l R cc nL own ini d E sc) {x y : Int32} (hdg : decode cc pc = .ok (.ixor, 1)) (kk : g ck sk ws lv (pc + 1) (.int (x ^^^ y) :: st)) : g ck sk ws lv pc (.int y :: .int x :: st) := by
  obtain ⟨p, e, s, m, args, below, meth, c, Q, A, ⟨hx, hb, hml, hown, hts⟩, ⟨hK, hA, hZ, hin, hsc⟩, hE, rfl⟩ := X
  intro H locs ls hP hD hS hl
  exact lv_ixor hx hb hdg (kk H locs ls hP hD hS hl)
theorem g_ladd (X : gx g l R cc nL own ini d E sc) {x y : Int64} (hdg : decode cc pc = .ok (.ladd, 1)) (kk : g ck sk ws lv (pc + 1) (.long (x + y) :: st)) : g ck sk ws lv pc (.long y :: .long x :: st) := by
  obtain ⟨p, e, s, m, args, below, meth, c, Q, A, ⟨hx, hb, hml, hown, hts⟩, ⟨hK, hA, hZ, hin, hsc⟩, hE, rfl⟩ := X
  intro H locs ls hP hD hS hl
  exact lv_ladd hx hb hdg (kk H locs ls hP hD hS hl)
theorem g_lsub (X : gx g l R cc nL own ini d E sc) {x y : Int64} (hdg : decode cc pc = .ok (.lsub, 1)) (kk : g ck sk ws lv (pc + 1) (.long (x - y) :: st)) : g ck sk ws lv pc (.long y :: .long x :: st) := by
  obtain ⟨p, e, s, m, args, below, meth, c, Q, A, ⟨hx, hb, hml, hown, hts⟩, ⟨hK, hA, hZ, hin, hsc⟩, hE, rfl⟩ := X
  intro H locs ls hP hD hS hl
  exact lv_lsub hx hb hdg (kk H locs ls hP hD hS hl)
theorem g_lmul (X : gx g l R cc nL own ini d E sc) {x y : Int64} (hdg : decode cc pc = .ok (.lmul, 1)) (kk : g ck sk ws lv (pc + 1) (.long (x * y) :: st)) : g ck sk ws lv pc (.long y :: .long x :: st) := by
  obtain ⟨p, e, s, m, args, below, meth, c, Q, A, ⟨hx, hb, hml, hown, hts⟩, ⟨hK, hA, hZ, hin, hsc⟩, hE, rfl⟩ := X
  intro H locs ls hP hD hS hl
  exact lv_lmul hx hb hdg (kk H locs ls hP hD hS hl)
theorem g_idiv (X : gx g l R cc nL own ini d E sc) {x y : Int32} (hdg : decode cc pc = .ok (.idiv, 1)) (hne : ¬ y = 0) (kk : g ck sk ws lv (pc + 1) (.int (x / y) :: st)) : g ck sk ws lv pc (.int y :: .int x :: st) := by
  obtain ⟨p, e, s, m, args, below, meth, c, Q, A, ⟨hx, hb, hml, hown, hts⟩, ⟨hK, hA, hZ, hin, hsc⟩, hE, rfl⟩ := X
  intro H locs ls hP hD hS hl
  exact lv_idiv hx hb hdg hne (kk H locs ls hP hD hS hl)
theorem g_irem (X : gx g l R cc nL own ini d E sc) {x y : Int32} (hdg : decode cc pc = .ok (.irem, 1)) (hne : ¬ y = 0) (kk : g ck sk ws lv (pc + 1) (.int (x - x / y * y) :: st)) : g ck sk ws lv pc (.int y :: .int x :: st) := by
  obtain ⟨p, e, s, m, args, below, meth, c, Q, A, ⟨hx, hb, hml, hown, hts⟩, ⟨hK, hA, hZ, hin, hsc⟩, hE, rfl⟩ := X
  intro H locs ls hP hD hS hl
  exact lv_irem hx hb hdg hne (kk H locs ls hP hD hS hl)
theorem g_ldiv (X : gx g l R cc nL own ini d E sc) {x y : Int64} (hdg : decode cc pc = .ok (.ldiv, 1)) (hne : ¬ y = 0) (kk : g ck sk ws lv (pc + 1) (.long (x / y) :: st)) : g ck sk ws lv pc (.long y :: .long x :: st) := by
  obtain ⟨p, e, s, m, args, below, meth, c, Q, A, ⟨hx, hb, hml, hown, hts⟩, ⟨hK, hA, hZ, hin, hsc⟩, hE, rfl⟩ := X
  intro H locs ls hP hD hS hl
  exact lv_ldiv hx hb hdg hne (kk H locs ls hP hD hS hl)
theorem g_lrem (X : gx g l R cc nL own ini d E sc) {x y : Int64} (hdg : decode cc pc = .ok (.lrem, 1)) (hne : ¬ y = 0) (kk : g ck sk ws lv (pc + 1) (.long (x - x / y * y) :: st)) : g ck sk ws lv pc (.long y :: .long x :: st) := by
  obtain ⟨p, e, s, m, args, below, meth, c, Q, A, ⟨hx, hb, hml, hown, hts⟩, ⟨hK, hA, hZ, hin, hsc⟩, hE, rfl⟩ := X
  intro H locs ls hP hD hS hl
  exact lv_lrem hx hb hdg hne (kk H locs ls hP hD hS hl)
theorem g_lcmp (X : gx g l R cc nL own ini d E sc) {x y : Int64} (hdg : decode cc pc = .ok (.lcmp, 1)) (kk : g ck sk ws lv (pc + 1) (.int (lg_cmp x y) :: st)) : g ck sk ws lv pc (.long y :: .long x :: st) := by
  obtain ⟨p, e, s, m, args, below, meth, c, Q, A, ⟨hx, hb, hml, hown, hts⟩, ⟨hK, hA, hZ, hin, hsc⟩, hE, rfl⟩ := X
  intro H locs ls hP hD hS hl
  exact W.lcmp hx hb hdg (kk H locs ls hP hD hS hl)
theorem g_ineg (X : gx g l R cc nL own ini d E sc) {x : Int32} (hdg : decode cc pc = .ok (.ineg, 1)) (kk : g ck sk ws lv (pc + 1) (.int (-x) :: st)) : g ck sk ws lv pc (.int x :: st) := by
  obtain ⟨p, e, s, m, args, below, meth, c, Q, A, ⟨hx, hb, hml, hown, hts⟩, ⟨hK, hA, hZ, hin, hsc⟩, hE, rfl⟩ := X
  intro H locs ls hP hD hS hl
  exact lv_ineg hx hb hdg (kk H locs ls hP hD hS hl)
theorem g_ishr (X : gx g l R cc nL own ini d E sc) {x y : Int32} (hdg : decode cc pc = .ok (.ishr, 1)) (kk : g ck sk ws lv (pc + 1) (.int (x >>> (y &&& 31)) :: st)) : g ck sk ws lv pc (.int y :: .int x :: st) := by
  obtain ⟨p, e, s, m, args, below, meth, c, Q, A, ⟨hx, hb, hml, hown, hts⟩, ⟨hK, hA, hZ, hin, hsc⟩, hE, rfl⟩ := X
  intro H locs ls hP hD hS hl
  exact lv_ishr hx hb hdg (kk H locs ls hP hD hS hl)
theorem g_i2l (X : gx g l R cc nL own ini d E sc) {x : Int32} (hdg : decode cc pc = .ok (.i2l, 1)) (kk : g ck sk ws lv (pc + 1) (.long x.toInt64 :: st)) : g ck sk ws lv pc (.int x :: st) := by
  obtain ⟨p, e, s, m, args, below, meth, c, Q, A, ⟨hx, hb, hml, hown, hts⟩, ⟨hK, hA, hZ, hin, hsc⟩, hE, rfl⟩ := X
  intro H locs ls hP hD hS hl
  exact lv_i2l hx hb hdg rfl (kk H locs ls hP hD hS hl)
theorem g_l2i (X : gx g l R cc nL own ini d E sc) {x : Int64} (hdg : decode cc pc = .ok (.l2i, 1)) (kk : g ck sk ws lv (pc + 1) (.int x.toInt32 :: st)) : g ck sk ws lv pc (.long x :: st) := by
  obtain ⟨p, e, s, m, args, below, meth, c, Q, A, ⟨hx, hb, hml, hown, hts⟩, ⟨hK, hA, hZ, hin, hsc⟩, hE, rfl⟩ := X
  intro H locs ls hP hD hS hl
  exact lv_l2i hx hb hdg rfl (kk H locs ls hP hD hS hl)
theorem g_i2b (X : gx g l R cc nL own ini d E sc) {x : Int32} (hdg : decode cc pc = .ok (.i2b, 1)) (kk : g ck sk ws lv (pc + 1) (.int x.toInt8.toInt32 :: st)) : g ck sk ws lv pc (.int x :: st) := by
  obtain ⟨p, e, s, m, args, below, meth, c, Q, A, ⟨hx, hb, hml, hown, hts⟩, ⟨hK, hA, hZ, hin, hsc⟩, hE, rfl⟩ := X
  intro H locs ls hP hD hS hl
  exact lv_i2b hx hb hdg rfl (kk H locs ls hP hD hS hl)
theorem g_i2c (X : gx g l R cc nL own ini d E sc) {x : Int32} (hdg : decode cc pc = .ok (.i2c, 1)) (kk : g ck sk ws lv (pc + 1) (.int (x.toUInt32 % 65536).toInt32 :: st)) : g ck sk ws lv pc (.int x :: st) := by
  obtain ⟨p, e, s, m, args, below, meth, c, Q, A, ⟨hx, hb, hml, hown, hts⟩, ⟨hK, hA, hZ, hin, hsc⟩, hE, rfl⟩ := X
  intro H locs ls hP hD hS hl
  exact lv_i2c hx hb hdg rfl (kk H locs ls hP hD hS hl)
theorem g_dup (X : gx g l R cc nL own ini d E sc) {v : Value} (hdg : decode cc pc = .ok (.dup, 1)) (hv : v.category = 1) (kk : g ck sk ws lv (pc + 1) (v :: v :: st)) : g ck sk ws lv pc (v :: st) := by
  obtain ⟨p, e, s, m, args, below, meth, c, Q, A, ⟨hx, hb, hml, hown, hts⟩, ⟨hK, hA, hZ, hin, hsc⟩, hE, rfl⟩ := X
  intro H locs ls hP hD hS hl
  exact lv_dup hx hb hdg hv (kk H locs ls hP hD hS hl)
theorem g_pop (X : gx g l R cc nL own ini d E sc) {v : Value} (hdg : decode cc pc = .ok (.pop, 1)) (hv : v.category = 1) (kk : g ck sk ws lv (pc + 1) st) : g ck sk ws lv pc (v :: st) := by
  obtain ⟨p, e, s, m, args, below, meth, c, Q, A, ⟨hx, hb, hml, hown, hts⟩, ⟨hK, hA, hZ, hin, hsc⟩, hE, rfl⟩ := X
  intro H locs ls hP hD hS hl
  exact lv_pop hx hb hdg hv (kk H locs ls hP hD hS hl)
theorem g_dup_x1 (X : gx g l R cc nL own ini d E sc) {v w : Value} (hdg : decode cc pc = .ok (.dup_x1, 1)) (hv : v.category = 1) (hw : w.category = 1) (kk : g ck sk ws lv (pc + 1) (v :: w :: v :: st)) : g ck sk ws lv pc (v :: w :: st) := by
  obtain ⟨p, e, s, m, args, below, meth, c, Q, A, ⟨hx, hb, hml, hown, hts⟩, ⟨hK, hA, hZ, hin, hsc⟩, hE, rfl⟩ := X
  intro H locs ls hP hD hS hl
  exact lv_dup_x1 hx hb hdg hv hw (kk H locs ls hP hD hS hl)
theorem g_dup2 (X : gx g l R cc nL own ini d E sc) {v w : Value} (hdg : decode cc pc = .ok (.dup2, 1)) (hv : v.category = 1) (hw : w.category = 1) (kk : g ck sk ws lv (pc + 1) (v :: w :: v :: w :: st)) : g ck sk ws lv pc (v :: w :: st) := by
  obtain ⟨p, e, s, m, args, below, meth, c, Q, A, ⟨hx, hb, hml, hown, hts⟩, ⟨hK, hA, hZ, hin, hsc⟩, hE, rfl⟩ := X
  intro H locs ls hP hD hS hl
  exact lv_dup2_11 hx hb hdg hv hw (kk H locs ls hP hD hS hl)
theorem g_lstore_n (X : gx g l R cc nL own ini d E sc) {k : Fin 4} {i : Nat} {x : Int64} {lv' : List (Nat × Value)} (hdg : decode cc pc = .ok (.lstore_n k, 1)) (hi : (k : Nat) = i) (hn : i + 1 < nL) (hl' : (i, Value.long x) :: lv.filter (fun q => !(q.1 == i) && (!(q.1 == i + 1) && !(q.1 + 1 == i && q.2.category == 2))) = lv') (kk : g ck sk ws lv' (pc + 1) st) : g ck sk ws lv pc (.long x :: st) := by
  obtain ⟨p, e, s, m, args, below, meth, c, Q, A, ⟨hx, hb, hml, hown, hts⟩, ⟨hK, hA, hZ, hin, hsc⟩, hE, rfl⟩ := X
  intro H locs ls hP hD hS hl
  exact lv_lstore_n hx hb hdg hi hl hn hl' (fun ls' h => kk H locs ls' hP hD hS h)
theorem g_lstore (X : gx g l R cc nL own ini d E sc) {i : Nat} {x : Int64} {lv' : List (Nat × Value)} (hdg : decode cc pc = .ok (.lstore i, 2)) (hn : i + 1 < nL) (hl' : (i, Value.long x) :: lv.filter (fun q => !(q.1 == i) && (!(q.1 == i + 1) && !(q.1 + 1 == i && q.2.category == 2))) = lv') (kk : g ck sk ws lv' (pc + 2) st) : g ck sk ws lv pc (.long x :: st) := by
  obtain ⟨p, e, s, m, args, below, meth, c, Q, A, ⟨hx, hb, hml, hown, hts⟩, ⟨hK, hA, hZ, hin, hsc⟩, hE, rfl⟩ := X
  intro H locs ls hP hD hS hl
  exact lv_lstore hx hb hdg hl hn hl' (fun ls' h => kk H locs ls' hP hD hS h)
theorem g_if_eq (X : gx g l R cc nL own ini d E sc) {x : Int32} {off : Int} (tgt : Nat) (hdg : decode cc pc = .ok (.ifCond .eq off, 3)) (ht : (pc : Int) + off = (tgt : Int)) (kt : x = 0 → g ck sk ws lv tgt st) (kf : ¬ x = 0 → g ck sk ws lv (pc + 3) st) : g ck sk ws lv pc (.int x :: st) := by
  obtain ⟨p, e, s, m, args, below, meth, c, Q, A, ⟨hx, hb, hml, hown, hts⟩, ⟨hK, hA, hZ, hin, hsc⟩, hE, rfl⟩ := X
  intro H locs ls hP hD hS hl
  exact lv_if_eq hx hb hdg ht (fun h => kt h H locs ls hP hD hS hl) (fun h => kf h H locs ls hP hD hS hl)
theorem g_icmp_eq (X : gx g l R cc nL own ini d E sc) {x y : Int32} {off : Int} (tgt : Nat) (hdg : decode cc pc = .ok (.if_icmp .eq off, 3)) (ht : (pc : Int) + off = (tgt : Int)) (kt : x = y → g ck sk ws lv tgt st) (kf : ¬ x = y → g ck sk ws lv (pc + 3) st) : g ck sk ws lv pc (.int y :: .int x :: st) := by
  obtain ⟨p, e, s, m, args, below, meth, c, Q, A, ⟨hx, hb, hml, hown, hts⟩, ⟨hK, hA, hZ, hin, hsc⟩, hE, rfl⟩ := X
  intro H locs ls hP hD hS hl
  exact lv_icmp_eq hx hb hdg ht (fun h => kt h H locs ls hP hD hS hl) (fun h => kf h H locs ls hP hD hS hl)
theorem g_if_ne (X : gx g l R cc nL own ini d E sc) {x : Int32} {off : Int} (tgt : Nat) (hdg : decode cc pc = .ok (.ifCond .ne off, 3)) (ht : (pc : Int) + off = (tgt : Int)) (kt : ¬ x = 0 → g ck sk ws lv tgt st) (kf : x = 0 → g ck sk ws lv (pc + 3) st) : g ck sk ws lv pc (.int x :: st) := by
  obtain ⟨p, e, s, m, args, below, meth, c, Q, A, ⟨hx, hb, hml, hown, hts⟩, ⟨hK, hA, hZ, hin, hsc⟩, hE, rfl⟩ := X
  intro H locs ls hP hD hS hl
  exact lv_if_ne hx hb hdg ht (fun h => kt h H locs ls hP hD hS hl) (fun h => kf h H locs ls hP hD hS hl)
theorem g_icmp_ne (X : gx g l R cc nL own ini d E sc) {x y : Int32} {off : Int} (tgt : Nat) (hdg : decode cc pc = .ok (.if_icmp .ne off, 3)) (ht : (pc : Int) + off = (tgt : Int)) (kt : ¬ x = y → g ck sk ws lv tgt st) (kf : x = y → g ck sk ws lv (pc + 3) st) : g ck sk ws lv pc (.int y :: .int x :: st) := by
  obtain ⟨p, e, s, m, args, below, meth, c, Q, A, ⟨hx, hb, hml, hown, hts⟩, ⟨hK, hA, hZ, hin, hsc⟩, hE, rfl⟩ := X
  intro H locs ls hP hD hS hl
  exact lv_icmp_ne hx hb hdg ht (fun h => kt h H locs ls hP hD hS hl) (fun h => kf h H locs ls hP hD hS hl)
theorem g_if_lt (X : gx g l R cc nL own ini d E sc) {x : Int32} {off : Int} (tgt : Nat) (hdg : decode cc pc = .ok (.ifCond .lt off, 3)) (ht : (pc : Int) + off = (tgt : Int)) (kt : x < 0 → g ck sk ws lv tgt st) (kf : ¬ x < 0 → g ck sk ws lv (pc + 3) st) : g ck sk ws lv pc (.int x :: st) := by
  obtain ⟨p, e, s, m, args, below, meth, c, Q, A, ⟨hx, hb, hml, hown, hts⟩, ⟨hK, hA, hZ, hin, hsc⟩, hE, rfl⟩ := X
  intro H locs ls hP hD hS hl
  exact lv_if_lt hx hb hdg ht (fun h => kt h H locs ls hP hD hS hl) (fun h => kf h H locs ls hP hD hS hl)
theorem g_icmp_lt (X : gx g l R cc nL own ini d E sc) {x y : Int32} {off : Int} (tgt : Nat) (hdg : decode cc pc = .ok (.if_icmp .lt off, 3)) (ht : (pc : Int) + off = (tgt : Int)) (kt : x < y → g ck sk ws lv tgt st) (kf : ¬ x < y → g ck sk ws lv (pc + 3) st) : g ck sk ws lv pc (.int y :: .int x :: st) := by
  obtain ⟨p, e, s, m, args, below, meth, c, Q, A, ⟨hx, hb, hml, hown, hts⟩, ⟨hK, hA, hZ, hin, hsc⟩, hE, rfl⟩ := X
  intro H locs ls hP hD hS hl
  exact lv_icmp_lt hx hb hdg ht (fun h => kt h H locs ls hP hD hS hl) (fun h => kf h H locs ls hP hD hS hl)
theorem g_if_ge (X : gx g l R cc nL own ini d E sc) {x : Int32} {off : Int} (tgt : Nat) (hdg : decode cc pc = .ok (.ifCond .ge off, 3)) (ht : (pc : Int) + off = (tgt : Int)) (kt : 0 ≤ x → g ck sk ws lv tgt st) (kf : ¬ 0 ≤ x → g ck sk ws lv (pc + 3) st) : g ck sk ws lv pc (.int x :: st) := by
  obtain ⟨p, e, s, m, args, below, meth, c, Q, A, ⟨hx, hb, hml, hown, hts⟩, ⟨hK, hA, hZ, hin, hsc⟩, hE, rfl⟩ := X
  intro H locs ls hP hD hS hl
  exact lv_if_ge hx hb hdg ht (fun h => kt h H locs ls hP hD hS hl) (fun h => kf h H locs ls hP hD hS hl)
theorem g_icmp_ge (X : gx g l R cc nL own ini d E sc) {x y : Int32} {off : Int} (tgt : Nat) (hdg : decode cc pc = .ok (.if_icmp .ge off, 3)) (ht : (pc : Int) + off = (tgt : Int)) (kt : y ≤ x → g ck sk ws lv tgt st) (kf : ¬ y ≤ x → g ck sk ws lv (pc + 3) st) : g ck sk ws lv pc (.int y :: .int x :: st) := by
  obtain ⟨p, e, s, m, args, below, meth, c, Q, A, ⟨hx, hb, hml, hown, hts⟩, ⟨hK, hA, hZ, hin, hsc⟩, hE, rfl⟩ := X
  intro H locs ls hP hD hS hl
  exact lv_icmp_ge hx hb hdg ht (fun h => kt h H locs ls hP hD hS hl) (fun h => kf h H locs ls hP hD hS hl)
theorem g_if_gt (X : gx g l R cc nL own ini d E sc) {x : Int32} {off : Int} (tgt : Nat) (hdg : decode cc pc = .ok (.ifCond .gt off, 3)) (ht : (pc : Int) + off = (tgt : Int)) (kt : 0 < x → g ck sk ws lv tgt st) (kf : ¬ 0 < x → g ck sk ws lv (pc + 3) st) : g ck sk ws lv pc (.int x :: st) := by
  obtain ⟨p, e, s, m, args, below, meth, c, Q, A, ⟨hx, hb, hml, hown, hts⟩, ⟨hK, hA, hZ, hin, hsc⟩, hE, rfl⟩ := X
  intro H locs ls hP hD hS hl
  exact lv_if_gt hx hb hdg ht (fun h => kt h H locs ls hP hD hS hl) (fun h => kf h H locs ls hP hD hS hl)
theorem g_icmp_gt (X : gx g l R cc nL own ini d E sc) {x y : Int32} {off : Int} (tgt : Nat) (hdg : decode cc pc = .ok (.if_icmp .gt off, 3)) (ht : (pc : Int) + off = (tgt : Int)) (kt : y < x → g ck sk ws lv tgt st) (kf : ¬ y < x → g ck sk ws lv (pc + 3) st) : g ck sk ws lv pc (.int y :: .int x :: st) := by
  obtain ⟨p, e, s, m, args, below, meth, c, Q, A, ⟨hx, hb, hml, hown, hts⟩, ⟨hK, hA, hZ, hin, hsc⟩, hE, rfl⟩ := X
  intro H locs ls hP hD hS hl
  exact lv_icmp_gt hx hb hdg ht (fun h => kt h H locs ls hP hD hS hl) (fun h => kf h H locs ls hP hD hS hl)
theorem g_if_le (X : gx g l R cc nL own ini d E sc) {x : Int32} {off : Int} (tgt : Nat) (hdg : decode cc pc = .ok (.ifCond .le off, 3)) (ht : (pc : Int) + off = (tgt : Int)) (kt : x ≤ 0 → g ck sk ws lv tgt st) (kf : ¬ x ≤ 0 → g ck sk ws lv (pc + 3) st) : g ck sk ws lv pc (.int x :: st) := by
  obtain ⟨p, e, s, m, args, below, meth, c, Q, A, ⟨hx, hb, hml, hown, hts⟩, ⟨hK, hA, hZ, hin, hsc⟩, hE, rfl⟩ := X
  intro H locs ls hP hD hS hl
  exact lv_if_le hx hb hdg ht (fun h => kt h H locs ls hP hD hS hl) (fun h => kf h H locs ls hP hD hS hl)
theorem g_icmp_le (X : gx g l R cc nL own ini d E sc) {x y : Int32} {off : Int} (tgt : Nat) (hdg : decode cc pc = .ok (.if_icmp .le off, 3)) (ht : (pc : Int) + off = (tgt : Int)) (kt : x ≤ y → g ck sk ws lv tgt st) (kf : ¬ x ≤ y → g ck sk ws lv (pc + 3) st) : g ck sk ws lv pc (.int y :: .int x :: st) := by
  obtain ⟨p, e, s, m, args, below, meth, c, Q, A, ⟨hx, hb, hml, hown, hts⟩, ⟨hK, hA, hZ, hin, hsc⟩, hE, rfl⟩ := X
  intro H locs ls hP hD hS hl
  exact lv_icmp_le hx hb hdg ht (fun h => kt h H locs ls hP hD hS hl) (fun h => kf h H locs ls hP hD hS hl)
theorem g_goto (X : gx g l R cc nL own ini d E sc) {off : Int} (tgt : Nat) (hdg : decode cc pc = .ok (.goto off, 3)) (ht : (pc : Int) + off = (tgt : Int)) (kk : g ck sk ws lv tgt st) : g ck sk ws lv pc st := by
  obtain ⟨p, e, s, m, args, below, meth, c, Q, A, ⟨hx, hb, hml, hown, hts⟩, ⟨hK, hA, hZ, hin, hsc⟩, hE, rfl⟩ := X
  intro H locs ls hP hD hS hl
  exact lv_goto hx hb hdg ht (kk H locs ls hP hD hS hl)
theorem g_lookup (X : gx g l R cc nL own ini d E sc) {dflt : Int} {ps : Array (Int × Int)} {len : Nat} {x : Int32} {off : Int} (tgt : Nat) (hdg : decode cc pc = .ok (.lookupswitch dflt ps, len)) (hp : (ps.toList.zip (ps.toList.drop 1)).all (fun (a, next) => a.1 < next.1) = true) (ho : Op.lookupswitch.offset ps.toList dflt x.toInt = off) (ht : (pc : Int) + off = (tgt : Int)) (kk : g ck sk ws lv tgt st) : g ck sk ws lv pc (.int x :: st) := by
  obtain ⟨p, e, s, m, args, below, meth, c, Q, A, ⟨hx, hb, hml, hown, hts⟩, ⟨hK, hA, hZ, hin, hsc⟩, hE, rfl⟩ := X
  intro H locs ls hP hD hS hl
  exact lv_lookup hx hb hdg hp ho ht (kk H locs ls hP hD hS hl)
theorem g_tableOut (X : gx g l R cc nL own ini d E sc) {dflt lo hi : Int} {offs : Array Int} {len : Nat} {x : Int32} (tgt : Nat) (hdg : decode cc pc = .ok (.tableswitch dflt lo hi offs, len)) (h : x.toInt < lo ∨ hi < x.toInt) (ht : (pc : Int) + dflt = (tgt : Int)) (kk : g ck sk ws lv tgt st) : g ck sk ws lv pc (.int x :: st) := by
  obtain ⟨p, e, s, m, args, below, meth, c, Q, A, ⟨hx, hb, hml, hown, hts⟩, ⟨hK, hA, hZ, hin, hsc⟩, hE, rfl⟩ := X
  intro H locs ls hP hD hS hl
  exact lv_tableOut hx hb hdg h ht (kk H locs ls hP hD hS hl)
theorem g_tableIn (X : gx g l R cc nL own ini d E sc) {dflt lo hi : Int} {offs : Array Int} {len : Nat} {x : Int32} {off : Int} (tgt : Nat) (hdg : decode cc pc = .ok (.tableswitch dflt lo hi offs, len)) (h1 : ¬ x.toInt < lo) (h2 : ¬ hi < x.toInt) (ho : offs[(x.toInt - lo).toNat]? = some off) (ht : (pc : Int) + off = (tgt : Int)) (kk : g ck sk ws lv tgt st) : g ck sk ws lv pc (.int x :: st) := by
  obtain ⟨p, e, s, m, args, below, meth, c, Q, A, ⟨hx, hb, hml, hown, hts⟩, ⟨hK, hA, hZ, hin, hsc⟩, hE, rfl⟩ := X
  intro H locs ls hP hD hS hl
  exact lv_tableIn hx hb hdg h1 h2 ho ht (kk H locs ls hP hD hS hl)
theorem g_iaload (X : gx g l R cc nL own ini d E sc) {a n : Nat} {f : Nat → Int32} {i : Int32} (hdg : decode cc pc = .ok (.iaload, 1)) (q0 : Nat) (ha : ws[q0]? = some (a, cI d n f)) (hv : vp_in i n) (kk : g ck sk ws lv (pc + 1) (.int (f i.toNatClampNeg) :: st)) : g ck sk ws lv pc (.int i :: .ref a :: st) := by
  obtain ⟨p, e, s, m, args, below, meth, c, Q, A, ⟨hx, hb, hml, hown, hts⟩, ⟨hK, hA, hZ, hin, hsc⟩, hE, rfl⟩ := X
  intro H locs ls hP hD hS hl
  exact va_iald hx hb hK hP q0 0 ha rfl hv hdg (kk H locs ls hP hD hS hl)
theorem g_zaload (X : gx g l R cc nL own ini d E sc) {a n : Nat} {f : Nat → Int32} {i : Int32} (hdg : decode cc pc = .ok (.baload, 1)) (q0 : Nat) (ha : ws[q0]? = some (a, cZ d n f)) (hv : vp_in i n) (kk : g ck sk ws lv (pc + 1) (.int (f i.toNatClampNeg) :: st)) : g ck sk ws lv pc (.int i :: .ref a :: st) := by
  obtain ⟨p, e, s, m, args, below, meth, c, Q, A, ⟨hx, hb, hml, hown, hts⟩, ⟨hK, hA, hZ, hin, hsc⟩, hE, rfl⟩ := X
  intro H locs ls hP hD hS hl
  exact va_zald hx hb hK hP q0 1 ha rfl hv hdg (kk H locs ls hP hD hS hl)
theorem g_iastore (X : gx g l R cc nL own ini d E sc) {a n : Nat} {f : Nat → Int32} {i x : Int32} {ws' : va_W} (hdg : decode cc pc = .ok (.iastore, 1)) (q0 : Nat) (ha : ws[q0]? = some (a, cI d n f)) (hv : vp_in i n) (hw : ws.set q0 (a, cI d n (upd f i.toNatClampNeg x)) = ws') (kk : g ck sk ws' lv (pc + 1) st) : g ck sk ws lv pc (.int x :: .int i :: .ref a :: st) := by
  obtain ⟨p, e, s, m, args, below, meth, c, Q, A, ⟨hx, hb, hml, hown, hts⟩, ⟨hK, hA, hZ, hin, hsc⟩, hE, rfl⟩ := X
  intro H locs ls hP hD hS hl
  exact va_iast hx hb hK hP hD hS q0 0 ha rfl hv hdg (fun H1 locs1 hP1 hD1 hS1 => kk H1 locs1 ls (hw ▸ hP1) (hw ▸ hD1) hS1 hl)
theorem g_zastore (X : gx g l R cc nL own ini d E sc) {a n : Nat} {f : Nat → Int32} {i x : Int32} {ws' : va_W} (hdg : decode cc pc = .ok (.bastore, 1)) (q0 : Nat) (ha : ws[q0]? = some (a, cZ d n f)) (hv : vp_in i n) (hw : ws.set q0 (a, cZ d n (upd f i.toNatClampNeg (vp_nar .boolean x))) = ws') (kk : g ck sk ws' lv (pc + 1) st) : g ck sk ws lv pc (.int x :: .int i :: .ref a :: st) := by
  obtain ⟨p, e, s, m, args, below, meth, c, Q, A, ⟨hx, hb, hml, hown, hts⟩, ⟨hK, hA, hZ, hin, hsc⟩, hE, rfl⟩ := X
  intro H locs ls hP hD hS hl
  exact va_zast hx hb hK hP hD hS q0 1 ha rfl hv hdg (fun H1 locs1 hP1 hD1 hS1 => kk H1 locs1 ls (hw ▸ hP1) (hw ▸ hD1) hS1 hl)
theorem g_alen (X : gx g l R cc nL own ini d E sc) {a n : Nat} {f : Nat → Int32} {v : Int32} (hdg : decode cc pc = .ok (.arraylength, 1)) (q0 : Nat) (ha : ws[q0]? = some (a, cI d n f)) (hv : Int32.ofNat n = v) (kk : g ck sk ws lv (pc + 1) (.int v :: st)) : g ck sk ws lv pc (.ref a :: st) := by
  obtain ⟨p, e, s, m, args, below, meth, c, Q, A, ⟨hx, hb, hml, hown, hts⟩, ⟨hK, hA, hZ, hin, hsc⟩, hE, rfl⟩ := X
  intro H locs ls hP hD hS hl
  exact va_alen hx hb hK hP q0 0 ha rfl hv hdg (kk H locs ls hP hD hS hl)
theorem g_get (X : gx g l R cc nL own ini d E sc) {C ref : String} {T : u_T} {N ci index a : Nat} {fs : List Value} {v : Value} (hc : kcl[ci]? = some (C, T, N)) (hin0 : ∀ w ∈ u_ws C T N, w ∈ TT) (k : Nat) (hk : k < N) (hlink : Cond.fieldLink own index ref (T k).2.1 (T k).2.2.1 ∈ TT) (hsame : ref = (T k).1) (hdg : decode cc pc = .ok (.getfield index, 3)) (q0 : Nat) (he : ws[q0]? = some (a, cO ci fs)) (hv : fs[k]? = some v) (kk : g ck sk ws lv (pc + 3) (v :: st)) : g ck sk ws lv pc (.ref a :: st) := by
  obtain ⟨p, e, s, m, args, below, meth, c, Q, A, ⟨hx, hb, hml, hown, hts⟩, ⟨hK, hA, hZ, hin, hsc⟩, hE, rfl⟩ := X
  intro H locs ls hP hD hS hl
  exact va_get (D := d.1) (ci := ci) (v := v) (C := C) (T := T) (N := N) hx hb hts hin0 hown hK hP q0 he hc k hk (hts _ hlink) (fun _ h9 => by rw [hsame]; exact h9) hv hdg (kk H locs ls hP hD hS hl)
theorem g_put (X : gx g l R cc nL own ini d E sc) {C ref : String} {T : u_T} {N ci index a : Nat} {fs : List Value} {v : Value} {ty : FieldType} {ws' : va_W} (hc : kcl[ci]? = some (C, T, N)) (hin0 : ∀ w ∈ u_ws C T N, w ∈ TT) (ty0 : Nat → FieldType) (hty : ∀ k, k < N → parseFieldDescriptor (T k).2.2.1 = some (ty0 k)) (hnm : ∀ a, a < N → ∀ b, b < N → a ≠ b → (T a).2.1 ≠ (T b).2.1) (k : Nat) (hk : k < N) (hlink : Cond.fieldLink own index ref (T k).2.1 (T k).2.2.1 ∈ TT) (hsame : ref = (T k).1) (hfin : (T k).2.2.2 = false) (hd : parseFieldDescriptor (T k).2.2.1 = some ty) (hdg : decode cc pc = .ok (.putfield index, 3)) (q0 : Nat) (he : ws[q0]? = some (a, cO ci fs)) (hn : narrow ty v = v) (hfit : fits ty v = true) (hl0 : k < fs.length) (hw : ws.set q0 (a, cO ci (fs.set k v)) = ws') (kk : g ck sk ws' lv (pc + 3) st) : g ck sk ws lv pc (v :: .ref a :: st) := by
  obtain ⟨p, e, s, m, args, below, meth, c, Q, A, ⟨hx, hb, hml, hown, hts⟩, ⟨hK, hA, hZ, hin, hsc⟩, hE, rfl⟩ := X
  intro H locs ls hP hD hS hl
  exact va_put (D := d.1) (ci := ci) (v := v) (ty := ty) (C := C) (T := T) (N := N) hx hb hts hin0 ty0 hty hnm hown hK hP hD hS q0 he hc k hk (hts _ hlink) (fun _ h9 => by rw [hsame]; exact h9) hfin hd hn hfit hl0 hdg (fun H1 locs1 hP1 hD1 hS1 => kk H1 locs1 ls (hw ▸ hP1) (hw ▸ hD1) hS1 hl)
theorem g_putF (X : gx g l R cc nL own ini d E sc) {C ref : String} {T : u_T} {N ci index a : Nat} {fs : List Value} {v : Value} {ty : FieldType} {ws' : va_W} (hini : ini = true) (hc : kcl[ci]? = some (C, T, N)) (hin0 : ∀ w ∈ u_ws C T N, w ∈ TT) (ty0 : Nat → FieldType) (hty : ∀ k, k < N → parseFieldDescriptor (T k).2.2.1 = some (ty0 k)) (hnm : ∀ a, a < N → ∀ b, b < N → a ≠ b → (T a).2.1 ≠ (T b).2.1) (k : Nat) (hk : k < N) (hlink : Cond.fieldLink own index ref (T k).2.1 (T k).2.2.1 ∈ TT) (hsame : ref = (T k).1) (hfin : (T k).2.2.2 = true) (hdecl : (T k).1 = own) (hd : parseFieldDescriptor (T k).2.2.1 = some ty) (hdg : decode cc pc = .ok (.putfield index, 3)) (q0 : Nat) (he : ws[q0]? = some (a, cO ci fs)) (hn : narrow ty v = v) (hfit : fits ty v = true) (hl0 : k < fs.length) (hw : ws.set q0 (a, cO ci (fs.set k v)) = ws') (kk : g ck sk ws' lv (pc + 3) st) : g ck sk ws lv pc (v :: .ref a :: st) := by
  obtain ⟨p, e, s, m, args, below, meth, c, Q, A, ⟨hx, hb, hml, hown, hts⟩, ⟨hK, hA, hZ, hin, hsc⟩, hE, rfl⟩ := X
  intro H locs ls hP hD hS hl
  exact va_putF (D := d.1) (ci := ci) (v := v) (ty := ty) (C := C) (T := T) (N := N) hx hb hts hin0 ty0 hty hnm hown hK hP hD hS q0 he hc k hk (hts _ hlink) (fun _ h9 => by rw [hsame]; exact h9) hfin (hin hini) hdecl hd hn hfit hl0 hdg (fun H1 locs1 hP1 hD1 hS1 => kk H1 locs1 ls (hw ▸ hP1) (hw ▸ hD1) hS1 hl)
theorem g_copyi (X : gx g l R cc nL own ini d E sc) {index a0 a n0 n1 : Nat} {f h : Nat → Int32} {sp dp n : Int32} {ws' : va_W} (hlink : Cond.methodLink own index arraycopyName ∈ TT) (hnat : Cond.native arraycopyName ∈ TT) (hstat : Cond.static arraycopyName ∈ TT) (hini : Cond.initialized "java/lang/System" ∈ TT) (hsz : nL = nL) (hf : 1 ≤ R.frames) (hlo : (st.map fun v => v.category).sum + (nativeFrameWords "java/lang/System" "arraycopy" 5 + 11) ≤ R.locals) (hdg : decode cc pc = .ok (.invokestatic index, 3)) (q0 q1 : Nat) (ha0 : ws[q0]? = some (a0, cI d n0 f)) (ha1 : ws[q1]? = some (a, cI d n1 h)) (h1 : ¬ sp < 0) (h2 : ¬ dp < 0) (h3 : ¬ n < 0) (h4 : sp.toNatClampNeg + n.toNatClampNeg ≤ n0) (h5 : dp.toNatClampNeg + n.toNatClampNeg ≤ n1) (hw : ws.set q1 (a, cI d n1 (va_cpy f h sp.toNatClampNeg dp.toNatClampNeg n.toNatClampNeg)) = ws') (kk : g ck sk ws' lv (pc + 3) st) : g ck sk ws lv pc (.int n :: .int dp :: .ref a :: .int sp :: .ref a0 :: st) := by
  obtain ⟨p, e, s, m, args, below, meth, c, Q, A, ⟨hx, hb, hml, hown, hts⟩, ⟨hK, hA, hZ, hin, hsc⟩, hE, rfl⟩ := X
  intro H locs ls hP hD hS hl
  exact va_copyi hx hb (hml.trans hl.1.symm) hown (hts _ hlink) (hts _ hnat) (hts _ hstat) (hts _ hini) hK hP hD hS q0 q1 0 0 ha0 ha1 rfl rfl rfl h1 h2 h3 h4 h5 (fun _ _ => rfl) hf hlo hdg (fun H1 locs1 hP1 hD1 hS1 => kk H1 locs1 ls (hw ▸ hP1) (hw ▸ hD1) hS1 hl)
theorem g_mmax (X : gx g l R cc nL own ini d E sc) {index : Nat} {x y : Int32} (hlink : Cond.methodLink own index Lib.Math.max.name ∈ TT) (hstat : Cond.static Lib.Math.max.name ∈ TT) (hini : Cond.initialized "java/lang/Math" ∈ TT) (hcode : Cond.code Lib.Math.max.name Lib.Math.max.code 2 (some .int) ∈ TT) (hf : 1 ≤ R.frames) (hlo : (st.map fun v => v.category).sum + 13 ≤ R.locals) (hc1 : ck ≤ R.cells) (hs1 : sk ≤ R.slots) (hdg : decode cc pc = .ok (.invokestatic index, 3)) (kk : g ck sk ws lv (pc + 3) (.int (if x < y then y else x) :: st)) : g ck sk ws lv pc (.int y :: .int x :: st) := by
  obtain ⟨p, e, s, m, args, below, meth, c, Q, A, ⟨hx, hb, hml, hown, hts⟩, ⟨hK, hA, hZ, hin, hsc⟩, hE, rfl⟩ := X
  intro H locs ls hP hD hS hl
  exact va_mmax hx hb (hml.trans hl.1.symm) hown (hts _ hlink) (hts _ hstat) (hts _ hini) (hts _ hcode) hf hlo hc1 hs1 hdg (kk H locs ls hP hD hS hl)
theorem g_mmin (X : gx g l R cc nL own ini d E sc) {index : Nat} {x y : Int32} (hlink : Cond.methodLink own index Lib.Math.min.name ∈ TT) (hstat : Cond.static Lib.Math.min.name ∈ TT) (hini : Cond.initialized "java/lang/Math" ∈ TT) (hcode : Cond.code Lib.Math.min.name Lib.Math.min.code 2 (some .int) ∈ TT) (hf : 1 ≤ R.frames) (hlo : (st.map fun v => v.category).sum + 13 ≤ R.locals) (hc1 : ck ≤ R.cells) (hs1 : sk ≤ R.slots) (hdg : decode cc pc = .ok (.invokestatic index, 3)) (kk : g ck sk ws lv (pc + 3) (.int (if y < x then y else x) :: st)) : g ck sk ws lv pc (.int y :: .int x :: st) := by
  obtain ⟨p, e, s, m, args, below, meth, c, Q, A, ⟨hx, hb, hml, hown, hts⟩, ⟨hK, hA, hZ, hin, hsc⟩, hE, rfl⟩ := X
  intro H locs ls hP hD hS hl
  exact va_mmin hx hb (hml.trans hl.1.symm) hown (hts _ hlink) (hts _ hstat) (hts _ hini) (hts _ hcode) hf hlo hc1 hs1 hdg (kk H locs ls hP hD hS hl)
theorem g_mabs (X : gx g l R cc nL own ini d E sc) {index : Nat} {x : Int32} (hlink : Cond.methodLink own index Lib.Math.abs.name ∈ TT) (hstat : Cond.static Lib.Math.abs.name ∈ TT) (hini : Cond.initialized "java/lang/Math" ∈ TT) (hcode : Cond.code Lib.Math.abs.name Lib.Math.abs.code 1 (some .int) ∈ TT) (hf : 1 ≤ R.frames) (hlo : (st.map fun v => v.category).sum + 13 ≤ R.locals) (hc1 : ck ≤ R.cells) (hs1 : sk ≤ R.slots) (hdg : decode cc pc = .ok (.invokestatic index, 3)) (kk : g ck sk ws lv (pc + 3) (.int (if 0 ≤ x then x else 0 - x) :: st)) : g ck sk ws lv pc (.int x :: st) := by
  obtain ⟨p, e, s, m, args, below, meth, c, Q, A, ⟨hx, hb, hml, hown, hts⟩, ⟨hK, hA, hZ, hin, hsc⟩, hE, rfl⟩ := X
  intro H locs ls hP hD hS hl
  exact va_mabs hx hb (hml.trans hl.1.symm) hown (hts _ hlink) (hts _ hstat) (hts _ hini) (hts _ hcode) hf hlo hc1 hs1 hdg (kk H locs ls hP hD hS hl)
theorem g_getsT (X : gx g l R cc nL own ini d E sc) {index : Nat} (k : Nat) (n : String) (hk : (k = 0 ∧ n = "LEAST") ∨ (k = 1 ∧ n = "GREATEST")) (hlink : Cond.fieldLink own index "HeWreckedHimself" n "[I" ∈ TT) (hdg : decode cc pc = .ok (.getstatic index, 3)) (kk : g ck sk ws lv (pc + 3) (.ref (kT d k) :: st)) : g ck sk ws lv pc st := by
  obtain ⟨p, e, s, m, args, below, meth, c, Q, A, ⟨hx, hb, hml, hown, hts⟩, ⟨hK, hA, hZ, hin, hsc⟩, hE, rfl⟩ := X
  intro H locs ls hP hD hS hl
  rcases hk with ⟨rfl, rfl⟩ | ⟨rfl, rfl⟩
  · exact va_gets hx hb hZ.1.1 hS hown (hts _ hlink) (fun _ h9 => h9) hdg (kk H locs ls hP hD hS hl)
  · exact va_gets hx hb hZ.2.1.1 hS hown (hts _ hlink) (fun _ h9 => h9) hdg (kk H locs ls hP hD hS hl)
theorem g_getsN (X : gx g l R cc nL own ini d E sc) {index : Nat} (k : Nat) (n : String) (hk : (k = 0 ∧ n = "LEAST") ∨ (k = 1 ∧ n = "GREATEST")) (hlink : (own, index, "HeWreckedHimself", n, "[I", "HeWreckedHimself") ∈ nestF) (hdg : decode cc pc = .ok (.getstatic index, 3)) (kk : g ck sk ws lv (pc + 3) (.ref (kT d k) :: st)) : g ck sk ws lv pc st := by
  obtain ⟨p, e, s, m, args, below, meth, c, Q, A, ⟨hx, hb, hml, hown, hts⟩, ⟨hK, hA, hZ, hin, hsc⟩, hE, rfl⟩ := X
  intro H locs ls hP hD hS hl
  rcases hk with ⟨rfl, rfl⟩ | ⟨rfl, rfl⟩
  · exact va_getsN hx hb hZ.1.1 hS hown (va_Nw.use rfl (hZ.2.2.2.2.2.2.2 _ hlink)) (fun _ h9 => h9) hdg (kk H locs ls hP hD hS hl)
  · exact va_getsN hx hb hZ.2.1.1 hS hown (va_Nw.use rfl (hZ.2.2.2.2.2.2.2 _ hlink)) (fun _ h9 => h9) hdg (kk H locs ls hP hD hS hl)
theorem g_sld (X : gx g l R cc nL own ini d E sc) {i : Int32} (k : Nat) (f : Nat → Int32) (hk : (k = 0 ∧ f = leastF) ∨ (k = 1 ∧ f = greatF)) (hv : vp_in i 5) (hdg : decode cc pc = .ok (.iaload, 1)) (kk : g ck sk ws lv (pc + 1) (.int (f i.toNatClampNeg) :: st)) : g ck sk ws lv pc (.int i :: .ref (kT d k) :: st) := by
  obtain ⟨p, e, s, m, args, below, meth, c, Q, A, ⟨hx, hb, hml, hown, hts⟩, ⟨hK, hA, hZ, hin, hsc⟩, hE, rfl⟩ := X
  intro H locs ls hP hD hS hl
  rcases hk with ⟨rfl, rfl⟩ | ⟨rfl, rfl⟩
  · exact va_ti hx hb hZ.1.2 hS hv rfl hdg (kk H locs ls hP hD hS hl)
  · exact va_ti hx hb hZ.2.1.2 hS hv rfl hdg (kk H locs ls hP hD hS hl)
theorem g_getsC (X : gx g l R cc nL own ini d E sc) {index : Nat} (hlink : Cond.fieldLink own index "java/lang/String" "COMPACT_STRINGS" "Z" ∈ TT) (hdg : decode cc pc = .ok (.getstatic index, 3)) (kk : g ck sk ws lv (pc + 3) (.int 1 :: st)) : g ck sk ws lv pc st := by
  obtain ⟨p, e, s, m, args, below, meth, c, Q, A, ⟨hx, hb, hml, hown, hts⟩, ⟨hK, hA, hZ, hin, hsc⟩, hE, rfl⟩ := X
  intro H locs ls hP hD hS hl
  exact va_gets hx hb hZ.2.2.1 hS hown (hts _ hlink) (fun _ h9 => h9) hdg (kk H locs ls hP hD hS hl)
theorem g_getStrV (X : gx g l R cc nL own ini d E sc) {index : Nat} (i : Nat) (hi : i < 9) (hlink : Cond.fieldLink own index "java/lang/String" "value" "[B" ∈ TT) (hdg : decode cc pc = .ok (.getfield index, 3)) (kk : g ck sk ws lv (pc + 3) (.ref (kV d i) :: st)) : g ck sk ws lv pc (.ref (kS d i) :: st) := by
  obtain ⟨p, e, s, m, args, below, meth, c, Q, A, ⟨hx, hb, hml, hown, hts⟩, ⟨hK, hA, hZ, hin, hsc⟩, hE, rfl⟩ := X
  intro H locs ls hP hD hS hl
  exact vk_getf hx hb (hZ.2.2.2.2.1.1 i hi).2.2.1 hS hown (hts _ hlink) (fun _ h9 => h9) hdg (kk H locs ls hP hD hS hl)
theorem g_getStrC (X : gx g l R cc nL own ini d E sc) {index : Nat} (i : Nat) (hi : i < 9) (hlink : Cond.fieldLink own index "java/lang/String" "coder" "B" ∈ TT) (hdg : decode cc pc = .ok (.getfield index, 3)) (kk : g ck sk ws lv (pc + 3) (.int 0 :: st)) : g ck sk ws lv pc (.ref (kS d i) :: st) := by
  obtain ⟨p, e, s, m, args, below, meth, c, Q, A, ⟨hx, hb, hml, hown, hts⟩, ⟨hK, hA, hZ, hin, hsc⟩, hE, rfl⟩ := X
  intro H locs ls hP hD hS hl
  exact vk_getf hx hb (hZ.2.2.2.2.1.1 i hi).2.1 hS hown (hts _ hlink) (fun _ h9 => h9) hdg (kk H locs ls hP hD hS hl)
theorem g_strlen (X : gx g l R cc nL own ini d E sc) {v : Int32} (i : Nat) (hi : i < 9) (hv : Int32.ofNat (strL.getD i 0) = v) (hdg : decode cc pc = .ok (.arraylength, 1)) (kk : g ck sk ws lv (pc + 1) (.int v :: st)) : g ck sk ws lv pc (.ref (kV d i) :: st) := by
  obtain ⟨p, e, s, m, args, below, meth, c, Q, A, ⟨hx, hb, hml, hown, hts⟩, ⟨hK, hA, hZ, hin, hsc⟩, hE, rfl⟩ := X
  intro H locs ls hP hD hS hl
  exact va_tlen hx hb (hZ.2.2.2.2.1.1 i hi).2.2.2 hS hv hdg (kk H locs ls hP hD hS hl)
theorem g_strld (X : gx g l R cc nL own ini d E sc) {j : Int32} (i : Nat) (hi : i < 9) (hv : vp_in j (strL.getD i 0)) (hdg : decode cc pc = .ok (.baload, 1)) (kk : g ck sk ws lv (pc + 1) (.int ((strB.getD i []).getD j.toNatClampNeg 0) :: st)) : g ck sk ws lv pc (.int j :: .ref (kV d i) :: st) := by
  obtain ⟨p, e, s, m, args, below, meth, c, Q, A, ⟨hx, hb, hml, hown, hts⟩, ⟨hK, hA, hZ, hin, hsc⟩, hE, rfl⟩ := X
  intro H locs ls hP hD hS hl
  exact va_tb hx hb (hZ.2.2.2.2.1.1 i hi).2.2.2 hS hv rfl hdg (kk H locs ls hP hD hS hl)
theorem g_scld (X : gx g l R cc nL own ini d E sc) {b L : Nat} {xs : Nat → Int32} {i : Int32} (hsc0 : sc = some (b, L, xs)) (hv : vp_in i L) (hdg : decode cc pc = .ok (.iaload, 1)) (kk : g ck sk ws lv (pc + 1) (.int (xs i.toNatClampNeg) :: st)) : g ck sk ws lv pc (.int i :: .ref b :: st) := by
  obtain ⟨p, e, s, m, args, below, meth, c, Q, A, ⟨hx, hb, hml, hown, hts⟩, ⟨hK, hA, hZ, hin, hsc⟩, hE, rfl⟩ := X
  intro H locs ls hP hD hS hl
  obtain ⟨hbl, hbA, hX⟩ := hsc b L xs hsc0
  exact va_sld hx hb hX hbl hbA hS hv hdg (kk H locs ls hP hD hS hl)
theorem g_sclen (X : gx g l R cc nL own ini d E sc) {b L : Nat} {xs : Nat → Int32} (hsc0 : sc = some (b, L, xs)) (hdg : decode cc pc = .ok (.arraylength, 1)) (kk : g ck sk ws lv (pc + 1) (.int (nI L) :: st)) : g ck sk ws lv pc (.ref b :: st) := by
  obtain ⟨p, e, s, m, args, below, meth, c, Q, A, ⟨hx, hb, hml, hown, hts⟩, ⟨hK, hA, hZ, hin, hsc⟩, hE, rfl⟩ := X
  intro H locs ls hP hD hS hl
  obtain ⟨hbl, hbA, hX⟩ := hsc b L xs hsc0
  exact va_slen hx hb hX hbl hbA hS hdg (kk H locs ls hP hD hS hl)
theorem g_lv (X : gx g l R cc nL own ini d E sc) {lv' : List (Nat × Value)} (ks : List Nat) (h : lv_pick lv ks = lv') (kk : g ck sk ws lv' pc st) : g ck sk ws lv pc st := by
  obtain ⟨p, e, s, m, args, below, meth, c, Q, A, ⟨hx, hb, hml, hown, hts⟩, ⟨hK, hA, hZ, hin, hsc⟩, hE, rfl⟩ := X
  intro H locs ls hP hD hS hl
  exact kk H locs ls hP hD hS (lv_sub hl ks h)
theorem g_ws (X : gx g l R cc nL own ini d E sc) {ws' : va_W} (is : List Nat) (hn : va_nd is = true) (h : is.map (fun i => ws[i]?) = ws'.map some) (h2 : is.filterMap (fun i => ws[i]?) = ws') (kk : g ck sk ws' lv pc st) : g ck sk ws lv pc st := by
  obtain ⟨p, e, s, m, args, below, meth, c, Q, A, ⟨hx, hb, hml, hown, hts⟩, ⟨hK, hA, hZ, hin, hsc⟩, hE, rfl⟩ := X
  intro H locs ls hP hD hS hl
  exact kk H locs ls (hP.sub is h2) (hD.sub is hn h) hS hl
theorem g_end (X : gx g l R cc nL own ini d E sc) (h : E ck sk ws pc st) : g ck sk ws lv pc st := by
  obtain ⟨p, e, s, m, args, below, meth, c, Q, A, h1, h2, hE, h3⟩ := X
  exact hE ck sk ws lv pc st h
end GR
theorem gE_i {cc : ByteArray} {mc ms ck sk pc : Nat} {post : Option Value → va_W → Prop} {ws : va_W} {v : Int32} {ty : FieldType} (hdg : decode cc pc = .ok (.ireturn, 1)) (hn : narrow ty (.int v) = .int v) (h1 : ck ≤ mc) (h2 : sk ≤ ms) (h : post (some (.int v)) ws) : gE cc (some ty) mc ms post ck sk ws pc [.int v] := ⟨h1, h2, Or.inl ⟨v, ty, hdg, rfl, hn, rfl, h⟩⟩
theorem gE_v {cc : ByteArray} {mc ms ck sk pc : Nat} {post : Option Value → va_W → Prop} {ws : va_W} (hdg : decode cc pc = .ok (.return_, 1)) (h1 : ck ≤ mc) (h2 : sk ≤ ms) (h : post none ws) : gE cc none mc ms post ck sk ws pc [] := ⟨h1, h2, Or.inr (Or.inl ⟨hdg, rfl, rfl, h⟩)⟩
theorem gE_a {cc : ByteArray} {mc ms ck sk pc a : Nat} {n : String} {post : Option Value → va_W → Prop} {ws : va_W} (hdg : decode cc pc = .ok (.areturn, 1)) (h1 : ck ≤ mc) (h2 : sk ≤ ms) (h : post (some (.ref a)) ws) : gE cc (some (.object n)) mc ms post ck sk ws pc [.ref a] := ⟨h1, h2, Or.inr (Or.inr (Or.inl ⟨a, n, hdg, rfl, rfl, h⟩))⟩
theorem gE_l {cc : ByteArray} {mc ms ck sk pc : Nat} {post : Option Value → va_W → Prop} {ws : va_W} {v : Int64} (hdg : decode cc pc = .ok (.lreturn, 1)) (h1 : ck ≤ mc) (h2 : sk ≤ ms) (h : post (some (.long v)) ws) : gE cc (some .long) mc ms post ck sk ws pc [.long v] := ⟨h1, h2, Or.inr (Or.inr (Or.inr ⟨v, hdg, rfl, rfl, h⟩))⟩
