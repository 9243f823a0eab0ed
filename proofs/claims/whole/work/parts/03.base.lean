/-! THE G LAYER: a frame of the machine seen as (cells, slots, world, locals, pc, stack); one row an instruction. Own work over the kit's rows. -/
def TT : List Cond := lw_tbl.filter goodWord
theorem TT_in {w : Cond} (i : Nat) (h : lw_tbl[i]? = some w) (hg : goodWord w = true) : w ∈ TT := List.mem_filter.mpr ⟨List.mem_of_getElem? h, hg⟩
theorem TT_of {w : Cond} (h : w ∈ lw_tbl) (hg : goodWord w = true) : w ∈ TT := List.mem_filter.mpr ⟨h, hg⟩
theorem TT_good : ∀ w ∈ TT, (w.onTables && w.keeps) = true ∨ ∃ ty, w = .arrayClass ty := fun w h => good_of_word (List.mem_filter.mp h).2
theorem TT_G {a b : Cond} (h : b ∈ TT) : GoodIn (a :: TT) (b :: TT) := fun w hw => by
  rcases List.mem_cons.mp hw with e | e
  · subst e; exact ⟨List.mem_cons_of_mem _ h, TT_good _ h⟩
  · exact ⟨List.mem_cons_of_mem _ e, TT_good _ e⟩
theorem TT_G0 {b : Cond} (h : b ∈ TT) : GoodIn TT (b :: TT) := fun w hw => by
  rcases List.mem_cons.mp hw with e | e
  · subst e; exact ⟨h, TT_good _ h⟩
  · exact ⟨e, TT_good _ e⟩
/-- the classes of the worlds; the array classes -/
abbrev kcl : List vw_C := [(RX0, TX0, 3), (RX1, TX1, 3), (RX2, TX2, 1), (RX3, TX3, 1), (RX4, TX4, 2), (RX5, TX5, 11), (RX6, TX6, 17)]
/-- what is fixed for a run: the classes' numbers and slots, the classes of int rows and boolean rows, the addresses of the static rows, of the String constants, of their rows -/
abbrev KD : Type := va_G × (ClassId × ClassId) × (Nat → Nat) × (Nat → Nat) × (Nat → Nat)
abbrev kG (d : KD) : va_G := d.1
abbrev kI (d : KD) : ClassId := d.2.1.1
abbrev kZ (d : KD) : ClassId := d.2.1.2
abbrev kT (d : KD) : Nat → Nat := d.2.2.1
abbrev kS (d : KD) : Nat → Nat := d.2.2.2.1
abbrev kV (d : KD) : Nat → Nat := d.2.2.2.2
abbrev kty (d : KD) : List (ClassId × FieldType) := [(kI d, .int), (kZ d, .boolean)]
/-- a cell: an int row, a boolean row, an object -/
abbrev cI (d : KD) (n : Nat) (f : Nat → Int32) : va_E := .inl (kI d, n, .inl f)
abbrev cZ (d : KD) (n : Nat) (f : Nat → Int32) : va_E := .inl (kZ d, n, .inl f)
abbrev cO (k : Nat) (fs : List Value) : va_E := .inr (k, fs)
/-- the class's two static rows -/
def leastF (j : Nat) : Int32 := [0, 1, 1, 0, 0].getD j 0
def greatF (j : Nat) : Int32 := [35, 9, 9, 99, 99].getD j 0
/-- the String constants: K00; K0000; 00000; 00; 0000; S00; (nothing) osrfcp dbrcsp -/
def strB : List (List Int32) := [[75, 48, 48, 59], [75, 48, 48, 48, 48, 59], [48, 48, 48, 48, 48, 59], [48, 48, 59], [48, 48, 48, 48, 59], [83, 48, 48, 59], [], [111, 115, 114, 102, 99, 112], [100, 98, 114, 99, 115, 112]]
def strL : List Nat := [4, 6, 6, 3, 5, 4, 0, 6, 6]
def strR : List (String × Nat × String × Nat) := [("HeWreckedHimself$Text", 23, "K00;", 0), ("HeWreckedHimself$Text", 25, "K0000;", 1), ("HeWreckedHimself$Text", 27, "00000;", 2), ("HeWreckedHimself$Text", 29, "00;", 3), ("HeWreckedHimself$Text", 31, "0000;", 4), ("HeWreckedHimself$Text", 33, "S00;", 5), ("HeWreckedHimself$Text", 35, "", 6), ("HeWreckedHimself$Text", 37, "osrfcp", 7), ("HeWreckedHimself$Text", 45, "dbrcsp", 8), ("HeWreckedHimselfModel", 73, "osrfcp", 7), ("HeWreckedHimselfModel", 91, "dbrcsp", 8)]
def nestM : List (String × Nat × MethodName × String) := [
  ("HeWreckedHimself", 28, yX4_init, "HeWreckedHimself"), ("HeWreckedHimself", 46, yX0_init, "HeWreckedHimself"), ("HeWreckedHimself", 53, yX3_init, "HeWreckedHimself"), ("HeWreckedHimself", 60, yX2_init, "HeWreckedHimself"),
  ("HeWreckedHimself$Pilot", 25, yX5_isSquare, "HeWreckedHimself"), ("HeWreckedHimself$Sea", 27, yX5_isSquare, "HeWreckedHimself"), ("HeWreckedHimself$Signs", 40, yX5_isKind, "HeWreckedHimself"), ("HeWreckedHimself$Signs", 44, yX5_isSquare, "HeWreckedHimself"),
  ("HeWreckedHimself$Text", 103, yX5_isSquare, "HeWreckedHimself"), ("HeWreckedHimself$Text", 111, yX5_isKind, "HeWreckedHimself"), ("HeWreckedHimself$Searcher", 31, yX5_isSquare, "HeWreckedHimself")]
def nestF : List (String × Nat × String × String × String × String) := [("HeWreckedHimself$Text", 126, "HeWreckedHimself", "LEAST", "[I", "HeWreckedHimself"), ("HeWreckedHimself$Text", 129, "HeWreckedHimself", "GREATEST", "[I", "HeWreckedHimself")]
/-- what stands outside every world, and stays: statics, String constants, the links of nest mates -/
def kst (d : KD) (A : Nat → Prop) (U : State) (H : Heap) : Prop :=
  (va_Z "HeWreckedHimself" "LEAST" "[I" (.ref (kT d 0)) A U H ∧ va_T .int (kT d 0) 5 (fun j => .int (leastF j)) A U H) ∧
  (va_Z "HeWreckedHimself" "GREATEST" "[I" (.ref (kT d 1)) A U H ∧ va_T .int (kT d 1) 5 (fun j => .int (greatF j)) A U H) ∧
  va_Z "java/lang/String" "COMPACT_STRINGS" "Z" (.int 1) A U H ∧
  (∃ v : Value, (v = .null ∨ ∃ a, v = .ref a) ∧ va_Z "jdk/internal/util/Preconditions" "SIOOBE_FORMATTER" "Ljava/util/function/BiFunction;" v A U H) ∧
  vk_S 9 strL strB (kS d) (kV d) A U H ∧ (∀ q ∈ strR, vk_R q.1 q.2.1 q.2.2.1 (kS d q.2.2.2) U) ∧
  (∀ q ∈ nestM, va_Nw (.methodLinkNest q.1 q.2.1 q.2.2.1 q.2.2.2) U) ∧ (∀ q ∈ nestF, va_Nw (.fieldLinkNest q.1 q.2.1 q.2.2.1 q.2.2.2.1 q.2.2.2.2.1 q.2.2.2.2.2) U)
theorem kst.call {d : KD} {A B : Nat → Prop} {s U : State} {H : Heap} {locs : List Loc} (h : kst d A s s.heap) (hS : va_S A s.heap H locs) (hW : s.WarmedH U.vm) (hAB : ∀ q, B q → A q) : kst d B U H := by
  obtain ⟨⟨a1, a2⟩, ⟨b1, b2⟩, c1, ⟨v, hv, c2⟩, e1, e2, e3, e4⟩ := h
  have hvm := hW.alike
  refine ⟨⟨va_Z.moved hvm ((a1.kept hS.2.1).narrow hAB), va_T.moved hvm ((a2.kept hS.2.1).narrow hAB)⟩, ⟨va_Z.moved hvm ((b1.kept hS.2.1).narrow hAB), va_T.moved hvm ((b2.kept hS.2.1).narrow hAB)⟩, va_Z.moved hvm ((c1.kept hS.2.1).narrow hAB), ⟨v, hv, va_Z.moved hvm ((c2.kept hS.2.1).narrow hAB)⟩, vk_S.moved hvm ((e1.kept hS.2.1).narrow hAB), fun q hq => vk_R.warm hW (e2 q hq), fun q hq => va_Nw.warmM hW (e3 q hq), fun q hq => va_Nw.warmF hW (e4 q hq)⟩
theorem kst.blind {d : KD} {A : Nat → Prop} {U : State} {H : Heap} (h : kst d A U H) (g : JFrame) (mk : MethodId) (a : Array Value) : kst d A (U.calling g mk a) H := by
  obtain ⟨⟨a1, a2⟩, ⟨b1, b2⟩, c1, ⟨v, hv, c2⟩, e1, e2, e3, e4⟩ := h
  have hvm : U.vm.Alike (U.calling g mk a).vm := Vm.Alike.refl U.vm
  exact ⟨⟨va_Z.moved hvm a1, va_T.moved hvm a2⟩, ⟨va_Z.moved hvm b1, va_T.moved hvm b2⟩, va_Z.moved hvm c1, ⟨v, hv, va_Z.moved hvm c2⟩, vk_S.moved hvm e1, fun q hq => vk_R.same rfl (e2 q hq), fun q hq => va_Nw.of (by rfl) (va_tabs (A' := #[]) (by rfl) (rfl : U.vm = (U.calling g mk a).vm) (e3 q hq)), fun q hq => va_Nw.of (by rfl) (va_tabs (A' := #[]) (by rfl) (rfl : U.vm = (U.calling g mk a).vm) (e4 q hq))⟩
/-- a method's end: its answer, and the world behind it -/
def gQ (d : KD) (win : va_W) (sz : Nat) (post : Option Value → va_W → Prop) : Array Value → State → Outcome → State → Prop := fun _ st oc t =>
  (∃ (r : Option Value) (wo : va_W), oc = .returned r ∧ post r wo ∧ va_P d.1 kcl wo t.heap ∧ va_D (va_A win sz) wo) ∧ va_F (va_A win sz) st t
/-- a method's contract -/
def Ct (l : Launch) (d : KD) (y : MethodName) (cc : ByteArray) (nL : Nat) (ret : Option FieldType) (rm : Room) (av : List Value) (win : va_W) (mc ms : Nat) (post : Option Value → va_W → Prop) : Prop :=
  ∀ sz : Nat, Met l y (.code y cc nL ret :: TT) rm (va_Pc av (fun U => U.heap.size = sz ∧ va_P d.1 kcl win U.heap ∧ va_K d.1 kcl (kty d) U ∧ va_D (fun _ => True) win ∧ kst d (va_A win sz) U U.heap)) (gQ d win sz post) mc ms (va_A win sz)
abbrev gT : Type := Nat → Nat → va_W → List (Nat × Value) → Nat → List Value → Prop
/-- where a method may end -/
def gE (cc : ByteArray) (ret : Option FieldType) (mc ms : Nat) (post : Option Value → va_W → Prop) : Nat → Nat → va_W → Nat → List Value → Prop := fun ck sk ws pc st =>
  ck ≤ mc ∧ sk ≤ ms ∧ ((∃ (v : Int32) (ty : FieldType), decode cc pc = .ok (.ireturn, 1) ∧ ret = some ty ∧ narrow ty (.int v) = .int v ∧ st = [.int v] ∧ post (some (.int v)) ws) ∨ (decode cc pc = .ok (.return_, 1) ∧ ret = none ∧ st = [] ∧ post none ws) ∨
    (∃ (a : Nat) (n : String), decode cc pc = .ok (.areturn, 1) ∧ ret = some (.object n) ∧ st = [.ref a] ∧ post (some (.ref a)) ws) ∨ (∃ v : Int64, decode cc pc = .ok (.lreturn, 1) ∧ ret = some .long ∧ st = [.long v] ∧ post (some (.long v)) ws))
/-- a frame under way: g is its judgement -/
def gx (g : gT) (l : Launch) (R : Room) (cc : ByteArray) (nL : Nat) (own : String) (ini : Bool) (d : KD) (E : Nat → Nat → va_W → Nat → List Value → Prop) (sc : Option (Nat × Nat × (Nat → Int32))) : Prop :=
  ∃ (p : Program) (e : Env) (s : State) (m : MethodId) (args : Array Value) (below : List Frame) (meth : Method) (c : Code) (Q : State → Prop) (A : Nat → Prop),
    (p.tables.exec = Jvm.exec ∧ c.code = cc ∧ c.maxLocals = nL ∧ s.vm.findClass own = some m.cls ∧ ∀ w ∈ TT, w.before args s = true) ∧
    (va_K d.1 kcl (kty d) s ∧ (∀ q, s.heap.size ≤ q → A q) ∧ kst d A s s.heap ∧ (ini = true → meth.name = "<init>") ∧ ∀ b L xs, sc = some (b, L, xs) → b < s.heap.size ∧ ¬ A b ∧ va_X b L xs s s.heap) ∧
    (∀ ck sk ws lv pc st, E ck sk ws pc st → g ck sk ws lv pc st) ∧
    g = fun ck sk ws lv pc st => ∀ (H : Heap) (locs : List Loc) (ls : Array Slot), va_P d.1 kcl ws H → va_D A ws → va_S A s.heap H locs → lv_has ls nL lv → W p l e R s m args below meth c H locs ck sk Q (F0 m pc ls st)
theorem ct_of {l : Launch} {d : KD} {y : MethodName} {cc : ByteArray} {nL : Nat} {ret : Option FieldType} {rm : Room} {av : List Value} {win : va_W} {mc ms : Nat} {post : Option Value → va_W → Prop} {own : String} {ini : Bool}
    (hy : plainName y.cls = true) (ho : y.cls = own) (hi : ini = true → y.name = "<init>") (hn : (lg_sl av).length ≤ nL)
    (body : ∀ g, gx g l rm cc nL own ini d (gE cc ret mc ms post) none → g 0 0 win (lv_args 0 av) 0 []) : Ct l d y cc nL ret rm av win mc ms post := by
  intro sz
  refine Met.ofW (cc := cc) (maxL := nL) (ret := ret) hy rfl ?_
  intro p e s m args below meth c s₁ B hml hv
  obtain ⟨rfl, hsz, hP, hK, hD0, hZ⟩ := hv
  have hx := B.exec
  have hb := B.bytes
  have hr := B.returns
  have hts := atoms_spec (ws := .code y cc nL ret :: TT) B.pre
  have hown : s.vm.findClass own = some m.cls := by rw [← ho]; exact findClass_of_methodNamed B.named
  have hlocks := B.notSynchronized
  have hin : meth.name = y.name := (name_of_methodNamed B.named B.method).1
  subst hsz
  have hD := hD0.self (sz := s.heap.size)
  have hl := lv_entry av hn
  rw [lg_entry_eq]
  generalize (lg_sl av ++ List.replicate (nL - (lg_sl av).length) Slot.unset).toArray = ls at hl ⊢
  have key := body (fun ck sk ws lv pc st => ∀ (H : Heap) (locs : List Loc) (ls : Array Slot), va_P d.1 kcl ws H → va_D (va_A win s.heap.size) ws → va_S (va_A win s.heap.size) s.heap H locs → lv_has ls nL lv → W p l e rm s m av.toArray below meth c H locs ck sk (MQ below (gQ d win s.heap.size post) av.toArray s mc ms (va_A win s.heap.size)) (F0 m pc ls st))
    ⟨p, e, s, m, av.toArray, below, meth, c, _, va_A win s.heap.size, ⟨hx, hb, hml, hown, fun w hw => hts w (List.mem_cons_of_mem _ hw)⟩, ⟨hK, fun q h => Or.inr h, hZ, fun h => hin.trans (hi h), fun b L xs h => by cases h⟩, ?_, rfl⟩
  · exact key s.heap [] ls hP hD va_S.rf hl
  · intro ck sk ws lv pc st hE H locs ls hP hD hS hl
    obtain ⟨hc1, hc2, hE⟩ := hE
    refine W.widen hc1 hc2 ?_
    rcases hE with ⟨v, ty, h1, h2, h3, rfl, h5⟩ | ⟨h1, h2, rfl, h5⟩ | ⟨a, n, h1, h2, rfl, h5⟩ | ⟨v, h1, h2, rfl, h5⟩
    · exact W.zret hx hb (hr.trans h2) h3 (fun t ht hW => ⟨⟨_, ws, rfl, h5, by rw [ht]; exact hP, hD⟩, hS.F ht⟩) hS.2.2 h1
    · exact W.vret hx hb (hr.trans h2) (fun t ht hW => ⟨⟨_, ws, rfl, h5, by rw [ht]; exact hP, hD⟩, hS.F ht⟩) hS.2.2 h1
    · exact W.aret hx hb (hr.trans h2) (Or.inl ⟨_, rfl⟩) (Or.inr ⟨a, rfl⟩) (fun t ht hW => ⟨⟨_, ws, rfl, h5, by rw [ht]; exact hP, hD⟩, hS.F ht⟩) hS.2.2 h1
    · exact W.lret hx hb (hr.trans h2) (fun t ht hW => ⟨⟨_, ws, rfl, h5, by rw [ht]; exact hP, hD⟩, hS.F ht⟩) hS.2.2 h1
