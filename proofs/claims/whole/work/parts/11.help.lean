/-! small helps for the walks: truth values, squares, counters -/
noncomputable def b2i (P : Prop) : Int32 := @ite _ P (Classical.propDecidable P) 1 0
theorem b2i_t {P : Prop} (h : P) : b2i P = 1 := by unfold b2i; exact if_pos h
theorem b2i_f {P : Prop} (h : ¬ P) : b2i P = 0 := by unfold b2i; exact if_neg h
theorem b2i_0 {P : Prop} : b2i P = 0 ↔ ¬ P := by
  by_cases h : P
  · rw [b2i_t h]; exact ⟨fun e => absurd e (by decide), fun e => absurd h e⟩
  · rw [b2i_f h]; exact ⟨fun _ => h, fun _ => rfl⟩
theorem b2i_c {P Q : Prop} (h : P ↔ Q) : b2i P = b2i Q := by rw [propext h]
theorem b2i_nar (P : Prop) : narrow .boolean (.int (b2i P)) = .int (b2i P) := by
  by_cases h : P
  · rw [b2i_t h]; rfl
  · rw [b2i_f h]; rfl
abbrev sq (x : Int32) : Prop := 0 ≤ x ∧ x < 36
theorem nI_lit36 : (36 : Int32) = nI 36 := by decide
theorem vp_in_of2 {x : Int32} {n : Nat} (hn : n < 2 ^ 31) (h0 : 0 ≤ x) (h1 : x < nI n) : vp_in x n := by
  refine vp_in_iff.mpr ⟨?_, ?_⟩
  · simpa using Int32.le_iff_toInt_le.mp h0
  · have := Int32.lt_iff_toInt_lt.mp h1
    rwa [nI_toInt hn] at this
theorem sq_in {x : Int32} (h : sq x) : vp_in x 36 := vp_in_of2 (by omega) h.1 h.2
theorem sq_nat {x : Int32} (h : sq x) : ∃ j : Nat, j < 36 ∧ x = nI j := vp_in_of (sq_in h) (by omega)
theorem nI_sq {j : Nat} (h : j < 36) : sq (nI j) := ⟨nI_pos' (by omega), by rw [nI_lit36]; exact nI_lt h (by omega)⟩
theorem nI_inc (a : Nat) : nI a + Int32.ofInt 1 = nI (a + 1) := by rw [show Int32.ofInt 1 = 1 from rfl]; exact nI_1 a
theorem lv_cons {i : Nat} {v w : Value} {t t' : List (Nat × Value)} (h : v = w) (ht : t = t') : (i, v) :: t = (i, w) :: t' := by rw [h, ht]
theorem ws_cons {q : Nat} {v w : va_E} {t t' : va_W} (h : v = w) (ht : t = t') : (q, v) :: t = (q, w) :: t' := by rw [h, ht]
theorem vI {a b : Int32} (h : a = b) : Value.int a = Value.int b := by rw [h]
theorem vL {a b : Int64} (h : a = b) : Value.long a = Value.long b := by rw [h]
theorem cI_eq {d : KD} {n : Nat} {f h : Nat → Int32} (e : f = h) : cI d n f = cI d n h := by rw [e]
theorem cZ_eq {d : KD} {n : Nat} {f h : Nat → Int32} (e : f = h) : cZ d n f = cZ d n h := by rw [e]
section GH
variable {g : gT} {l : Launch} {R : Room} {cc : ByteArray} {nL : Nat} {own : String} {ini : Bool} {d : KD} {E : Nat → Nat → va_W → Nat → List Value → Prop} {sc : Option (Nat × Nat × (Nat → Int32))}
variable {ck sk : Nat} {ws : va_W} {lv : List (Nat × Value)} {pc : Nat} {st : List Value}
theorem g_eq {ws' : va_W} {lv' : List (Nat × Value)} (hw : ws = ws') (hl : lv = lv') (kk : g ck sk ws' lv' pc st) : g ck sk ws lv pc st := by rw [hw, hl]; exact kk
theorem g_topi {x : Int32} (kk : ∀ y : Int32, y = x → g ck sk ws lv pc (.int y :: st)) : g ck sk ws lv pc (.int x :: st) := kk x rfl
theorem g_tope {x y : Int32} (h : x = y) (kk : g ck sk ws lv pc (.int y :: st)) : g ck sk ws lv pc (.int x :: st) := by rw [h]; exact kk
theorem g_topel {x y : Int64} (h : x = y) (kk : g ck sk ws lv pc (.long y :: st)) : g ck sk ws lv pc (.long x :: st) := by rw [h]; exact kk
theorem g_ifB_eq (X : gx g l R cc nL own ini d E sc) {P : Prop} {off : Int} (tgt : Nat) (hdg : decode cc pc = .ok (.ifCond .eq off, 3)) (ht : (pc : Int) + off = (tgt : Int)) (kt : ¬ P → g ck sk ws lv tgt st) (kf : P → g ck sk ws lv (pc + 3) st) : g ck sk ws lv pc (.int (b2i P) :: st) :=
  g_if_eq X tgt hdg ht (fun h => kt (b2i_0.mp h)) (fun h => kf (Classical.byContradiction fun z => h (b2i_0.mpr z)))
theorem g_ifB_ne (X : gx g l R cc nL own ini d E sc) {P : Prop} {off : Int} (tgt : Nat) (hdg : decode cc pc = .ok (.ifCond .ne off, 3)) (ht : (pc : Int) + off = (tgt : Int)) (kt : P → g ck sk ws lv tgt st) (kf : ¬ P → g ck sk ws lv (pc + 3) st) : g ck sk ws lv pc (.int (b2i P) :: st) :=
  g_if_ne X tgt hdg ht (fun h => kt (Classical.byContradiction fun z => h (b2i_0.mpr z))) (fun h => kf (b2i_0.mp h))
theorem vcell_ext {cA : ClassId} {n : Nat} {f h : Nat → Int32} (e : ∀ j, j < n → f j = h j) : vp_cell cA (n, .inl f) = vp_cell cA (n, .inl h) := by
  show arrV cA n (fun j => .int (f j)) = arrV cA n (fun j => .int (h j))
  unfold arrV
  have : (fun j : Fin n => Value.int (f j.val)) = fun j : Fin n => Value.int (h j.val) := funext fun j => by rw [e j.val j.isLt]
  rw [this]
theorem g_ext (X : gx g l R cc nL own ini d E sc) {a n : Nat} {cA : ClassId} {f h : Nat → Int32} {ws' : va_W} (q0 : Nat) (ha : ws[q0]? = some (a, .inl (cA, n, .inl f))) (e : ∀ j, j < n → f j = h j) (hw : ws.set q0 (a, .inl (cA, n, .inl h)) = ws') (kk : g ck sk ws' lv pc st) : g ck sk ws lv pc st := by
  obtain ⟨p, e1, s, m, args, below, meth, c, Q, A, ⟨hx, hb, hml, hown, hts⟩, ⟨hK, hA, hZ, hin, hsc⟩, hE, rfl⟩ := X
  intro H locs ls hP hD hS hl
  subst hw
  refine kk H locs ls (fun k q hk => ?_) (hD.set ha) hS hl
  rw [List.getElem?_set] at hk
  split at hk
  next hkq =>
    subst hkq
    split at hk
    next => 
      cases hk
      have h1 := hP _ _ ha
      show H[a]? = some (vp_cell cA (n, .inl h))
      rw [← vcell_ext e]
      exact h1
    next => cases hk
  next => exact hP k q hk
theorem g_iaload_N (X : gx g l R cc nL own ini d E sc) {a n k : Nat} {f : Nat → Int32} {i : Int32} (hi : i = nI k) (hdg : decode cc pc = .ok (.iaload, 1)) (q0 : Nat) (ha : ws[q0]? = some (a, cI d n f)) (hv : k < n) (hn : n < 2 ^ 31) (kk : g ck sk ws lv (pc + 1) (.int (f k) :: st)) : g ck sk ws lv pc (.int i :: .ref a :: st) := by
  subst hi
  exact g_iaload X hdg q0 ha (vp_in_nI hv hn) (by rw [nI_clamp (by omega)]; exact kk)
theorem g_zaload_N (X : gx g l R cc nL own ini d E sc) {a n k : Nat} {f : Nat → Int32} {i : Int32} (hi : i = nI k) (hdg : decode cc pc = .ok (.baload, 1)) (q0 : Nat) (ha : ws[q0]? = some (a, cZ d n f)) (hv : k < n) (hn : n < 2 ^ 31) (kk : g ck sk ws lv (pc + 1) (.int (f k) :: st)) : g ck sk ws lv pc (.int i :: .ref a :: st) := by
  subst hi
  exact g_zaload X hdg q0 ha (vp_in_nI hv hn) (by rw [nI_clamp (by omega)]; exact kk)
theorem g_iastore_N (X : gx g l R cc nL own ini d E sc) {a n k : Nat} {f : Nat → Int32} {i x : Int32} {ws' : va_W} (hi : i = nI k) (hdg : decode cc pc = .ok (.iastore, 1)) (q0 : Nat) (ha : ws[q0]? = some (a, cI d n f)) (hv : k < n) (hn : n < 2 ^ 31) (hw : ws.set q0 (a, cI d n (upd f k x)) = ws') (kk : g ck sk ws' lv (pc + 1) st) : g ck sk ws lv pc (.int x :: .int i :: .ref a :: st) := by
  subst hi
  exact g_iastore X hdg q0 ha (vp_in_nI hv hn) (by rw [nI_clamp (by omega)]; exact hw) kk
theorem g_zastore_N (X : gx g l R cc nL own ini d E sc) {a n k : Nat} {f : Nat → Int32} {i x x' : Int32} {ws' : va_W} (hi : i = nI k) (hx : vp_nar .boolean x = x') (hdg : decode cc pc = .ok (.bastore, 1)) (q0 : Nat) (ha : ws[q0]? = some (a, cZ d n f)) (hv : k < n) (hn : n < 2 ^ 31) (hw : ws.set q0 (a, cZ d n (upd f k x')) = ws') (kk : g ck sk ws' lv (pc + 1) st) : g ck sk ws lv pc (.int x :: .int i :: .ref a :: st) := by
  subst hi
  exact g_zastore X hdg q0 ha (vp_in_nI hv hn) (by rw [nI_clamp (by omega), hx]; exact hw) kk
end GH
section GN
variable {g : gT} {l : Launch} {R : Room} {cc : ByteArray} {nL : Nat} {own : String} {ini : Bool} {d : KD} {E : Nat → Nat → va_W → Nat → List Value → Prop} {sc : Option (Nat × Nat × (Nat → Int32))}
variable {ck sk : Nat} {ws : va_W} {lv : List (Nat × Value)} {pc : Nat} {st : List Value}
theorem nI_eqI {a b : Nat} (ha : a < 2 ^ 31) (hb : b < 2 ^ 31) : nI a = nI b ↔ a = b := nI_eq ha hb
theorem g_icmpN_eq (X : gx g l R cc nL own ini d E sc) {x y : Int32} {a b : Nat} {off : Int} (hx : x = nI a) (hy : y = nI b) (ha : a < 2 ^ 31) (hb : b < 2 ^ 31) (tgt : Nat) (hdg : decode cc pc = .ok (.if_icmp .eq off, 3)) (ht : (pc : Int) + off = (tgt : Int)) (kt : a = b → g ck sk ws lv tgt st) (kf : ¬ a = b → g ck sk ws lv (pc + 3) st) : g ck sk ws lv pc (.int y :: .int x :: st) := by
  subst hx; subst hy
  exact g_icmp_eq X tgt hdg ht (fun h => kt ((nI_eqI ha hb).mp h)) (fun h => kf (fun z => h ((nI_eqI ha hb).mpr z)))
theorem g_ifN_eq (X : gx g l R cc nL own ini d E sc) {x : Int32} {a : Nat} {off : Int} (hx : x = nI a) (ha : a < 2 ^ 31) (tgt : Nat) (hdg : decode cc pc = .ok (.ifCond .eq off, 3)) (ht : (pc : Int) + off = (tgt : Int)) (kt : a = 0 → g ck sk ws lv tgt st) (kf : ¬ a = 0 → g ck sk ws lv (pc + 3) st) : g ck sk ws lv pc (.int x :: st) := by
  subst hx
  exact g_if_eq X tgt hdg ht (fun h => kt ((nI_eqI (b := 0) ha (by omega)).mp h)) (fun h => kf (fun z => h ((nI_eqI (b := 0) ha (by omega)).mpr z)))
theorem g_icmpN_ne (X : gx g l R cc nL own ini d E sc) {x y : Int32} {a b : Nat} {off : Int} (hx : x = nI a) (hy : y = nI b) (ha : a < 2 ^ 31) (hb : b < 2 ^ 31) (tgt : Nat) (hdg : decode cc pc = .ok (.if_icmp .ne off, 3)) (ht : (pc : Int) + off = (tgt : Int)) (kt : ¬ a = b → g ck sk ws lv tgt st) (kf : a = b → g ck sk ws lv (pc + 3) st) : g ck sk ws lv pc (.int y :: .int x :: st) := by
  subst hx; subst hy
  exact g_icmp_ne X tgt hdg ht (fun h => kt (fun z => h ((nI_eqI ha hb).mpr z))) (fun h => kf ((nI_eqI ha hb).mp h))
theorem g_ifN_ne (X : gx g l R cc nL own ini d E sc) {x : Int32} {a : Nat} {off : Int} (hx : x = nI a) (ha : a < 2 ^ 31) (tgt : Nat) (hdg : decode cc pc = .ok (.ifCond .ne off, 3)) (ht : (pc : Int) + off = (tgt : Int)) (kt : ¬ a = 0 → g ck sk ws lv tgt st) (kf : a = 0 → g ck sk ws lv (pc + 3) st) : g ck sk ws lv pc (.int x :: st) := by
  subst hx
  exact g_if_ne X tgt hdg ht (fun h => kt (fun z => h ((nI_eqI (b := 0) ha (by omega)).mpr z))) (fun h => kf ((nI_eqI (b := 0) ha (by omega)).mp h))
theorem g_icmpN_lt (X : gx g l R cc nL own ini d E sc) {x y : Int32} {a b : Nat} {off : Int} (hx : x = nI a) (hy : y = nI b) (ha : a < 2 ^ 31) (hb : b < 2 ^ 31) (tgt : Nat) (hdg : decode cc pc = .ok (.if_icmp .lt off, 3)) (ht : (pc : Int) + off = (tgt : Int)) (kt : a < b → g ck sk ws lv tgt st) (kf : ¬ a < b → g ck sk ws lv (pc + 3) st) : g ck sk ws lv pc (.int y :: .int x :: st) := by
  subst hx; subst hy
  exact g_icmp_lt X tgt hdg ht (fun h => kt ((nI_ltI ha hb).mp h)) (fun h => kf (fun z => h ((nI_ltI ha hb).mpr z)))
theorem g_ifN_lt (X : gx g l R cc nL own ini d E sc) {x : Int32} {a : Nat} {off : Int} (hx : x = nI a) (ha : a < 2 ^ 31) (tgt : Nat) (hdg : decode cc pc = .ok (.ifCond .lt off, 3)) (ht : (pc : Int) + off = (tgt : Int)) (kt : a < 0 → g ck sk ws lv tgt st) (kf : ¬ a < 0 → g ck sk ws lv (pc + 3) st) : g ck sk ws lv pc (.int x :: st) := by
  subst hx
  exact g_if_lt X tgt hdg ht (fun h => kt ((nI_ltI (b := 0) ha (by omega)).mp h)) (fun h => kf (fun z => h ((nI_ltI (b := 0) ha (by omega)).mpr z)))
theorem g_icmpN_ge (X : gx g l R cc nL own ini d E sc) {x y : Int32} {a b : Nat} {off : Int} (hx : x = nI a) (hy : y = nI b) (ha : a < 2 ^ 31) (hb : b < 2 ^ 31) (tgt : Nat) (hdg : decode cc pc = .ok (.if_icmp .ge off, 3)) (ht : (pc : Int) + off = (tgt : Int)) (kt : b ≤ a → g ck sk ws lv tgt st) (kf : ¬ b ≤ a → g ck sk ws lv (pc + 3) st) : g ck sk ws lv pc (.int y :: .int x :: st) := by
  subst hx; subst hy
  exact g_icmp_ge X tgt hdg ht (fun h => kt ((nI_leI hb ha).mp h)) (fun h => kf (fun z => h ((nI_leI hb ha).mpr z)))
theorem g_ifN_ge (X : gx g l R cc nL own ini d E sc) {x : Int32} {a : Nat} {off : Int} (hx : x = nI a) (ha : a < 2 ^ 31) (tgt : Nat) (hdg : decode cc pc = .ok (.ifCond .ge off, 3)) (ht : (pc : Int) + off = (tgt : Int)) (kt : 0 ≤ a → g ck sk ws lv tgt st) (kf : ¬ 0 ≤ a → g ck sk ws lv (pc + 3) st) : g ck sk ws lv pc (.int x :: st) := by
  subst hx
  exact g_if_ge X tgt hdg ht (fun h => kt ((nI_leI (a := 0) (by omega) ha).mp h)) (fun h => kf (fun z => h ((nI_leI (a := 0) (by omega) ha).mpr z)))
theorem g_icmpN_gt (X : gx g l R cc nL own ini d E sc) {x y : Int32} {a b : Nat} {off : Int} (hx : x = nI a) (hy : y = nI b) (ha : a < 2 ^ 31) (hb : b < 2 ^ 31) (tgt : Nat) (hdg : decode cc pc = .ok (.if_icmp .gt off, 3)) (ht : (pc : Int) + off = (tgt : Int)) (kt : b < a → g ck sk ws lv tgt st) (kf : ¬ b < a → g ck sk ws lv (pc + 3) st) : g ck sk ws lv pc (.int y :: .int x :: st) := by
  subst hx; subst hy
  exact g_icmp_gt X tgt hdg ht (fun h => kt ((nI_ltI hb ha).mp h)) (fun h => kf (fun z => h ((nI_ltI hb ha).mpr z)))
theorem g_ifN_gt (X : gx g l R cc nL own ini d E sc) {x : Int32} {a : Nat} {off : Int} (hx : x = nI a) (ha : a < 2 ^ 31) (tgt : Nat) (hdg : decode cc pc = .ok (.ifCond .gt off, 3)) (ht : (pc : Int) + off = (tgt : Int)) (kt : 0 < a → g ck sk ws lv tgt st) (kf : ¬ 0 < a → g ck sk ws lv (pc + 3) st) : g ck sk ws lv pc (.int x :: st) := by
  subst hx
  exact g_if_gt X tgt hdg ht (fun h => kt ((nI_ltI (a := 0) (by omega) ha).mp h)) (fun h => kf (fun z => h ((nI_ltI (a := 0) (by omega) ha).mpr z)))
theorem g_icmpN_le (X : gx g l R cc nL own ini d E sc) {x y : Int32} {a b : Nat} {off : Int} (hx : x = nI a) (hy : y = nI b) (ha : a < 2 ^ 31) (hb : b < 2 ^ 31) (tgt : Nat) (hdg : decode cc pc = .ok (.if_icmp .le off, 3)) (ht : (pc : Int) + off = (tgt : Int)) (kt : a ≤ b → g ck sk ws lv tgt st) (kf : ¬ a ≤ b → g ck sk ws lv (pc + 3) st) : g ck sk ws lv pc (.int y :: .int x :: st) := by
  subst hx; subst hy
  exact g_icmp_le X tgt hdg ht (fun h => kt ((nI_leI ha hb).mp h)) (fun h => kf (fun z => h ((nI_leI ha hb).mpr z)))
theorem g_ifN_le (X : gx g l R cc nL own ini d E sc) {x : Int32} {a : Nat} {off : Int} (hx : x = nI a) (ha : a < 2 ^ 31) (tgt : Nat) (hdg : decode cc pc = .ok (.ifCond .le off, 3)) (ht : (pc : Int) + off = (tgt : Int)) (kt : a ≤ 0 → g ck sk ws lv tgt st) (kf : ¬ a ≤ 0 → g ck sk ws lv (pc + 3) st) : g ck sk ws lv pc (.int x :: st) := by
  subst hx
  exact g_if_le X tgt hdg ht (fun h => kt ((nI_leI (b := 0) ha (by omega)).mp h)) (fun h => kf (fun z => h ((nI_leI (b := 0) ha (by omega)).mpr z)))
theorem g_iushr (X : gx g l R cc nL own ini d E sc) {x y : Int32} (hdg : decode cc pc = .ok (.iushr, 1)) (kk : g ck sk ws lv (pc + 1) (.int (x.toUInt32 >>> (y.toUInt32 &&& Int32.toUInt32 31)).toInt32 :: st)) : g ck sk ws lv pc (.int y :: .int x :: st) := by
  obtain ⟨p, e, s, m, args, below, meth, c, Q, A, ⟨hx, hb, hml, hown, hts⟩, ⟨hK, hA, hZ, hin, hsc⟩, hE, rfl⟩ := X
  intro H locs ls hP hD hS hl
  exact lv_iushr hx hb hdg rfl (kk H locs ls hP hD hS hl)
theorem g_ldcw (X : gx g l R cc nL own ini d E sc) {index : Nat} {v : Int32} (hw : Cond.constant own index v ∈ TT) (hdg : decode cc pc = .ok (.ldc_w index, 3)) (kk : g ck sk ws lv (pc + 3) (.int v :: st)) : g ck sk ws lv pc st := by
  obtain ⟨p, e, s, m, args, below, meth, c, Q, A, ⟨hx, hb, hml, hown, hts⟩, ⟨hK, hA, hZ, hin, hsc⟩, hE, rfl⟩ := X
  intro H locs ls hP hD hS hl
  exact lv_ldcw hx hb hown (hts _ hw) hdg (kk H locs ls hP hD hS hl)
end GN
