/-! texts: String constants, letters, forms -/
section GF
variable {g : gT} {l : Launch} {R : Room} {cc : ByteArray} {nL : Nat} {own : String} {ini : Bool} {d : KD} {E : Nat → Nat → va_W → Nat → List Value → Prop} {sc : Option (Nat × Nat × (Nat → Int32))}
variable {ck sk : Nat} {ws : va_W} {lv : List (Nat × Value)} {pc : Nat} {st : List Value}
theorem g_getsF (X : gx g l R cc nL own ini d E sc) {index : Nat} (hlink : Cond.fieldLink own index "jdk/internal/util/Preconditions" "SIOOBE_FORMATTER" "Ljava/util/function/BiFunction;" ∈ TT) (hdg : decode cc pc = .ok (.getstatic index, 3)) (kk : ∀ v : Value, (v = .null ∨ ∃ a, v = .ref a) → g ck sk ws lv (pc + 3) (v :: st)) : g ck sk ws lv pc st := by
  obtain ⟨p, e, s, m, args, below, meth, c, Q, A, ⟨hx, hb, hml, hown, hts⟩, ⟨hK, hA, hZ, hin, hsc⟩, hE, rfl⟩ := X
  intro H locs ls hP hD hS hl
  obtain ⟨v, hv, hz⟩ := hZ.2.2.2.1
  exact va_gets hx hb hz hS hown (hts _ hlink) (fun _ h9 => h9) hdg (kk v hv H locs ls hP hD hS hl)
end GF
theorem strL_le (i : Nat) : strL.getD i 0 ≤ 6 := by
  rcases Nat.lt_or_ge i 9 with h | h
  · exact (by decide +kernel : ∀ i, i < 9 → strL.getD i 0 ≤ 6) i h
  · have e : strL.getD i 0 = 0 := by
      rw [List.getD_eq_getElem?_getD, List.getElem?_eq_none (show strL.length ≤ i from h)]; rfl
    rw [e]; exact Nat.zero_le _
def stc (i k : Nat) : Int32 := (strB.getD i []).getD k 0
theorem stc_ok : ∀ i, i < 9 → ∀ k, k < 7 → ((stc i k &&& 255).toUInt32 % 65536).toInt32 = stc i k := by decide +kernel
theorem stc_nar : ∀ i, i < 9 → ∀ k, k < 7 → narrow .char (.int (stc i k)) = .int (stc i k) := by decide +kernel
theorem mn_self (x : Int32) : mn x x = x := ite_self x
theorem shr_0 {n : Nat} (h : n < 2 ^ 31) : nI n >>> ((0 : Int32) &&& 31) = nI n := by
  rw [pk_shrN h _ 0 (by decide)]; rw [Nat.pow_zero, Nat.div_one]
/-- indexOf: the first place of a character c below 256; -1 -/
def ixF (i c : Nat) : Nat → Nat → Int32
  | 0, _ => -1
  | f + 1, j => if stc i j = (nI c).toInt8.toInt32 then nI j else ixF i c f (j + 1)
theorem ixF_y {i c n j : Nat} (hj : j < n) (h : stc i j = (nI c).toInt8.toInt32) : ixF i c (n - j) j = nI j := by
  rw [show n - j = (n - (j + 1)) + 1 by omega]; exact if_pos h
theorem ixF_n {i c n j : Nat} (hj : j < n) (h : ¬ stc i j = (nI c).toInt8.toInt32) : ixF i c (n - (j + 1)) (j + 1) = ixF i c (n - j) j := by
  rw [show n - j = (n - (j + 1)) + 1 by omega]; exact (if_neg h).symm
def ixo (i c : Nat) : Int32 := ixF i c (strL.getD i 0) 0
theorem i2c_n {n : Nat} (h : n < 65536) : ((nI n).toUInt32 % 65536).toInt32 = nI n := by
  rw [pk_char, pk_tn (by omega), Nat.mod_eq_of_lt h]
/-- the letter at a place; -1 -/
def ltA (A : Nat → Nat) (tn p : Nat) : Int32 := if p < tn then nI (A p) else -1
theorem ltA_lt {A : Nat → Nat} {tn p : Nat} (hA : ∀ q, A q < 256) : ltA A tn p < 256 := by
  unfold ltA
  split
  · rw [show (256 : Int32) = nI 256 from rfl]; exact nI_lt (hA p) (by omega)
  · decide
/-- what follows a statement's first letter: the number of the String constant -/
def fbi (x : Int32) : Nat := if x = 107 then 0 else if x = 118 then 1 else if x = 108 then 2 else if x = 104 ∨ x = 100 then 3 else if x = 99 then 4 else if x = 115 then 5 else 6
theorem fbi_le (x : Int32) : fbi x < 9 := by unfold fbi; grind
theorem fbi_6 {x : Int32} (h : ¬ x.toInt = 99 ∧ ¬ x.toInt = 100 ∧ ¬ x.toInt = 104 ∧ ¬ x.toInt = 107 ∧ ¬ x.toInt = 108 ∧ ¬ x.toInt = 115 ∧ ¬ x.toInt = 118) : 6 = fbi x := by
  have n : ∀ k : Int32, ¬ x.toInt = k.toInt → ¬ x = k := fun k hk e => hk (by rw [e])
  have a1 := n 99 h.1
  have a2 := n 100 h.2.1
  have a3 := n 104 h.2.2.1
  have a4 := n 107 h.2.2.2.1
  have a5 := n 108 h.2.2.2.2.1
  have a6 := n 115 h.2.2.2.2.2.1
  have a7 := n 118 h.2.2.2.2.2.2
  unfold fbi
  rw [if_neg a4, if_neg a7, if_neg a5, if_neg (fun z => z.elim a3 a2), if_neg a1, if_neg a6]
/-- a letter suits a place of a form -/
abbrev sut (f y : Int32) : Prop := 0 ≤ y ∧ (if f = 75 then 0 ≤ ixo 7 (ix y) else if f = 83 then 0 ≤ ixo 8 (ix y) else if f = 48 then 48 ≤ y ∧ y ≤ 57 else y = f)
/-- the first place of a form that the letters do not suit -/
def ifF (A : Nat → Nat) (tn f p : Nat) : Nat → Nat → Option Nat
  | 0, _ => none
  | k + 1, i => if sut (stc f i) (ltA A tn (p + i)) then ifF A tn f p k (i + 1) else some (p + i)
def ifS (A : Nat → Nat) (tn f p : Nat) : Option Nat := ifF A tn f p (strL.getD f 0) 0
theorem ifF_y {A : Nat → Nat} {tn f p n i : Nat} (hi : i < n) (h : sut (stc f i) (ltA A tn (p + i))) : ifF A tn f p (n - (i + 1)) (i + 1) = ifF A tn f p (n - i) i := by
  rw [show n - i = (n - (i + 1)) + 1 by omega]; exact (if_pos h).symm
theorem ifF_n {A : Nat → Nat} {tn f p n i : Nat} (hi : i < n) (h : ¬ sut (stc f i) (ltA A tn (p + i))) : ifF A tn f p (n - i) i = some (p + i) := by
  rw [show n - i = (n - (i + 1)) + 1 by omega]; exact if_neg h
/-- the FAULT of kind 1: its place, if any -/
def fofF (A : Nat → Nat) (tn : Nat) : Nat → Nat → Option Nat
  | 0, _ => none
  | k + 1, p => if fbi (ltA A tn p) = 6 then some p else
      match ifS A tn (fbi (ltA A tn p)) (p + 1) with
      | some q => some q
      | none => if p + 1 + strL.getD (fbi (ltA A tn p)) 0 < tn then fofF A tn k (p + 1 + strL.getD (fbi (ltA A tn p)) 0) else none
def fofI (v : Option Nat) : Int32 := match v with
  | some p => -1000 - nI p
  | none => 0
theorem fofF_6 {A : Nat → Nat} {tn k p : Nat} (h : fbi (ltA A tn p) = 6) : fofF A tn (k + 1) p = some p := if_pos h
theorem fofF_s {A : Nat → Nat} {tn k p q : Nat} (h : ¬ fbi (ltA A tn p) = 6) (h2 : ifS A tn (fbi (ltA A tn p)) (p + 1) = some q) : fofF A tn (k + 1) p = some q := by
  unfold fofF; rw [if_neg h, h2]
theorem fofF_e {A : Nat → Nat} {tn k p : Nat} (h : ¬ fbi (ltA A tn p) = 6) (h2 : ifS A tn (fbi (ltA A tn p)) (p + 1) = none) (h3 : ¬ p + 1 + strL.getD (fbi (ltA A tn p)) 0 < tn) : fofF A tn (k + 1) p = none := by
  unfold fofF; rw [if_neg h, h2]; exact if_neg h3
theorem fofF_g {A : Nat → Nat} {tn k p : Nat} (h : ¬ fbi (ltA A tn p) = 6) (h2 : ifS A tn (fbi (ltA A tn p)) (p + 1) = none) (h3 : p + 1 + strL.getD (fbi (ltA A tn p)) 0 < tn) : fofF A tn (k + 1) p = fofF A tn k (p + 1 + strL.getD (fbi (ltA A tn p)) 0) := by
  conv => lhs; unfold fofF
  rw [if_neg h, h2]; exact if_pos h3
theorem strL_0 : ∀ i, i < 9 → (strL.getD i 0 = 0 ↔ i = 6) := by decide +kernel
def fof (A : Nat → Nat) (tn : Nat) : Int32 := fofI (fofF A tn 97 0)
