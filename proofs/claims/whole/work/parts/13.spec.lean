/-! the words of the spec: squares, kinds, ways, days (own definitions, in the class's and the reference's common terms) -/
theorem nI_mulN (a b : Nat) : nI a * nI b = nI (a * b) := pk_mul a b
theorem nI_div {a d : Nat} (ha : a < 2 ^ 31) (h0 : 0 < d) (hd : d < 2 ^ 31) : nI a / nI d = nI (a / d) := pk_div ha h0 hd
theorem nI_rem {a d : Nat} (ha : a < 2 ^ 31) (h0 : 0 < d) (hd : d < 2 ^ 31) : nI a - nI a / nI d * nI d = nI (a % d) := pk_rem ha h0 hd
theorem lcons {a b : Value} {t t' : List Value} (h : a = b) (ht : t = t') : a :: t = b :: t' := by rw [h, ht]
/-- the neighbour by a way; 99: none -/
def nb (q w : Nat) : Nat := if w = 0 then (if q < 6 then 99 else q - 6) else if w = 1 then (if q % 6 = 0 then 99 else q - 1) else if w = 2 then (if q % 6 = 5 then 99 else q + 1) else if w = 3 then (if 29 < q then 99 else q + 6) else 99
def besI (n : Nat) : Int32 := if n < 36 then nI n else -1
def besM (n : Nat) : Int32 := if n < 36 then nI n else -9
/-- one can sail a kind by a draught -/
abbrev csl (k dr : Int32) : Prop := k ≠ 1 ∧ (k ≠ 2 ∨ dr ≤ 3)
/-- the days of a step onto a kind by a way -/
def cst (k : Int32) (w : Nat) : Nat := if k = 2 then 3 else if k = 3 then 2 else if k = 4 then (if w = 0 then 3 else 1) else 1
abbrev kd (x : Int32) : Prop := 0 ≤ x ∧ x < 6
def kAt (K : Nat → Int32) (x : Int32) : Int32 := if sq x then K x.toNatClampNeg else 0
abbrev cbe (K S : Nat → Int32) (x : Int32) : Prop := sq x ∧ csl (K x.toNatClampNeg) (S 1)
/-- the days of a step from a square by a way; -9 -/
def stp (K S : Nat → Int32) (q w : Nat) : Int32 := if nb q w < 36 ∧ csl (K (nb q w)) (S 1) then nI (cst (K (nb q w)) w) else -9
theorem kAt_N {K : Nat → Int32} {j : Nat} (h : j < 36) : kAt K (nI j) = K j := by unfold kAt; rw [if_pos (nI_sq h), nI_clamp (by omega)]
theorem cbe_N {K S : Nat → Int32} {j : Nat} (h : j < 36) : cbe K S (nI j) ↔ csl (K j) (S 1) := by
  unfold cbe; rw [nI_clamp (by omega)]; exact ⟨fun z => z.2, fun z => ⟨nI_sq h, z⟩⟩
theorem not_sq_m1 : ¬ sq (-1) := by decide
theorem kAt_b {K : Nat → Int32} {n : Nat} : kAt K (besI n) = if n < 36 then K n else 0 := by
  unfold besI
  split
  · exact kAt_N (by assumption)
  · unfold kAt; exact if_neg not_sq_m1
theorem nb_w {q w : Nat} (h : 4 ≤ w) : nb q w = 99 := by unfold nb; rw [if_neg (by omega), if_neg (by omega), if_neg (by omega), if_neg (by omega)]
theorem nb_0 : ∀ q, q < 36 → (6 ≤ q → nI q - 6 = besI (nb q 0)) ∧ (¬ 6 ≤ q → -1 = besI (nb q 0)) := by decide +kernel
theorem nb_1 : ∀ q, q < 36 → (¬ q % 6 ≤ 0 → nI q - 1 = besI (nb q 1)) ∧ (q % 6 ≤ 0 → -1 = besI (nb q 1)) := by decide +kernel
theorem nb_2 : ∀ q, q < 36 → (¬ 5 ≤ q % 6 → nI (q + 1) = besI (nb q 2)) ∧ (5 ≤ q % 6 → -1 = besI (nb q 2)) := by decide +kernel
theorem nb_3 : ∀ q, q < 36 → (¬ 30 ≤ q → nI (q + 6) = besI (nb q 3)) ∧ (30 ≤ q → -1 = besI (nb q 3)) := by decide +kernel
/-- counts and sums over the squares below n -/
def cnt (p : Nat → Prop) [DecidablePred p] : Nat → Nat
  | 0 => 0
  | n + 1 => cnt p n + if p n then 1 else 0
def smI (f : Nat → Int32) : Nat → Int32
  | 0 => 0
  | n + 1 => smI f n + f n
theorem cnt_le (p : Nat → Prop) [DecidablePred p] : ∀ n, cnt p n ≤ n
  | 0 => Nat.le_refl 0
  | n + 1 => by have h := cnt_le p n; unfold cnt; split <;> omega
theorem cnt_t {p : Nat → Prop} [DecidablePred p] {n : Nat} (h : p n) : cnt p (n + 1) = cnt p n + 1 := by show cnt p n + _ = _; rw [if_pos h]
theorem cnt_f {p : Nat → Prop} [DecidablePred p] {n : Nat} (h : ¬ p n) : cnt p (n + 1) = cnt p n := by show cnt p n + _ = _; rw [if_neg h]; rfl
theorem stp_t {K S : Nat → Int32} {q w : Nat} (h : nb q w < 36) (h2 : csl (K (nb q w)) (S 1)) : stp K S q w = nI (cst (K (nb q w)) w) := by unfold stp; exact if_pos ⟨h, h2⟩
theorem stp_f {K S : Nat → Int32} {q w : Nat} (h : ¬ (nb q w < 36 ∧ csl (K (nb q w)) (S 1))) : stp K S q w = -9 := by unfold stp; exact if_neg h
theorem cst_2 {k : Int32} {w : Nat} (h : k = 2) : nI (cst k w) = 3 := by subst h; rfl
theorem cst_3 {k : Int32} {w : Nat} (h : k = 3) : nI (cst k w) = 2 := by subst h; rfl
theorem cst_40 {k : Int32} {w : Nat} (h : k = 4) (hw : w = 0) : nI (cst k w) = 3 := by subst h; subst hw; rfl
theorem cst_41 {k : Int32} {w : Nat} (h : k = 4) (hw : ¬ w = 0) : nI (cst k w) = 1 := by subst h; unfold cst; rw [if_neg (by decide), if_neg (by decide), if_pos rfl, if_neg hw]; rfl
theorem cst_o {k : Int32} {w : Nat} (h2 : ¬ k = 2) (h3 : ¬ k = 3) (h4 : ¬ k = 4) : nI (cst k w) = 1 := by unfold cst; rw [if_neg h2, if_neg h3, if_neg h4]; rfl
theorem cnt_T {p : Nat → Prop} [DecidablePred p] {n : Nat} (h : p n) : nI (cnt p n + 1) = nI (cnt p (n + 1)) := by rw [cnt_t h]
theorem cnt_F {p : Nat → Prop} [DecidablePred p] {n : Nat} (h : ¬ p n) : nI (cnt p n) = nI (cnt p (n + 1)) := by rw [cnt_f h]
def ab (x : Int32) : Int32 := if 0 ≤ x then x else 0 - x
def mx (x y : Int32) : Int32 := if x < y then y else x
def mn (x y : Int32) : Int32 := if y < x then y else x
/-- rows of numbers, of truth values, of days (1000000: none) -/
abbrev nF (G : Nat → Nat) : Nat → Int32 := fun q => nI (G q)
noncomputable abbrev zF (Z : Nat → Bool) : Nat → Int32 := fun q => b2i (Z q = true)
def dI (n : Nat) : Int32 := if n < 1000000 then nI n else -9
abbrev dF (G : Nat → Nat) : Nat → Int32 := fun q => dI (G q)
theorem cpy36 {f g : Nat → Int32} {n : Nat} {m : Int32} (hm : m.toNatClampNeg = n) : ∀ j, j < n → va_cpy f g (0 : Int32).toNatClampNeg (0 : Int32).toNatClampNeg m.toNatClampNeg j = f j := by
  intro j hj
  rw [hm, show (0 : Int32).toNatClampNeg = 0 from rfl, pk_cpy_in (Nat.zero_le j) (by omega)]
  congr 1
  omega
/-- the steps from a square to a port, the least over the ports below n; -9 -/
def sts (p q : Nat) : Int32 := ab (nI (p / 6) - nI (q / 6)) + ab (nI (p % 6) - nI (q % 6))
def ptF (K : Nat → Int32) (j : Nat) : Nat → Int32
  | 0 => -9
  | n + 1 => if K n = 5 then (if ptF K j n = -9 ∨ sts n j < ptF K j n then sts n j else ptF K j n) else ptF K j n
theorem ptF_n {K : Nat → Int32} {j n : Nat} (h : ¬ K n = 5) : ptF K j n = ptF K j (n + 1) := by show _ = ite _ _ _; rw [if_neg h]
theorem ptF_s {K : Nat → Int32} {j n : Nat} (h : K n = 5) (h2 : ptF K j n = -9 ∨ sts n j < ptF K j n) : sts n j = ptF K j (n + 1) := by show _ = ite _ _ _; rw [if_pos h, if_pos h2]
theorem ptF_k {K : Nat → Int32} {j n : Nat} (h : K n = 5) (h2 : ¬ ptF K j n = -9) (h3 : sts n j ≥ ptF K j n) : ptF K j n = ptF K j (n + 1) := by
  show _ = ite _ _ _
  rw [if_pos h, if_neg (fun z => z.elim h2 (fun q => absurd h3 (Int32.not_le.mpr q)))]
/-- the square on which a draw falls -/
def sdF (L : Nat → Int32) : Nat → Nat → Int32 → Int32
  | 0, _, _ => -1
  | f + 1, i, r => if r - L i < 0 then nI i else sdF L f (i + 1) (r - L i)
theorem sdF_s {L : Nat → Int32} {i : Nat} {r : Int32} (hi : i < 36) : sdF L (36 - i) i r = if r - L i < 0 then nI i else sdF L (36 - (i + 1)) (i + 1) (r - L i) := by
  rw [show 36 - i = (36 - (i + 1)) + 1 by omega]; rfl
/-- beside a square lies one that can not be sailed -/
abbrev bw (K S : Nat → Int32) (j w : Nat) : Prop := nb j w < 36 ∧ ¬ csl (K (nb j w)) (S 1)
abbrev bwx (K S : Nat → Int32) (j : Nat) : Prop := ∃ w, w < 4 ∧ bw K S j w
theorem cbe_b {K S : Nat → Int32} {n : Nat} : cbe K S (besI n) ↔ (n < 36 ∧ csl (K n) (S 1)) := by
  unfold besI
  split
  · next h => rw [cbe_N h]; exact ⟨fun z => ⟨h, z⟩, fun z => z.2⟩
  · next h => exact ⟨fun z => absurd z.1 not_sq_m1, fun z => absurd z.1 h⟩
theorem csl_sand {k dr : Int32} (h : ¬ csl k dr) : k = 1 ∨ k = 2 := by
  by_cases h1 : k = 1
  · exact Or.inl h1
  · by_cases h2 : k = 2
    · exact Or.inr h2
    · exact absurd ⟨h1, Or.inl h2⟩ h
theorem sdF_b {L : Nat → Int32} {i : Nat} {r : Int32} (hi : i < 36) (h : 0 ≤ r - L i) : sdF L (36 - (i + 1)) (i + 1) (r - L i) = sdF L (36 - i) i r := by rw [sdF_s hi, if_neg (Int32.not_lt.mpr h)]
theorem fill_s {F : Nat → Int32} {v : Int32} {i : Nat} : upd (fun k => if k < i then v else F k) i v = fun k => if k < i + 1 then v else F k := by
  funext k; unfold upd
  by_cases e : k = i
  · subst e; rw [if_pos rfl, if_pos (Nat.lt_succ_self k)]
  · rw [if_neg e]
    show (if k < i then v else F k) = _
    by_cases h : k < i
    · rw [if_pos h, if_pos (by omega)]
    · rw [if_neg h, if_neg (by omega)]
