/-! the words of the spec: squares, kinds, ways, days (own definitions, in the class's and the reference's common terms) -/
theorem nI_mulN (a b : Nat) : nI a * nI b = nI (a * b) := pk_mul a b
theorem nI_div {a d : Nat} (ha : a < 2 ^ 31) (h0 : 0 < d) (hd : d < 2 ^ 31) : nI a / nI d = nI (a / d) := pk_div ha h0 hd
theorem nI_rem {a d : Nat} (ha : a < 2 ^ 31) (h0 : 0 < d) (hd : d < 2 ^ 31) : nI a - nI a / nI d * nI d = nI (a % d) := pk_rem ha h0 hd
theorem lcons {a b : Value} {t t' : List Value} (h : a = b) (ht : t = t') : a :: t = b :: t' := by rw [h, ht]
/-- the neighbour by a way; 99: none -/
def nb (q w : Nat) : Nat := if w = 0 then (if q < 6 then 99 else q - 6) else if w = 1 then (if q % 6 = 0 then 99 else q - 1) else if w = 2 then (if q % 6 = 5 then 99 else q + 1) else if w = 3 then (if 29 < q then 99 else q + 6) else 99
def besI (n : Nat) : Int32 := if n < 36 then nI n else -1
def besM (n : Nat) : Int32 := if n < 36 then nI n else -9
/-- one can sail a kind by a draught -/
abbrev csl (k dr : Int32) : Prop := k ≠ 1 ∧ (k ≠ 2 ∨ dr ≤ 3)
/-- the days of a step onto a kind by a way -/
def cst (k : Int32) (w : Nat) : Nat := if k = 2 then 3 else if k = 3 then 2 else if k = 4 then (if w = 0 then 3 else 1) else 1
abbrev kd (x : Int32) : Prop := 0 ≤ x ∧ x < 6
def kAt (K : Nat → Int32) (x : Int32) : Int32 := if sq x then K x.toNatClampNeg else 0
def cbe (K S : Nat → Int32) (x : Int32) : Prop := sq x ∧ csl (K x.toNatClampNeg) (S 1)
/-- the days of a step from a square by a way; -9 -/
def stp (K S : Nat → Int32) (q w : Nat) : Int32 := if nb q w < 36 ∧ csl (K (nb q w)) (S 1) then nI (cst (K (nb q w)) w) else -9
theorem kAt_N {K : Nat → Int32} {j : Nat} (h : j < 36) : kAt K (nI j) = K j := by unfold kAt; rw [if_pos (nI_sq h), nI_clamp (by omega)]
theorem cbe_N {K S : Nat → Int32} {j : Nat} (h : j < 36) : cbe K S (nI j) ↔ csl (K j) (S 1) := by
  unfold cbe; rw [nI_clamp (by omega)]; exact ⟨fun z => z.2, fun z => ⟨nI_sq h, z⟩⟩
theorem not_sq_m1 : ¬ sq (-1) := by decide
theorem kAt_b {K : Nat → Int32} {n : Nat} : kAt K (besI n) = if n < 36 then K n else 0 := by
  unfold besI
  split
  · exact kAt_N (by assumption)
  · unfold kAt; exact if_neg not_sq_m1
theorem nb_w {q w : Nat} (h : 4 ≤ w) : nb q w = 99 := by unfold nb; rw [if_neg (by omega), if_neg (by omega), if_neg (by omega), if_neg (by omega)]
theorem nb_0 : ∀ q, q < 36 → (6 ≤ q → nI q - 6 = besI (nb q 0)) ∧ (¬ 6 ≤ q → -1 = besI (nb q 0)) := by decide +kernel
theorem nb_1 : ∀ q, q < 36 → (¬ q % 6 ≤ 0 → nI q - 1 = besI (nb q 1)) ∧ (q % 6 ≤ 0 → -1 = besI (nb q 1)) := by decide +kernel
theorem nb_2 : ∀ q, q < 36 → (¬ 5 ≤ q % 6 → nI (q + 1) = besI (nb q 2)) ∧ (5 ≤ q % 6 → -1 = besI (nb q 2)) := by decide +kernel
theorem nb_3 : ∀ q, q < 36 → (¬ 30 ≤ q → nI (q + 6) = besI (nb q 3)) ∧ (30 ≤ q → -1 = besI (nb q 3)) := by decide +kernel
/-- counts and sums over the squares below n -/
def cnt (p : Nat → Prop) [DecidablePred p] : Nat → Nat
  | 0 => 0
  | n + 1 => cnt p n + if p n then 1 else 0
def smI (f : Nat → Int32) : Nat → Int32
  | 0 => 0
  | n + 1 => smI f n + f n
theorem cnt_le (p : Nat → Prop) [DecidablePred p] : ∀ n, cnt p n ≤ n
  | 0 => Nat.le_refl 0
  | n + 1 => by have h := cnt_le p n; unfold cnt; split <;> omega
theorem cnt_t {p : Nat → Prop} [DecidablePred p] {n : Nat} (h : p n) : cnt p (n + 1) = cnt p n + 1 := by show cnt p n + _ = _; rw [if_pos h]
theorem cnt_f {p : Nat → Prop} [DecidablePred p] {n : Nat} (h : ¬ p n) : cnt p (n + 1) = cnt p n := by show cnt p n + _ = _; rw [if_neg h]; rfl
theorem stp_t {K S : Nat → Int32} {q w : Nat} (h : nb q w < 36) (h2 : csl (K (nb q w)) (S 1)) : stp K S q w = nI (cst (K (nb q w)) w) := by unfold stp; exact if_pos ⟨h, h2⟩
theorem stp_f {K S : Nat → Int32} {q w : Nat} (h : ¬ (nb q w < 36 ∧ csl (K (nb q w)) (S 1))) : stp K S q w = -9 := by unfold stp; exact if_neg h
theorem cst_2 {k : Int32} {w : Nat} (h : k = 2) : nI (cst k w) = 3 := by subst h; rfl
theorem cst_3 {k : Int32} {w : Nat} (h : k = 3) : nI (cst k w) = 2 := by subst h; rfl
theorem cst_40 {k : Int32} {w : Nat} (h : k = 4) (hw : w = 0) : nI (cst k w) = 3 := by subst h; subst hw; rfl
theorem cst_41 {k : Int32} {w : Nat} (h : k = 4) (hw : ¬ w = 0) : nI (cst k w) = 1 := by subst h; unfold cst; rw [if_neg (by decide), if_neg (by decide), if_pos rfl, if_neg hw]; rfl
theorem cst_o {k : Int32} {w : Nat} (h2 : ¬ k = 2) (h3 : ¬ k = 3) (h4 : ¬ k = 4) : nI (cst k w) = 1 := by unfold cst; rw [if_neg h2, if_neg h3, if_neg h4]; rfl
theorem cnt_T {p : Nat → Prop} [DecidablePred p] {n : Nat} (h : p n) : nI (cnt p n + 1) = nI (cnt p (n + 1)) := by rw [cnt_t h]
theorem cnt_F {p : Nat → Prop} [DecidablePred p] {n : Nat} (h : ¬ p n) : nI (cnt p n) = nI (cnt p (n + 1)) := by rw [cnt_f h]
