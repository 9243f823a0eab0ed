/-! signs and searches: what the class reckons of them, as functions -/
theorem kd_nat {x : Int32} (h : kd x) : ∃ j : Nat, j < 6 ∧ x = nI j := vp_in_of (vp_in_of2 (by omega) h.1 h.2) (by omega)
theorem nI_kd {j : Nat} (h : j < 6) : kd (nI j) := ⟨nI_pos' (by omega), by rw [show (6 : Int32) = nI 6 from rfl]; exact nI_lt h (by omega)⟩
/-- a sign of kind k and number n is true of q, by the true numbers T -/
abbrev tru (T : Nat → Nat → Int32) (k : Nat) (n : Int32) (q : Nat) : Prop := ¬ T k q = -9 ∧ (if k = 1 then T k q ≤ n else T k q = n)
abbrev sF (T : Nat → Nat → Int32) : Nat → Int32 := fun x => T (x / 36) (x % 36)
theorem sF_at {T : Nat → Nat → Int32} {k q : Nat} (h : q < 36) : sF T (k * 36 + q) = T k q := by
  show T ((k * 36 + q) / 36) ((k * 36 + q) % 36) = T k q
  rw [show (k * 36 + q) / 36 = k by omega, show (k * 36 + q) % 36 = q by omega]
/-- the true numbers of the signs -/
def sg (K : Nat → Int32) (D : Nat → Nat) (k q : Nat) : Int32 := if k = 0 then dI (D q) else if k = 1 then dI (D q) else if k = 2 then nI (q / 6) else if k = 3 then nI (q % 6) else if k = 4 then nI (cnt (fun w => nb q w < 36 ∧ (K (nb q w) = 1 ∨ K (nb q w) = 2)) 4) else ptF K q 36
def rdF (M : Nat → Int32) (T : Nat → Nat → Int32) (i m : Nat) : Nat → Int32 := fun x => if x % 36 < i ∨ (x % 36 = i ∧ x / 36 < m) then T (x / 36) (x % 36) else M x
theorem rdF_s {M : Nat → Int32} {T : Nat → Nat → Int32} {i m : Nat} {v : Int32} (hi : i < 36) (hv : T m i = v) : upd (rdF M T i m) (m * 36 + i) v = rdF M T i (m + 1) := by
  subst hv
  funext x
  show (if x = m * 36 + i then T m i else rdF M T i m x) = rdF M T i (m + 1) x
  by_cases e : x = m * 36 + i
  · rw [if_pos e]
    unfold rdF
    rw [if_pos (Or.inr ⟨by omega, by omega⟩), show x / 36 = m by omega, show x % 36 = i by omega]
  · rw [if_neg e]
    unfold rdF
    by_cases c : x % 36 < i ∨ (x % 36 = i ∧ x / 36 < m)
    · rw [if_pos c, if_pos (by omega)]
    · rw [if_neg c, if_neg (by omega)]
theorem rdF_n {M : Nat → Int32} {T : Nat → Nat → Int32} {i : Nat} : ∀ x, x < 216 → rdF M T i 6 x = rdF M T (i + 1) 0 x := by
  intro x hx
  unfold rdF
  by_cases c : x % 36 < i + 1
  · rw [if_pos (by omega), if_pos (Or.inl c)]
  · rw [if_neg (by omega), if_neg (by omega)]
theorem rdF_e {M : Nat → Int32} {T : Nat → Nat → Int32} : ∀ x, x < 216 → rdF M T 36 0 x = sF T x := by
  intro x hx
  unfold rdF
  rw [if_pos (Or.inl (by omega))]
theorem rdF_0 {M : Nat → Int32} {T : Nat → Nat → Int32} : rdF M T 0 0 = M := by
  funext x; unfold rdF; rw [if_neg (by omega)]
/-- how many are left by a sign, their weight -/
def lbs (T : Nat → Nat → Int32) (L : Nat → Int32) (k : Nat) (n : Int32) : Nat := cnt (fun q => 0 < L q ∧ tru T k n q) 36
def wbF (T : Nat → Nat → Int32) (L : Nat → Int32) (k : Nat) (n : Int32) : Nat → Int32
  | 0 => 0
  | q + 1 => if tru T k n q then wbF T L k n q + L q else wbF T L k n q
theorem wbF_y {T : Nat → Nat → Int32} {L : Nat → Int32} {k q : Nat} {n : Int32} (h : tru T k n q) : wbF T L k n q + L q = wbF T L k n (q + 1) := (if_pos h).symm
theorem wbF_n {T : Nat → Nat → Int32} {L : Nat → Int32} {k q : Nat} {n : Int32} (h : ¬ tru T k n q) : wbF T L k n q = wbF T L k n (q + 1) := (if_neg h).symm
def kpL (T : Nat → Nat → Int32) (L : Nat → Int32) (k : Nat) (n : Int32) : Nat → Int32 := fun q => if tru T k n q then L q else 0
def keep (T : Nat → Nat → Int32) (L : Nat → Int32) (k : Nat) (n : Int32) : Nat → Int32 := if lbs T L k n = 0 then L else kpL T L k n
def kpF (T : Nat → Nat → Int32) (L : Nat → Int32) (k : Nat) (n : Int32) (i : Nat) : Nat → Int32 := fun q => if q < i ∧ ¬ tru T k n q then 0 else L q
theorem kpF_0 {T : Nat → Nat → Int32} {L : Nat → Int32} {k : Nat} {n : Int32} : L = kpF T L k n 0 := by funext q; unfold kpF; rw [if_neg (fun z => absurd z.1 (Nat.not_lt_zero q))]
theorem kpF_y {T : Nat → Nat → Int32} {L : Nat → Int32} {k i : Nat} {n : Int32} (h : tru T k n i) : kpF T L k n i = kpF T L k n (i + 1) := by
  funext q; unfold kpF
  by_cases c : q < i ∧ ¬ tru T k n q
  · rw [if_pos c, if_pos ⟨by omega, c.2⟩]
  · rw [if_neg c, if_neg (fun z => c ⟨by
      rcases Nat.lt_succ_iff_lt_or_eq.mp z.1 with e | e
      · exact e
      · subst e; exact absurd h z.2, z.2⟩)]
theorem kpF_n {T : Nat → Nat → Int32} {L : Nat → Int32} {k i : Nat} {n : Int32} (h : ¬ tru T k n i) : upd (kpF T L k n i) i 0 = kpF T L k n (i + 1) := by
  funext q
  show (if q = i then 0 else kpF T L k n i q) = kpF T L k n (i + 1) q
  unfold kpF
  by_cases e : q = i
  · subst e; rw [if_pos rfl, if_pos ⟨Nat.lt_succ_self q, h⟩]
  · rw [if_neg e]
    by_cases c : q < i ∧ ¬ tru T k n q
    · rw [if_pos c, if_pos ⟨by omega, c.2⟩]
    · rw [if_neg c, if_neg (fun z => c ⟨by omega, z.2⟩)]
theorem kpF_e {T : Nat → Nat → Int32} {L : Nat → Int32} {k : Nat} {n : Int32} : ∀ q, q < 36 → kpF T L k n 36 q = kpL T L k n q := by
  intro q hq
  unfold kpF kpL
  by_cases c : tru T k n q
  · rw [if_neg (fun z => z.2 c), if_pos c]
  · rw [if_pos ⟨hq, c⟩, if_neg c]
def slF (T : Nat → Nat → Int32) (L : Nat → Int32) (k : Nat) : Nat → Int32
  | 0 => 0
  | q + 1 => if L q = 0 then slF T L k q else slF T L k q + L q * nI (if T k q = -9 then cnt (fun q => 0 < L q) 36 else lbs T L k (T k q))
theorem slF_0 {T : Nat → Nat → Int32} {L : Nat → Int32} {k q : Nat} (h : L q = 0) : slF T L k q = slF T L k (q + 1) := (if_pos h).symm
theorem slF_a {T : Nat → Nat → Int32} {L : Nat → Int32} {k q : Nat} (h : ¬ L q = 0) (h2 : T k q = -9) : slF T L k q + L q * nI (cnt (fun q => 0 < L q) 36) = slF T L k (q + 1) := by
  show _ = ite _ _ _; rw [if_neg h, if_pos h2]
theorem slF_b {T : Nat → Nat → Int32} {L : Nat → Int32} {k q : Nat} (h : ¬ L q = 0) (h2 : ¬ T k q = -9) : slF T L k q + L q * nI (lbs T L k (T k q)) = slF T L k (q + 1) := by
  show _ = ite _ _ _; rw [if_neg h, if_neg h2]
/-- the lie: its number, its weight -/
def blF (T : Nat → Nat → Int32) (L : Nat → Int32) (k j : Nat) : Nat → Int32 × Int32
  | 0 => (-9, 0)
  | n + 1 => if ¬ tru T k (nI n) j ∧ (blF T L k j n).2 < wbF T L k (nI n) 36 then (nI n, wbF T L k (nI n) 36) else blF T L k j n
theorem blF_y {T : Nat → Nat → Int32} {L : Nat → Int32} {k j n : Nat} (h : ¬ tru T k (nI n) j) (h2 : (blF T L k j n).2 < wbF T L k (nI n) 36) : blF T L k j (n + 1) = (nI n, wbF T L k (nI n) 36) := if_pos ⟨h, h2⟩
theorem blF_n {T : Nat → Nat → Int32} {L : Nat → Int32} {k j n : Nat} (h : tru T k (nI n) j ∨ ¬ (blF T L k j n).2 < wbF T L k (nI n) 36) : blF T L k j (n + 1) = blF T L k j n := if_neg (fun z => h.elim z.1 (fun q => q z.2))
/-- bits of the kinds; the true signs of those kinds, of one square, are so of another -/
def bitI (x y : Int32) : Int32 := (x >>> (y &&& 31)) &&& 1
abbrev suit (T : Nat → Nat → Int32) (b j o : Nat) : Prop := ∀ k, k < 6 → ¬ bitI (nI b) (nI k) = 0 → tru T k (T k j) o
abbrev alone (T : Nat → Nat → Int32) (L : Nat → Int32) (b j : Nat) : Prop := suit T b j j ∧ ∀ o, o < 36 → ¬ o = j → 0 < L o → ¬ suit T b j o
/-- the number of ones, as the JDK reckons it -/
def bcI (x : Int32) : Int32 :=
  let a := x - (((x.toUInt32 >>> (Int32.toUInt32 1 &&& Int32.toUInt32 31)).toInt32) &&& 1431655765)
  let b := (a &&& 858993459) + (((a.toUInt32 >>> (Int32.toUInt32 2 &&& Int32.toUInt32 31)).toInt32) &&& 858993459)
  let c := (b + (b.toUInt32 >>> (Int32.toUInt32 4 &&& Int32.toUInt32 31)).toInt32) &&& 252645135
  let e := c + (c.toUInt32 >>> (Int32.toUInt32 8 &&& Int32.toUInt32 31)).toInt32
  (e + (e.toUInt32 >>> (Int32.toUInt32 16 &&& Int32.toUInt32 31)).toInt32) &&& 63
noncomputable def ftF (T : Nat → Nat → Int32) (L : Nat → Int32) (j : Nat) : Nat → Int32 × Int32
  | 0 => (-9, 7)
  | b + 1 => @ite _ (bcI (nI b) < (ftF T L j b).2 ∧ alone T L b j) (Classical.propDecidable _) (nI b, bcI (nI b)) (ftF T L j b)
theorem ftF_y {T : Nat → Nat → Int32} {L : Nat → Int32} {j b : Nat} (h : bcI (nI b) < (ftF T L j b).2) (h2 : alone T L b j) : ftF T L j (b + 1) = (nI b, bcI (nI b)) := by unfold ftF; exact if_pos ⟨h, h2⟩
theorem ftF_n {T : Nat → Nat → Int32} {L : Nat → Int32} {j b : Nat} (h : ¬ (bcI (nI b) < (ftF T L j b).2 ∧ alone T L b j)) : ftF T L j (b + 1) = ftF T L j b := by
  show @ite _ _ (Classical.propDecidable _) _ _ = _
  exact if_neg h
/-- others alike in days and sand -/
def alk (T : Nat → Nat → Int32) (L : Nat → Int32) (j : Nat) : Nat := cnt (fun o => ¬ o = j ∧ ¬ L o = 0 ∧ T 0 j = T 0 o ∧ T 4 j = T 4 o) 36
def bhF (T : Nat → Nat → Int32) (L : Nat → Int32) : Nat → Int32 × Int32
  | 0 => (-9, -1)
  | q + 1 => if ¬ L q = 0 ∧ (bhF T L q).2 < nI (alk T L q) then (nI q, nI (alk T L q)) else bhF T L q
theorem bhF_y {T : Nat → Nat → Int32} {L : Nat → Int32} {q : Nat} (h : ¬ L q = 0) (h2 : (bhF T L q).2 < nI (alk T L q)) : bhF T L (q + 1) = (nI q, nI (alk T L q)) := if_pos ⟨h, h2⟩
theorem bhF_n {T : Nat → Nat → Int32} {L : Nat → Int32} {q : Nat} (h : L q = 0 ∨ ¬ (bhF T L q).2 < nI (alk T L q)) : bhF T L (q + 1) = bhF T L q := if_neg (fun z => h.elim z.1 (fun y => y z.2))
/-- the searcher: until: days, if any -/
def oI (v : Option Nat) : Int32 := match v with
  | some n => nI n
  | none => -9
abbrev oF (V : Nat → Option Nat) : Nat → Int32 := fun q => oI (V q)
def sO (V : Nat → Option Nat) (n v : Nat) : Nat → Option Nat := fun q => if q = n then some v else V q
theorem sO_u {V : Nat → Option Nat} {n v : Nat} : upd (oF V) n (nI v) = oF (sO V n v) := by
  funext q
  show (if q = n then nI v else oI (V q)) = oI (if q = n then some v else V q)
  by_cases e : q = n
  · rw [if_pos e, if_pos e]; rfl
  · rw [if_neg e, if_neg e]
def nx (V : Nat → Option Nat) (L : Nat → Int32) (D : Nat → Nat) : Nat → Nat
  | 0 => 99
  | q + 1 => if (V q = none ∧ 0 < L q ∧ D q < 1000000) ∧ (nx V L D q = 99 ∨ D q < D (nx V L D q)) then q else nx V L D q
theorem nx_y {V : Nat → Option Nat} {L : Nat → Int32} {D : Nat → Nat} {q : Nat} (h1 : V q = none) (h2 : 0 < L q) (h3 : D q < 1000000) (h : nx V L D q = 99 ∨ D q < D (nx V L D q)) : nx V L D (q + 1) = q := if_pos ⟨⟨h1, h2, h3⟩, h⟩
theorem nx_n {V : Nat → Option Nat} {L : Nat → Int32} {D : Nat → Nat} {q : Nat} (h : ¬ ((V q = none ∧ 0 < L q ∧ D q < 1000000) ∧ (nx V L D q = 99 ∨ D q < D (nx V L D q)))) : nx V L D (q + 1) = nx V L D q := if_neg h
/-- what is found is a square that can be come to -/
theorem nx_in {V : Nat → Option Nat} {L : Nat → Int32} {D : Nat → Nat} : ∀ i, i ≤ 36 → nx V L D i = 99 ∨ (nx V L D i < 36 ∧ D (nx V L D i) < 1000000)
  | 0, _ => Or.inl rfl
  | i + 1, h => by
    have ih := nx_in (V := V) (L := L) (D := D) i (by omega)
    unfold nx
    split
    · next c => exact Or.inr ⟨by omega, c.1.2.2⟩
    · exact ih
def nxs (V : Nat → Option Nat) (L : Nat → Int32) (D : Nat → Nat) : Nat := nx V L D 36
theorem nxs_in {V : Nat → Option Nat} {L : Nat → Int32} {D : Nat → Nat} (h : nxs V L D < 36) : D (nxs V L D) < 1000000 := by
  rcases nx_in (V := V) (L := L) (D := D) 36 (Nat.le_refl _) with e | e
  · exact absurd h (by unfold nxs; omega)
  · exact e.2
def sch (L : Nat → Int32) (D : Nat → Nat) : Nat → (Nat → Option Nat) → Nat → (Nat → Option Nat)
  | 0, V, _ => V
  | f + 1, V, g => if nxs V L D < 36 then sch L D f (sO V (nxs V L D) (g + D (nxs V L D))) (g + 2 * D (nxs V L D)) else V
theorem sch_y {L : Nat → Int32} {D : Nat → Nat} {V : Nat → Option Nat} {g i : Nat} (hi : i < 36) (h : nxs V L D < 36) : sch L D (36 - (i + 1)) (sO V (nxs V L D) (g + D (nxs V L D))) (g + 2 * D (nxs V L D)) = sch L D (36 - i) V g := by
  rw [show 36 - i = (36 - (i + 1)) + 1 by omega]; exact (if_pos h).symm
theorem sch_n {L : Nat → Int32} {D : Nat → Nat} {V : Nat → Option Nat} {g i : Nat} (h : ¬ nxs V L D < 36) : sch L D (36 - i) V g = V := by
  cases hf : 36 - i with
  | zero => rfl
  | succ f => exact if_neg h
def unt (L : Nat → Int32) (D : Nat → Nat) : Nat → Option Nat := sch L D 36 (fun _ => none) 0
def slI (U L : Nat → Int32) : Nat → Int64
  | 0 => 0
  | q + 1 => if U q = -9 then slI U L q else slI U L q + (L q).toInt64 * (U q).toInt64
theorem slI_n {U L : Nat → Int32} {q : Nat} (h : U q = -9) : slI U L q = slI U L (q + 1) := (if_pos h).symm
theorem slI_y {U L : Nat → Int32} {q : Nat} (h : ¬ U q = -9) : slI U L q + (L q).toInt64 * (U q).toInt64 = slI U L (q + 1) := (if_neg h).symm
def wfI (U L : Nat → Int32) : Nat → Int64
  | 0 => 0
  | q + 1 => if U q = -9 then wfI U L q else wfI U L q + (L q).toInt64
theorem wfI_n {U L : Nat → Int32} {q : Nat} (h : U q = -9) : wfI U L q = wfI U L (q + 1) := (if_pos h).symm
theorem wfI_y {U L : Nat → Int32} {q : Nat} (h : ¬ U q = -9) : wfI U L q + (L q).toInt64 = wfI U L (q + 1) := (if_neg h).symm
theorem oI_n {v : Option Nat} (h : v = none) : oI v = -9 := by subst h; rfl
theorem oI_eq {v : Option Nat} (hb : ∀ n, v = some n → n < 2147483648) (h : oI v = -9) : v = none := by
  cases v with
  | none => rfl
  | some n => exact absurd h (nI_ne_m9 (hb n rfl))
theorem nI_ne_m1 {n : Nat} (h : n < 2 ^ 31) : ¬ nI n = -1 := fun z => by
  have h1 := congrArg Int32.toInt z
  rw [nI_toInt h, show (-1 : Int32).toInt = -1 from rfl] at h1
  omega
theorem sO_bd {V : Nat → Option Nat} {n x B B2 : Nat} (hV : ∀ q v, V q = some v → v ≤ B) (h : x ≤ B2) (hB : B ≤ B2) : ∀ q v, sO V n x q = some v → v ≤ B2 := by
  intro q v z
  unfold sO at z
  split at z
  · injection z with z; omega
  · exact Nat.le_trans (hV q v z) hB
