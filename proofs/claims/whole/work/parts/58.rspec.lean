/-! how the reference reads a statement -/
abbrev isd (y : Int32) : Prop := 48 ≤ y ∧ y ≤ 57
theorem sut_48 {y : Int32} : sut 48 y ↔ isd y := by
  constructor
  · intro h; have h2 := h.2; rw [if_neg (by decide), if_neg (by decide), if_pos rfl] at h2; exact h2
  · intro h; exact ⟨Int32.le_trans (by decide) h.1, by rw [if_neg (by decide), if_neg (by decide), if_pos rfl]; exact h⟩
theorem sut_59 {y : Int32} : sut 59 y ↔ y = 59 := by
  constructor
  · intro h; have h2 := h.2; rw [if_neg (by decide), if_neg (by decide), if_neg (by decide)] at h2; exact h2
  · intro h; exact ⟨by rw [h]; decide, by rw [if_neg (by decide), if_neg (by decide), if_neg (by decide)]; exact h⟩
section RD
variable {A : Nat → Nat} {tn : Nat}
theorem ltA_e {p : Nat} (h : p < tn) : ltA A tn p = nI (A p) := if_pos h
theorem ltA_9 {p : Nat} (h : ¬ p < tn) : ltA A tn p = -1 := if_neg h
theorem ltA_i {p : Nat} {s : Int32} (h : ltA A tn p = s) (hs : ¬ s = -1) : p < tn := Decidable.not_not.mp (fun z => hs (by rw [← h]; exact ltA_9 z))
theorem cd_sut {i p : Nat} (hA : ∀ q, A q < 256) (f : Int32) (hf : (f = 75 ∧ i = 7) ∨ (f = 83 ∧ i = 8)) : sut f (ltA A tn p) ↔ 0 ≤ cdA A tn i p := by
  by_cases c : p < tn
  · have hp := hA p
    rw [ltA_e c, show cdA A tn i p = ixo i (A p) from if_pos c]
    rcases hf with ⟨rfl, rfl⟩ | ⟨rfl, rfl⟩
    · constructor
      · intro h; have h2 := h.2; rw [if_pos rfl, show ix (nI (A p)) = A p from nI_clamp (by omega)] at h2; exact h2
      · intro h; exact ⟨nI_pos' (by omega), by rw [if_pos rfl, show ix (nI (A p)) = A p from nI_clamp (by omega)]; exact h⟩
    · constructor
      · intro h; have h2 := h.2; rw [if_neg (by decide), if_pos rfl, show ix (nI (A p)) = A p from nI_clamp (by omega)] at h2; exact h2
      · intro h; exact ⟨nI_pos' (by omega), by rw [if_neg (by decide), if_pos rfl, show ix (nI (A p)) = A p from nI_clamp (by omega)]; exact h⟩
  · rw [ltA_9 c, show cdA A tn i p = -1 from if_neg c]
    exact ⟨fun h => absurd h.1 (by decide), fun h => absurd h (by decide)⟩
/-- as many digits from p on, n at most -/
def dgN (A : Nat → Nat) (tn p : Nat) : Nat → Nat
  | 0 => 0
  | n + 1 => if dgN A tn p n = n ∧ isd (ltA A tn (p + n)) then n + 1 else dgN A tn p n
theorem dgN_le {p : Nat} : ∀ n, dgN A tn p n ≤ n
  | 0 => Nat.le_refl _
  | n + 1 => by have := dgN_le (p := p) n; unfold dgN; split <;> omega
theorem dgN_y {p n : Nat} (h : dgN A tn p n = n) (h2 : isd (ltA A tn (p + n))) : dgN A tn p (n + 1) = n + 1 := if_pos ⟨h, h2⟩
theorem dgN_i {p n : Nat} (h : dgN A tn p (n + 1) = n + 1) : dgN A tn p n = n ∧ isd (ltA A tn (p + n)) := by
  refine Decidable.not_not.mp (fun z => ?_)
  have h1 : dgN A tn p (n + 1) = dgN A tn p n := if_neg z
  have h2 := dgN_le (A := A) (tn := tn) (p := p) n
  omega
theorem dgN_n {p n : Nat} (h : dgN A tn p n = n) (h2 : ¬ isd (ltA A tn (p + n))) : ∀ k, dgN A tn p (n + 1 + k) = n
  | 0 => by show dgN A tn p (n + 1) = n; exact (if_neg (fun z => h2 z.2)).trans h
  | k + 1 => by
    have ih := dgN_n h h2 k
    show dgN A tn p (n + 1 + k + 1) = n
    exact (if_neg (fun z => by omega)).trans ih
theorem dgN_s {p n m : Nat} (h : dgN A tn p n = n) (h2 : ¬ isd (ltA A tn (p + n))) (hm : n < m) : dgN A tn p m = n := by
  have := dgN_n h h2 (m - (n + 1))
  rwa [show n + 1 + (m - (n + 1)) = m by omega] at this
theorem dgN_d {p : Nat} : ∀ n, dgN A tn p n = n → ∀ i, i < n → isd (ltA A tn (p + i))
  | 0, _, i, h => absurd h (Nat.not_lt_zero i)
  | n + 1, h, i, hi => by
    rcases Nat.lt_succ_iff_lt_or_eq.mp hi with e | e
    · exact dgN_d n (dgN_i h).1 i e
    · rw [e]; exact (dgN_i h).2
theorem dgN_a {p : Nat} : ∀ n, (∀ i, i < n → isd (ltA A tn (p + i))) → dgN A tn p n = n
  | 0, _ => rfl
  | n + 1, h => dgN_y (dgN_a n (fun i hi => h i (by omega))) (h n (by omega))
theorem dgN_stop {p : Nat} : ∀ n, dgN A tn p n < n → dgN A tn p (dgN A tn p n) = dgN A tn p n ∧ ¬ isd (ltA A tn (p + dgN A tn p n))
  | 0, h => absurd h (Nat.not_lt_zero _)
  | n + 1, h => by
    by_cases c : dgN A tn p n = n ∧ isd (ltA A tn (p + n))
    · rw [dgN_y c.1 c.2] at h; omega
    · have e : dgN A tn p (n + 1) = dgN A tn p n := if_neg c
      rw [e]
      have h1 := dgN_le (A := A) (tn := tn) (p := p) n
      rcases Nat.lt_or_ge (dgN A tn p n) n with h2 | h2
      · exact dgN_stop n h2
      · have e2 : dgN A tn p n = n := by omega
        rw [e2]; exact ⟨e2, fun z => c ⟨e2, z⟩⟩
theorem isd_in {p : Nat} (h : isd (ltA A tn p)) : p < tn := ltA_ge (Int32.le_trans (by decide) h.1)
theorem dgN_tn {p : Nat} (hp : p ≤ tn) : ∀ n, p + dgN A tn p n ≤ tn
  | 0 => hp
  | n + 1 => by
    have ih := dgN_tn hp n
    by_cases c : dgN A tn p n = n ∧ isd (ltA A tn (p + n))
    · rw [dgN_y c.1 c.2]; have := isd_in c.2; omega
    · rw [show dgN A tn p (n + 1) = dgN A tn p n from if_neg c]; exact ih
/-- the digits' values -/
def vdF (A : Nat → Nat) (tn p : Nat) (V : Nat → Int32) (i : Nat) : Nat → Int32 := fun k => if k < i then dgA A tn (p + k) else V k
theorem vdF_0 {p : Nat} {V : Nat → Int32} : V = vdF A tn p V 0 := by funext k; exact (if_neg (Nat.not_lt_zero k)).symm
theorem vdF_s {p i : Nat} {V : Nat → Int32} {v : Int32} (h : v = dgA A tn (p + i)) : upd (vdF A tn p V i) i v = vdF A tn p V (i + 1) := by
  subst h
  funext k
  show (if k = i then dgA A tn (p + i) else if k < i then dgA A tn (p + k) else V k) = if k < i + 1 then dgA A tn (p + k) else V k
  by_cases e : k = i
  · subst e; rw [if_pos rfl, if_pos (Nat.lt_succ_self k)]
  · rw [if_neg e]
    by_cases c : k < i
    · rw [if_pos c, if_pos (by omega)]
    · rw [if_neg c, if_neg (by omega)]
theorem vd_at {p n i : Nat} {V : Nat → Int32} (h : dgN A tn p n = n) (hi : i < n) : vdF A tn p V (dgN A tn p n) i = dgA A tn (p + i) := by rw [h]; exact if_pos hi
theorem vd_two {p n i : Nat} {V : Nat → Int32} (h : dgN A tn p n = n) (hi : i + 1 < n) : 10 * vdF A tn p V (dgN A tn p n) i + vdF A tn p V (dgN A tn p n) (i + 1) = tdA A tn (p + i) := by
  rw [vd_at h (by omega), vd_at h hi]; rfl
theorem dg_n {p : Nat} (h : isd (ltA A tn p)) : ∃ m : Nat, m < 10 ∧ dgA A tn p = nI m := by
  have h1 := Int32.le_iff_toInt_le.mp h.1
  have h2 := Int32.le_iff_toInt_le.mp h.2
  rw [show (48 : Int32).toInt = 48 from rfl] at h1
  rw [show (57 : Int32).toInt = 57 from rfl] at h2
  have e : ltA A tn p = nI (ltA A tn p).toInt.toNat := Int32.toInt_inj.mp (by rw [nI_toInt (by omega)]; omega)
  refine ⟨(ltA A tn p).toInt.toNat - 48, by omega, ?_⟩
  unfold dgA
  conv => lhs; rw [e]
  exact pk_sub (a := (ltA A tn p).toInt.toNat) (b := 48) (by omega)
theorem td_n {p : Nat} (h : isd (ltA A tn p)) (h2 : isd (ltA A tn (p + 1))) : ∃ m : Nat, m < 100 ∧ tdA A tn p = nI m := by
  obtain ⟨a, ha, ea⟩ := dg_n h
  obtain ⟨b, hb, eb⟩ := dg_n h2
  refine ⟨10 * a + b, by omega, ?_⟩
  unfold tdA
  rw [ea, eb, show (10 : Int32) = nI 10 from rfl, pk_mul, nI_add]
/-- a form's digits -/
theorem ifF_t {f P k i : Nat} (h : sut (stc f i) (ltA A tn (P + i))) : ifF A tn f P (k + 1) i = ifF A tn f P k (i + 1) := if_pos h
theorem ifF_f {f P k i : Nat} (h : ¬ sut (stc f i) (ltA A tn (P + i))) : ifF A tn f P (k + 1) i = some (P + i) := if_neg h
theorem ifF_st {f P a n m : Nat} (hs : ∀ j, a ≤ j → j < a + n → stc f j = 48) : ∀ k, k ≤ n → dgN A tn (P + a) k = k → ifF A tn f P (m + n) a = ifF A tn f P (m + (n - k)) (a + k)
  | 0, _, _ => rfl
  | k + 1, hk, h => by
    obtain ⟨h1, h2⟩ := dgN_i h
    rw [ifF_st hs k (by omega) h1, show m + (n - k) = m + (n - (k + 1)) + 1 by omega]
    refine ifF_t ?_
    rw [hs (a + k) (by omega) (by omega), ← Nat.add_assoc]
    exact sut_48.mpr h2
theorem ifF_d {f P a n m : Nat} (hs : ∀ j, a ≤ j → j < a + n → stc f j = 48) : (dgN A tn (P + a) n = n → ifF A tn f P (m + n) a = ifF A tn f P m (a + n)) ∧ (¬ dgN A tn (P + a) n = n → ifF A tn f P (m + n) a = some (P + a + dgN A tn (P + a) n)) := by
  constructor
  · intro h
    rw [ifF_st hs n (Nat.le_refl _) h, Nat.sub_self]; rfl
  · intro h
    have hl := dgN_le (A := A) (tn := tn) (p := P + a) n
    obtain ⟨h1, h2⟩ := dgN_stop (A := A) (tn := tn) (p := P + a) n (by omega)
    rw [ifF_st hs _ hl h1, show m + (n - dgN A tn (P + a) n) = m + (n - dgN A tn (P + a) n - 1) + 1 by omega, ifF_f (by
      rw [hs (a + dgN A tn (P + a) n) (by omega) (by omega), ← Nat.add_assoc]
      exact fun z => h2 (sut_48.mp z)), Nat.add_assoc]
/-- a statement read: the answer, the place -/
def st0 (A : Nat → Nat) (tn p : Nat) : Int32 × Nat := if fbi (ltA A tn p) = 6 then (-1, p) else
  match ifS A tn (fbi (ltA A tn p)) (p + 1) with
  | none => (1, p + strL.getD (fbi (ltA A tn p)) 0)
  | some q => if q = p + strL.getD (fbi (ltA A tn p)) 0 then (1, p + strL.getD (fbi (ltA A tn p)) 0) else (-1, q)
theorem st_6 {p : Nat} (h : fbi (ltA A tn p) = 6) : st0 A tn p = (-1, p) := if_pos h
theorem st_no {p : Nat} (h : ¬ fbi (ltA A tn p) = 6) (h2 : ifS A tn (fbi (ltA A tn p)) (p + 1) = none) : st0 A tn p = (1, p + strL.getD (fbi (ltA A tn p)) 0) := by
  unfold st0; rw [if_neg h, h2]
theorem st_so {p q : Nat} (h : ¬ fbi (ltA A tn p) = 6) (h2 : ifS A tn (fbi (ltA A tn p)) (p + 1) = some q) : st0 A tn p = if q = p + strL.getD (fbi (ltA A tn p)) 0 then (1, p + strL.getD (fbi (ltA A tn p)) 0) else (-1, q) := by
  unfold st0; rw [if_neg h, h2]
theorem st_D {p f n : Nat} (hf : fbi (ltA A tn p) = f) (h6 : ¬ f = 6) (hl : strL.getD f 0 = n + 1) (h48 : ∀ j, j < n → stc f j = 48) (h59 : stc f n = 59) :
    (dgN A tn (p + 1) n = n → st0 A tn p = (1, p + 1 + n)) ∧ (¬ dgN A tn (p + 1) n = n → st0 A tn p = (-1, p + 1 + dgN A tn (p + 1) n)) := by
  have hd := ifF_d (A := A) (tn := tn) (f := f) (P := p + 1) (a := 0) (n := n) (m := 1) (fun j _ hj => h48 j (by omega))
  have es : ifS A tn f (p + 1) = ifF A tn f (p + 1) (1 + n) 0 := by unfold ifS; rw [hl, Nat.add_comm n 1]
  have h6' : ¬ fbi (ltA A tn p) = 6 := by rw [hf]; exact h6
  constructor
  · intro h
    have h1 := hd.1 h
    by_cases c : sut (stc f (0 + n)) (ltA A tn (p + 1 + (0 + n)))
    · have h2 : ifS A tn f (p + 1) = none := es.trans (h1.trans (ifF_t c))
      rw [st_no h6' (by rw [hf]; exact h2), hf, hl]; congr 1; omega
    · have h2 : ifS A tn f (p + 1) = some (p + 1 + (0 + n)) := es.trans (h1.trans (ifF_f c))
      rw [st_so h6' (by rw [hf]; exact h2), hf, hl, if_pos (by omega)]; congr 1; omega
  · intro h
    have h2 : ifS A tn f (p + 1) = some (p + 1 + dgN A tn (p + 1) n) := es.trans (hd.2 h)
    have hle := dgN_le (A := A) (tn := tn) (p := p + 1) n
    rw [st_so h6' (by rw [hf]; exact h2), hf, hl, if_neg (by omega)]
theorem st_K {p f n i : Nat} (hA : ∀ q, A q < 256) (hf : fbi (ltA A tn p) = f) (h6 : ¬ f = 6) (hl : strL.getD f 0 = n + 2) (hK : (stc f 0 = 75 ∧ i = 7) ∨ (stc f 0 = 83 ∧ i = 8)) (h48 : ∀ j, 1 ≤ j → j < 1 + n → stc f j = 48) (h59 : stc f (n + 1) = 59) :
    (¬ 0 ≤ cdA A tn i (p + 1) → st0 A tn p = (-1, p + 1)) ∧ (0 ≤ cdA A tn i (p + 1) → dgN A tn (p + 1 + 1) n = n → st0 A tn p = (1, p + 1 + 1 + n)) ∧ (0 ≤ cdA A tn i (p + 1) → ¬ dgN A tn (p + 1 + 1) n = n → st0 A tn p = (-1, p + 1 + 1 + dgN A tn (p + 1 + 1) n)) := by
  have hd := ifF_d (A := A) (tn := tn) (f := f) (P := p + 1) (a := 1) (n := n) (m := 1) h48
  have hc := cd_sut (A := A) (tn := tn) (i := i) (p := p + 1) hA (stc f 0) hK
  have es : ifS A tn f (p + 1) = ifF A tn f (p + 1) (1 + n + 1) 0 := by unfold ifS; rw [hl]; congr 1; omega
  have h6' : ¬ fbi (ltA A tn p) = 6 := by rw [hf]; exact h6
  refine ⟨fun h => ?_, fun h h1 => ?_, fun h h1 => ?_⟩
  · have h2 : ifS A tn f (p + 1) = some (p + 1) := es.trans (ifF_f (fun z => h (hc.mp z)))
    rw [st_so h6' (by rw [hf]; exact h2), hf, hl, if_neg (by omega)]
  · have h2 := es.trans ((ifF_t (hc.mpr h)).trans (hd.1 h1))
    by_cases c : sut (stc f (1 + n)) (ltA A tn (p + 1 + (1 + n)))
    · have h3 : ifS A tn f (p + 1) = none := h2.trans (ifF_t c)
      rw [st_no h6' (by rw [hf]; exact h3), hf, hl]; congr 1; omega
    · have h3 : ifS A tn f (p + 1) = some (p + 1 + (1 + n)) := h2.trans (ifF_f c)
      rw [st_so h6' (by rw [hf]; exact h3), hf, hl, if_pos (by omega)]; congr 1; omega
  · have h2 : ifS A tn f (p + 1) = some (p + 1 + 1 + dgN A tn (p + 1 + 1) n) := es.trans ((ifF_t (hc.mpr h)).trans (hd.2 h1))
    have hle := dgN_le (A := A) (tn := tn) (p := p + 1 + 1) n
    rw [st_so h6' (by rw [hf]; exact h2), hf, hl, if_neg (by omega)]
theorem st_k {p : Nat} (hA : ∀ q, A q < 256) (h : ltA A tn p = 107) : (¬ 0 ≤ cdA A tn 7 (p + 1) → st0 A tn p = (-1, p + 1)) ∧ (0 ≤ cdA A tn 7 (p + 1) → dgN A tn (p + 1 + 1) 2 = 2 → st0 A tn p = (1, p + 1 + 1 + 2)) ∧ (0 ≤ cdA A tn 7 (p + 1) → ¬ dgN A tn (p + 1 + 1) 2 = 2 → st0 A tn p = (-1, p + 1 + 1 + dgN A tn (p + 1 + 1) 2)) := st_K (A := A) (tn := tn) (p := p) (f := 0) (n := 2) (i := 7) hA (by rw [h]; decide) (by decide) (by decide) (Or.inl ⟨by decide, rfl⟩) (fun j h1 h2 => (by decide : ∀ j, j < 3 → 1 ≤ j → stc 0 j = 48) j h2 h1) (by decide)
theorem st_v {p : Nat} (hA : ∀ q, A q < 256) (h : ltA A tn p = 118) : (¬ 0 ≤ cdA A tn 7 (p + 1) → st0 A tn p = (-1, p + 1)) ∧ (0 ≤ cdA A tn 7 (p + 1) → dgN A tn (p + 1 + 1) 4 = 4 → st0 A tn p = (1, p + 1 + 1 + 4)) ∧ (0 ≤ cdA A tn 7 (p + 1) → ¬ dgN A tn (p + 1 + 1) 4 = 4 → st0 A tn p = (-1, p + 1 + 1 + dgN A tn (p + 1 + 1) 4)) := st_K (A := A) (tn := tn) (p := p) (f := 1) (n := 4) (i := 7) hA (by rw [h]; decide) (by decide) (by decide) (Or.inl ⟨by decide, rfl⟩) (fun j h1 h2 => (by decide : ∀ j, j < 5 → 1 ≤ j → stc 1 j = 48) j h2 h1) (by decide)
theorem st_s {p : Nat} (hA : ∀ q, A q < 256) (h : ltA A tn p = 115) : (¬ 0 ≤ cdA A tn 8 (p + 1) → st0 A tn p = (-1, p + 1)) ∧ (0 ≤ cdA A tn 8 (p + 1) → dgN A tn (p + 1 + 1) 2 = 2 → st0 A tn p = (1, p + 1 + 1 + 2)) ∧ (0 ≤ cdA A tn 8 (p + 1) → ¬ dgN A tn (p + 1 + 1) 2 = 2 → st0 A tn p = (-1, p + 1 + 1 + dgN A tn (p + 1 + 1) 2)) := st_K (A := A) (tn := tn) (p := p) (f := 5) (n := 2) (i := 8) hA (by rw [h]; decide) (by decide) (by decide) (Or.inr ⟨by decide, rfl⟩) (fun j h1 h2 => (by decide : ∀ j, j < 3 → 1 ≤ j → stc 5 j = 48) j h2 h1) (by decide)
theorem st_l {p : Nat} (h : ltA A tn p = 108) : (dgN A tn (p + 1) 5 = 5 → st0 A tn p = (1, p + 1 + 5)) ∧ (¬ dgN A tn (p + 1) 5 = 5 → st0 A tn p = (-1, p + 1 + dgN A tn (p + 1) 5)) := st_D (A := A) (tn := tn) (p := p) (f := 2) (n := 5) (by rw [h]; decide) (by decide) (by decide) (by decide) (by decide)
theorem st_h {p : Nat} (h : ltA A tn p = 104) : (dgN A tn (p + 1) 2 = 2 → st0 A tn p = (1, p + 1 + 2)) ∧ (¬ dgN A tn (p + 1) 2 = 2 → st0 A tn p = (-1, p + 1 + dgN A tn (p + 1) 2)) := st_D (A := A) (tn := tn) (p := p) (f := 3) (n := 2) (by rw [h]; decide) (by decide) (by decide) (by decide) (by decide)
theorem st_d {p : Nat} (h : ltA A tn p = 100) : (dgN A tn (p + 1) 2 = 2 → st0 A tn p = (1, p + 1 + 2)) ∧ (¬ dgN A tn (p + 1) 2 = 2 → st0 A tn p = (-1, p + 1 + dgN A tn (p + 1) 2)) := st_D (A := A) (tn := tn) (p := p) (f := 3) (n := 2) (by rw [h]; decide) (by decide) (by decide) (by decide) (by decide)
theorem st_c {p : Nat} (h : ltA A tn p = 99) : (dgN A tn (p + 1) 4 = 4 → st0 A tn p = (1, p + 1 + 4)) ∧ (¬ dgN A tn (p + 1) 4 = 4 → st0 A tn p = (-1, p + 1 + dgN A tn (p + 1) 4)) := st_D (A := A) (tn := tn) (p := p) (f := 4) (n := 4) (by rw [h]; decide) (by decide) (by decide) (by decide) (by decide)
theorem fbi_x {x : Int32} (h1 : ¬ x = 107) (h2 : ¬ x = 118) (h3 : ¬ x = 108) (h4 : ¬ x = 104) (h5 : ¬ x = 100) (h6 : ¬ x = 99) (h7 : ¬ x = 115) : fbi x = 6 := by
  unfold fbi; rw [if_neg h1, if_neg h2, if_neg h3, if_neg (fun z => z.elim h4 h5), if_neg h6, if_neg h7]
/-- of a statement that has its form -/
theorem fm_all {p f : Nat} (hf : fbi (ltA A tn p) = f) (h : ifS A tn (fbi (ltA A tn p)) (p + 1) = none) {n : Nat} (hn : strL.getD f 0 = n) : ∀ j, j < n → sut (stc f j) (ltA A tn (p + 1 + j)) := fun j hj => by
  rw [hf] at h
  exact ifF_all _ _ h j (Nat.zero_le j) (by rw [hn]; omega)
theorem fm_D {p f n : Nat} (hf : fbi (ltA A tn p) = f) (h : ifS A tn (fbi (ltA A tn p)) (p + 1) = none) (hl : strL.getD f 0 = n + 1) (h48 : ∀ j, j < n → stc f j = 48) : dgN A tn (p + 1) n = n :=
  dgN_a n (fun i hi => by have := fm_all hf h hl i (by omega); rw [h48 i hi] at this; exact sut_48.mp this)
theorem fm_K {p f n i : Nat} (hA : ∀ q, A q < 256) (hf : fbi (ltA A tn p) = f) (h : ifS A tn (fbi (ltA A tn p)) (p + 1) = none) (hl : strL.getD f 0 = n + 2) (hK : (stc f 0 = 75 ∧ i = 7) ∨ (stc f 0 = 83 ∧ i = 8)) (h48 : ∀ j, 1 ≤ j → j < 1 + n → stc f j = 48) :
    0 ≤ cdA A tn i (p + 1) ∧ dgN A tn (p + 1 + 1) n = n := by
  refine ⟨(cd_sut (A := A) (tn := tn) (i := i) (p := p + 1) hA (stc f 0) hK).mp (fm_all hf h hl 0 (by omega)), dgN_a n (fun j hj => ?_)⟩
  have := fm_all hf h hl (1 + j) (by omega)
  rw [h48 (1 + j) (by omega) (by omega), ← Nat.add_assoc] at this
  exact sut_48.mp this
theorem ixo7 : ∀ c, c < 256 → 0 ≤ ixo 7 c → ixo 7 c < 6 := by decide +kernel
theorem cd_6 {i p : Nat} (hA : ∀ q, A q < 256) (hi : i = 7 ∨ i = 8) (h : 0 ≤ cdA A tn i p) : ∃ kk : Nat, kk < 6 ∧ cdA A tn i p = nI kk := by
  have c : p < tn := Decidable.not_not.mp (fun z => by rw [show cdA A tn i p = -1 from if_neg z] at h; exact absurd h (by decide))
  have e : cdA A tn i p = ixo i (A p) := if_pos c
  rw [e] at h ⊢
  have h2 : ixo i (A p) < 6 := by rcases hi with rfl | rfl; exact ixo7 _ (hA p) h; exact ixo8 _ (hA p) h
  exact kd_nat ⟨h, h2⟩
theorem cd_0 {i p : Nat} (hi : i = 7 ∨ i = 8) (h : p < tn → A p = 0) : cdA A tn i p = -1 := by
  unfold cdA; split
  · rename_i c; rw [h c]; rcases hi with rfl | rfl <;> decide
  · rfl
theorem cd_y {i p : Nat} (h : p < tn) : ixo i (A p) = cdA A tn i p := (if_pos h).symm
theorem cd_in {i p : Nat} (h : 0 ≤ cdA A tn i p) : p < tn := Decidable.not_not.mp (fun z => by rw [show cdA A tn i p = -1 from if_neg z] at h; exact absurd h (by decide))
end RD
