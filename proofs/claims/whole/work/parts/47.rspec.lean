/-! the searcher in closed form: what 'unt' is; bounds; the mean -/
abbrev lk9 (x : Int32) : Prop := 0 ≤ x ∧ x ≤ 9
theorem lk9_n {x : Int32} (h : lk9 x) : x = nI x.toNatClampNeg ∧ x.toNatClampNeg ≤ 9 := by
  obtain ⟨j, hj, rfl⟩ := nI_of2 (M := 9) (n := 9) rfl (Int32.not_lt.mpr h.1) h.2
  rw [nI_clamp (by omega)]; exact ⟨rfl, hj⟩
theorem lk9_p {x : Int32} (h : lk9 x) : 0 < x ↔ ¬ x = 0 := by
  obtain ⟨e, h9⟩ := lk9_n h
  rw [e, show (0 : Int32) = nI 0 from rfl, nI_ltI (by omega) (by omega), nI_eq (by omega) (by omega)]; omega
theorem smG_cg {G H : Nat → Nat} : ∀ n, (∀ q, q < n → G q = H q) → smG G n = smG H n
  | 0, _ => rfl
  | n + 1, h => by
    show smG G n + G n = smG H n + H n
    rw [smG_cg n (fun q hq => h q (by omega)), h n (by omega)]
theorem smG_0 : ∀ n, smG (fun _ => 0) n = 0
  | 0 => rfl
  | n + 1 => by show smG (fun _ => 0) n + 0 = 0; rw [smG_0 n]
theorem smG_le {G : Nat → Nat} {b : Nat} : ∀ n, (∀ q, q < n → G q ≤ b) → smG G n ≤ b * n
  | 0, _ => Nat.zero_le _
  | n + 1, h => by
    have h1 := smG_le n (fun q hq => h q (by omega))
    have h2 := h n (by omega)
    show smG G n + G n ≤ b * (n + 1)
    rw [Nat.mul_succ]; omega
abbrev elg (L : Nat → Int32) (D : Nat → Nat) (q : Nat) : Prop := ¬ L q = 0 ∧ D q < 1000000
abbrev bfr (D : Nat → Nat) (r q : Nat) : Prop := D r < D q ∨ (D r = D q ∧ r < q)
def sBf (L : Nat → Int32) (D : Nat → Nat) (q : Nat) : Nat → Nat := fun r => if elg L D r ∧ bfr D r q then 2 * D r else 0
section UNT
variable {V : Nat → Option Nat} {L : Nat → Int32} {D : Nat → Nat} {g : Nat}
theorem nx_c : ∀ i, i ≤ 36 → (nx V L D i = 99 ∧ ∀ r, r < i → ¬ (V r = none ∧ 0 < L r ∧ D r < 1000000)) ∨ (nx V L D i < i ∧ (V (nx V L D i) = none ∧ 0 < L (nx V L D i) ∧ D (nx V L D i) < 1000000) ∧ ∀ r, r < i → (V r = none ∧ 0 < L r ∧ D r < 1000000) → D (nx V L D i) < D r ∨ (D (nx V L D i) = D r ∧ nx V L D i ≤ r))
  | 0, _ => Or.inl ⟨rfl, fun r h => absurd h (Nat.not_lt_zero r)⟩
  | i + 1, hi => by
    have ih := nx_c i (by omega)
    by_cases c : (V i = none ∧ 0 < L i ∧ D i < 1000000) ∧ (nx V L D i = 99 ∨ D i < D (nx V L D i))
    · rw [nx_y c.1.1 c.1.2.1 c.1.2.2 c.2]
      refine Or.inr ⟨by omega, c.1, fun r hr hz => ?_⟩
      rcases Nat.lt_succ_iff_lt_or_eq.mp hr with e | e
      · rcases ih with h | h
        · exact absurd hz (h.2 r e)
        · have h2 : D i < D (nx V L D i) := c.2.elim (fun z => absurd h.1 (by omega)) id
          have h3 := h.2.2 r e hz
          exact Or.inl (by omega)
      · subst e; exact Or.inr ⟨rfl, Nat.le_refl _⟩
    · rw [nx_n c]
      rcases ih with h | h
      · refine Or.inl ⟨h.1, fun r hr hz => ?_⟩
        rcases Nat.lt_succ_iff_lt_or_eq.mp hr with e | e
        · exact h.2 r e hz
        · subst e; exact c ⟨hz, Or.inl h.1⟩
      · refine Or.inr ⟨Nat.lt_succ_of_lt h.1, h.2.1, fun r hr hz => ?_⟩
        rcases Nat.lt_succ_iff_lt_or_eq.mp hr with e | e
        · exact h.2.2 r e hz
        · subst e
          have h3 : ¬ D r < D (nx V L D r) := fun z => c ⟨hz, Or.inr z⟩
          have h4 := h.1
          omega
theorem cnt_all {p : Nat → Prop} [DecidablePred p] : ∀ n, n ≤ cnt p n → ∀ q, q < n → p q
  | 0, _, q, hq => absurd hq (Nat.not_lt_zero q)
  | n + 1, h, q, hq => by
    have hl := cnt_le p n
    by_cases c : p n
    · rw [cnt_t c] at h
      rcases Nat.lt_succ_iff_lt_or_eq.mp hq with e | e
      · exact cnt_all n (by omega) q e
      · rw [e]; exact c
    · rw [cnt_f c] at h; omega
theorem cnt_one {p p' : Nat → Prop} [DecidablePred p] [DecidablePred p'] {m : Nat} (h1 : ¬ p m) (h2 : p' m) (h3 : ∀ q, ¬ q = m → (p q ↔ p' q)) : ∀ n, cnt p' n = cnt p n + if m < n then 1 else 0
  | 0 => by rw [if_neg (Nat.not_lt_zero m)]; rfl
  | n + 1 => by
    have ih := cnt_one h1 h2 h3 n
    by_cases e : n = m
    · subst e
      rw [cnt_t h2, cnt_f h1, ih, if_neg (Nat.lt_irrefl n), if_pos (Nat.lt_succ_self n)]
    · by_cases c : p n
      · rw [cnt_t c, cnt_t ((h3 n e).mp c), ih]
        by_cases d : m < n
        · rw [if_pos d, if_pos (by omega)]
        · rw [if_neg d, if_neg (by omega)]
      · rw [cnt_f c, cnt_f (fun z => c ((h3 n e).mpr z)), ih]
        by_cases d : m < n
        · rw [if_pos d, if_pos (by omega)]
        · rw [if_neg d, if_neg (by omega)]
def uIn (L : Nat → Int32) (D : Nat → Nat) (V : Nat → Option Nat) (g : Nat) : Prop :=
  (∀ q, q < 36 → ¬ V q = none → elg L D q ∧ V q = some (D q + smG (sBf L D q) 36)) ∧ (∀ q r, q < 36 → r < 36 → ¬ V q = none → elg L D r → bfr D r q → ¬ V r = none) ∧ g = smG (fun r => if V r = none then 0 else 2 * D r) 36
theorem uIn_s (hL : ∀ q, lk9 (L q)) (h : uIn L D V g) {n : Nat} (hn : n < 36) (h1 : V n = none) (h2 : elg L D n) (h3 : ∀ r, r < 36 → V r = none → elg L D r → D n < D r ∨ (D n = D r ∧ n ≤ r)) : uIn L D (sO V n (g + D n)) (g + 2 * D n) := by
  obtain ⟨i1, i2, i3⟩ := h
  have eg : g = smG (sBf L D n) 36 := by
    rw [i3]
    refine smG_cg 36 (fun r hr => ?_)
    show (if V r = none then 0 else 2 * D r) = if elg L D r ∧ bfr D r n then 2 * D r else 0
    by_cases c : V r = none
    · rw [if_pos c]
      by_cases d : elg L D r ∧ bfr D r n
      · have := h3 r hr c d.1
        have := d.2
        omega
      · rw [if_neg d]
    · have hbr : bfr D r n := Decidable.not_not.mp (fun z => by
        have hb : bfr D n r ∨ n = r := by
          show (D n < D r ∨ (D n = D r ∧ n < r)) ∨ n = r
          have z2 : ¬ (D r < D n ∨ (D r = D n ∧ r < n)) := z
          omega
        rcases hb with e | e
        · exact i2 r n hr hn c h2 e h1
        · exact c (e ▸ h1))
      rw [if_neg c, if_pos ⟨(i1 r hr c).1, hbr⟩]
  have en : sO V n (g + D n) n = some (g + D n) := if_pos rfl
  have eo : ∀ q, ¬ q = n → sO V n (g + D n) q = V q := fun q hq => if_neg hq
  refine ⟨fun q hq hz => ?_, fun q r hq hr hz he hb => ?_, ?_⟩
  · by_cases e : q = n
    · subst e; refine ⟨h2, ?_⟩; rw [en, eg, Nat.add_comm]
    · rw [eo q e] at hz ⊢; exact i1 q hq hz
  · by_cases er : r = n
    · subst er; rw [en]; exact fun z => by cases z
    · rw [eo r er]
      by_cases e : q = n
      · subst e
        intro z
        have := h3 r hr z he
        have hb2 : D r < D q ∨ (D r = D q ∧ r < q) := hb
        omega
      · rw [eo q e] at hz; exact i2 q r hq hr hz he hb
  · have e1 : (fun r => if sO V n (g + D n) r = none then 0 else 2 * D r) = put (fun r => if V r = none then 0 else 2 * D r) n (2 * D n) := by
      funext r
      show (if sO V n (g + D n) r = none then 0 else 2 * D r) = if r = n then 2 * D n else if V r = none then 0 else 2 * D r
      by_cases e : r = n
      · subst e; rw [en, if_neg (fun z => by cases z), if_pos rfl]
      · rw [eo r e, if_neg e]
    rw [e1]
    have h4 := smG_put (G := fun r => if V r = none then 0 else 2 * D r) (t := n) (v := 2 * D n) 36
    rw [if_pos hn, if_pos hn] at h4
    have h5 : (if V n = none then 0 else 2 * D n) = 0 := if_pos h1
    have h6 : smG (put (fun r => if V r = none then 0 else 2 * D r) n (2 * D n)) 36 + (if V n = none then 0 else 2 * D n) = smG (fun r => if V r = none then 0 else 2 * D r) 36 + 2 * D n := h4
    rw [h5, ← i3] at h6; omega
theorem sch_v (hL : ∀ q, lk9 (L q)) : ∀ (f : Nat) (V : Nat → Option Nat) (g : Nat), uIn L D V g → 36 ≤ f + cnt (fun q => ¬ V q = none) 36 → ∀ q, q < 36 → (elg L D q → sch L D f V g q = some (D q + smG (sBf L D q) 36)) ∧ (¬ elg L D q → sch L D f V g q = none)
  | 0, V, g, h, hc, q, hq => by
    have h0 := cnt_all (p := fun q => ¬ V q = none) 36 (by omega) q hq
    exact ⟨fun _ => (h.1 q hq h0).2, fun z => absurd (h.1 q hq h0).1 z⟩
  | f + 1, V, g, h, hc, q, hq => by
    unfold sch
    have hx := nx_c (V := V) (L := L) (D := D) 36 (Nat.le_refl _)
    by_cases c : nxs V L D < 36
    · rw [if_pos c]
      have hx2 : nxs V L D < 36 ∧ (V (nxs V L D) = none ∧ 0 < L (nxs V L D) ∧ D (nxs V L D) < 1000000) ∧ ∀ r, r < 36 → (V r = none ∧ 0 < L r ∧ D r < 1000000) → D (nxs V L D) < D r ∨ (D (nxs V L D) = D r ∧ nxs V L D ≤ r) := hx.elim (fun z => absurd c (by unfold nxs; omega)) id
      refine sch_v hL f _ _ (uIn_s hL h c hx2.2.1.1 ⟨(lk9_p (hL _)).mp hx2.2.1.2.1, hx2.2.1.2.2⟩ (fun r hr hz he => hx2.2.2 r hr ⟨hz, (lk9_p (hL _)).mpr he.1, he.2⟩)) ?_ q hq
      have h1 := cnt_one (p := fun q => ¬ V q = none) (p' := fun q => ¬ sO V (nxs V L D) (g + D (nxs V L D)) q = none) (m := nxs V L D) (fun z => z hx2.2.1.1) (by
        show ¬ (if nxs V L D = nxs V L D then some (g + D (nxs V L D)) else V (nxs V L D)) = none
        rw [if_pos rfl]; exact fun z => by cases z) (fun q e => by
        show ¬ V q = none ↔ ¬ (if q = nxs V L D then some (g + D (nxs V L D)) else V q) = none
        rw [if_neg e]) 36
      rw [if_pos c] at h1
      rw [h1]; omega
    · rw [if_neg c]
      have hx2 : ∀ r, r < 36 → ¬ (V r = none ∧ 0 < L r ∧ D r < 1000000) := hx.elim (fun z => z.2) (fun z => absurd z.1 c)
      refine ⟨fun he => (h.1 q hq (fun z => hx2 q hq ⟨z, (lk9_p (hL _)).mpr he.1, he.2⟩)).2, fun he => Decidable.not_not.mp (fun z => he (h.1 q hq z).1)⟩
theorem unt_v (hL : ∀ q, lk9 (L q)) (q : Nat) (hq : q < 36) : (elg L D q → unt L D q = some (D q + smG (sBf L D q) 36)) ∧ (¬ elg L D q → unt L D q = none) := by
  refine sch_v hL 36 _ 0 ⟨fun q _ z => absurd rfl z, fun q r _ _ z => absurd rfl z, ?_⟩ (by omega) q hq
  exact (smG_0 36).symm
end UNT
