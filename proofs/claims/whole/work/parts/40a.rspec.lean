/-! a sign is true; one of two -/
theorem wit_01 {x : Int32} : wit x 0 1 ↔ (x = 0 ∨ x = 1) := by
  constructor
  · intro h; unfold wit at h
    have h1 := Int32.le_iff_toInt_le.mp h.1
    have h2 := Int32.le_iff_toInt_le.mp h.2
    rw [show (0 : Int32).toInt = 0 from rfl] at h1
    rw [show (1 : Int32).toInt = 1 from rfl] at h2
    by_cases e : x.toInt = 0
    · exact Or.inl (Int32.toInt_inj.mp (by rw [e]; rfl))
    · exact Or.inr (Int32.toInt_inj.mp (by rw [show x.toInt = 1 by omega]; rfl))
  · intro h; rcases h with h | h <;> (subst h; decide)
theorem tr_y1 {T : Nat → Nat → Int32} {k q : Nat} {x : Int32} (h : ¬ T k q = -9) (h1 : k = 1) (h2 : ¬ x < T k q) : b2i (tru T k x q) = 1 := b2i_t ⟨h, by rw [if_pos h1]; exact Int32.not_lt.mp h2⟩
theorem tr_y1' {T : Nat → Nat → Int32} {k q : Nat} {x : Int32} (h : ¬ T k q = -9) (h1 : k = 1) (h2 : T k q ≤ x) : b2i (tru T k x q) = 1 := b2i_t ⟨h, by rw [if_pos h1]; exact h2⟩
theorem tr_n1 {T : Nat → Nat → Int32} {k q : Nat} {x : Int32} (h1 : k = 1) (h2 : x < T k q) : b2i (tru T k x q) = 0 := b2i_f (fun z => by have h := z.2; rw [if_pos h1] at h; exact absurd h (Int32.not_le.mpr h2))
theorem tr_y {T : Nat → Nat → Int32} {k q : Nat} {x : Int32} (h : ¬ T k q = -9) (h1 : ¬ k = 1) (h2 : T k q = x) : b2i (tru T k x q) = 1 := b2i_t ⟨h, by rw [if_neg h1]; exact h2⟩
theorem tr_n {T : Nat → Nat → Int32} {k q : Nat} {x : Int32} (h1 : ¬ k = 1) (h2 : ¬ T k q = x) : b2i (tru T k x q) = 0 := b2i_f (fun z => by have h := z.2; rw [if_neg h1] at h; exact absurd h h2)
theorem tr_0 {T : Nat → Nat → Int32} {k q : Nat} {x : Int32} (h : T k q = -9) : b2i (tru T k x q) = 0 := b2i_f (fun z => z.1 h)
