/-! within one and two -/
theorem wit_12 {x : Int32} : wit x 1 2 ↔ (x = 1 ∨ x = 2) := by
  constructor
  · intro h; unfold wit at h
    have h1 := Int32.le_iff_toInt_le.mp h.1
    have h2 := Int32.le_iff_toInt_le.mp h.2
    rw [show (1 : Int32).toInt = 1 from rfl] at h1
    rw [show (2 : Int32).toInt = 2 from rfl] at h2
    by_cases e : x.toInt = 1
    · exact Or.inl (Int32.toInt_inj.mp (by rw [e]; rfl))
    · exact Or.inr (Int32.toInt_inj.mp (by rw [show x.toInt = 2 by omega]; rfl))
  · intro h; rcases h with h | h <;> (subst h; decide)
