/-! what the reference counts by a sign -/
theorem cnt_cg {p p' : Nat → Prop} [DecidablePred p] [DecidablePred p'] (h : ∀ q, p q ↔ p' q) : ∀ n, cnt p n = cnt p' n
  | 0 => rfl
  | n + 1 => by
    have ih := cnt_cg h n
    by_cases c : p n
    · rw [cnt_t c, cnt_t ((h n).mp c), ih]
    · rw [cnt_f c, cnt_f (fun z => c ((h n).mpr z)), ih]
theorem slF_m {T : Nat → Nat → Int32} {L : Nat → Int32} {k q : Nat} (h : ¬ L q = 0) : slF T L k q + L q * nI (cnt (fun t => 0 < L t ∧ (T k q = -9 ∨ tru T k (T k q) t)) 36) = slF T L k (q + 1) := by
  by_cases c : T k q = -9
  · rw [← slF_a h c, cnt_cg (p' := fun q => 0 < L q) (fun t => ⟨fun z => z.1, fun z => ⟨z, Or.inl c⟩⟩)]
  · rw [← slF_b h c, cnt_cg (p' := fun t => 0 < L t ∧ tru T k (T k q) t) (fun t => ⟨fun z => ⟨z.1, z.2.elim (fun e => absurd e c) id⟩, fun z => ⟨z.1, Or.inr z.2⟩⟩)]; rfl
theorem le_y {T : Nat → Nat → Int32} {L : Nat → Int32} {k : Nat} {y : Int32} (hk : k < 6) (h1 : ¬ y < 0) (h2 : ¬ 99 < y) (c : ¬ lbs T L k y = 0) : sp_learn T L (nI k) y = (nI (cnt (fun q => 0 < keep T L k y q) 36), 0) := by
  unfold sp_learn
  have e : ix (nI k) = k := nI_clamp (by omega)
  rw [if_neg (fun z => z (nI_kd hk)), if_neg h1, if_neg h2, e, if_neg c]
theorem le_n {T : Nat → Nat → Int32} {L : Nat → Int32} {k : Nat} {y : Int32} (hk : k < 6) (h1 : ¬ y < 0) (h2 : ¬ 99 < y) (c : lbs T L k y = 0) : sp_learn T L (nI k) y = (-3, 3) := by
  unfold sp_learn
  have e : ix (nI k) = k := nI_clamp (by omega)
  rw [if_neg (fun z => z (nI_kd hk)), if_neg h1, if_neg h2, e, if_pos c]
