/-! the reference's worlds -/
/-- its refusals: seven, the first unused -/
def rf7 (Rf : Nat → Int32) : Nat → Int32 := fun i => if i = 0 then 0 else Rf (i - 1)
theorem rf7_b {Rf : Nat → Int32} {j : Nat} (h : 0 < j) : upd (rf7 Rf) j (rf7 Rf j + 1) = rf7 (bmp Rf j) := by
  funext i
  unfold upd rf7 bmp
  rw [if_neg (by omega : ¬ j = 0), if_neg (by omega : ¬ j = 0)]
  by_cases hi : i = j
  · subst hi; rw [if_pos rfl, if_neg (by omega : ¬ i = 0)]; unfold upd; rw [if_pos rfl]
  · rw [if_neg hi]
    by_cases h0 : i = 0
    · rw [if_pos h0, if_pos h0]
    · rw [if_neg h0, if_neg h0]; unfold upd; rw [if_neg (by omega)]
/-- its image: kinds, likely numbers, five numbers -/
def kp (K L S : Nat → Int32) : Nat → Int32 := fun i => if i < 36 then K i else if i < 72 then L (i - 36) else S (i - 72)
theorem nbM_0 : ∀ q, q < 36 → (¬ q < 6 → nI q - 6 = besM (nb q 0)) ∧ (q < 6 → -9 = besM (nb q 0)) := by decide +kernel
theorem nbM_1 : ∀ q, q < 36 → (¬ q % 6 = 0 → nI q - 1 = besM (nb q 1)) ∧ (q % 6 = 0 → -9 = besM (nb q 1)) := by decide +kernel
theorem nbM_2 : ∀ q, q < 36 → (¬ q % 6 = 5 → nI (q + 1) = besM (nb q 2)) ∧ (q % 6 = 5 → -9 = besM (nb q 2)) := by decide +kernel
theorem nbM_3 : ∀ q, q < 36 → (q ≤ 29 → nI (q + 6) = besM (nb q 3)) ∧ (29 < q → -9 = besM (nb q 3)) := by decide +kernel
/-- within -/
abbrev wit (v a b : Int32) : Prop := a ≤ v ∧ v ≤ b
theorem wit_sq {x : Int32} : wit x 0 35 ↔ sq x := by constructor <;> (intro h; unfold wit sq at *; grind)
theorem wit_kd {x : Int32} : wit x 0 5 ↔ kd x := by constructor <;> (intro h; unfold wit kd at *; grind)
