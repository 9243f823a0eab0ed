/-! the start -/
def sS0 : Nat → Int32 := fun j => [0, 4, 2, 30, 9].getD j 0
theorem sS0_a : ∀ j, j < 5 → upd (upd (upd (upd (upd (fun _ => 0) 0 0) 1 4) 2 2) 3 30) 4 9 j = sS0 j := by decide
theorem sS0_b : ∀ j, j < 5 → upd (upd (upd (upd (fun _ => 0) 1 4) 2 2) 3 30) 4 9 j = sS0 j := by decide
def on1 (i : Nat) : Nat → Int32 := fun k => if k < i then 1 else 0
theorem on1_0 : (fun _ => 0) = on1 0 := by funext k; exact (if_neg (Nat.not_lt_zero k)).symm
theorem on1_s {i : Nat} : upd (on1 i) i 1 = on1 (i + 1) := by
  funext k
  show (if k = i then (1 : Int32) else if k < i then 1 else 0) = if k < i + 1 then 1 else 0
  by_cases e : k = i
  · rw [if_pos e, if_pos (by omega)]
  · rw [if_neg e]
    by_cases c : k < i
    · rw [if_pos c, if_pos (by omega)]
    · rw [if_neg c, if_neg (by omega)]
theorem on1_e : ∀ k, k < 36 → on1 36 k = (fun _ => (1 : Int32)) k := fun k hk => if_pos hk
theorem rf7_0 : (fun _ => 0) = rf7 (fun _ => 0) := by funext k; unfold rf7; split <;> rfl
